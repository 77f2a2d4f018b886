import java.util.ArrayList;
import java.util.List;

/**
 * What stays as it is (terms, 2): a call is made on one of two objects that are alike, then all that
 * both answer from there on is compared.
 */
public final class StayTest {
    private interface Call {
        long on(SunnyOnes x);
    }

    private static final class Named {
        final String name;
        final Call call;
        final long due;

        Named(String name, long due, Call call) {
            this.name = name;
            this.call = call;
            this.due = due;
        }
    }

    private static final int LEAST = Integer.MIN_VALUE;
    private static final int MOST = Integer.MAX_VALUE;

    private static List<Named> all = new ArrayList<>();

    private static void add(String name, long due, Call call) {
        all.add(new Named(name, due, call));
    }

    private static long is(boolean b) {
        return b ? 1 : 0;
    }

    /** Four PEOPLE, two of them at PLACE 1, some of everything kept, two numbers in the ROW, four signs of THE TEXT. */
    private static SunnyOnes rich() {
        SunnyOnes x = Check.world("5;9;3;0", "100;091;122;143");
        Check.skies(x, "9073");
        Check.rule(x, "s*w/9-k+a/8");
        x.days(1);
        x.keep(0);
        Check.eq("deeds(0)", x.deeds(0), 1);
        x.moves(0, 1);
        x.days(1);
        Check.eq("deeds(3)", x.deeds(3), 1);
        x.doubts(1, 3);
        x.saw(0, 7);
        x.saw(2, 2);
        x.heard(0, 5);
        x.heard(4, 0);
        x.later(1, 3);
        x.sign(0x31323334);
        return x;
    }

    /** Answers of all sorts, from this state and from some that come of it. */
    private static List<Long> future(SunnyOnes x) {
        List<Long> told = new ArrayList<>();
        row(x, told);
        state(x, told);
        asked(x, told);
        for (int i = 0; i < 5; i++) {
            told.add((long) x.undo());
            state(x, told);
        }
        told.add(is(x.again(0)));
        state(x, told);
        told.add(is(x.again(1)));
        x.end(0);
        told.add((long) x.law());
        row(x, told);
        told.add((long) x.denies());
        told.add((long) x.forget());
        for (int day = 0; day < 9; day++) {
            told.add((long) x.days(1));
            state(x, told);
        }
        return told;
    }

    private static void row(SunnyOnes x, List<Long> told) {
        for (int i = 0; i <= x.count(11); i++) {
            told.add(Check.row(x, i));
        }
    }

    private static void state(SunnyOnes x, List<Long> told) {
        for (int what = 0; what <= 11; what++) {
            told.add((long) x.count(what));
        }
        for (int i = 0; i <= 7; i++) {
            for (int what = 0; what <= 3; what++) {
                told.add(Check.one(x, i, what));
                told.add(Check.place(x, i, what));
            }
        }
    }

    private static void asked(SunnyOnes x, List<Long> told) {
        told.add((long) x.order());
        row(x, told);
        told.add((long) x.guess());
        row(x, told);
        told.add((long) x.fits());
        row(x, told);
        told.add((long) x.asks());
        row(x, told);
        told.add((long) x.rooms());
        row(x, told);
        told.add((long) x.ways(0, 9, 3));
        row(x, told);
        told.add((long) x.later(1, 50));
        row(x, told);
    }

    private static void refusals() {
        all = new ArrayList<>();
        add("end(5)", 0, x -> is(x.end(5)));
        add("end(-1)", 0, x -> is(x.end(-1)));
        add("end(least)", 0, x -> is(x.end(LEAST)));
        add("end(most)", 0, x -> is(x.end(MOST)));
        for (int one : new int[] {-1, 4, 7, LEAST, MOST}) {
            add("one", Check.THROWS, x -> Check.one(x, one, 0));
            add("place", Check.THROWS, x -> Check.place(x, one, 0));
            add("moves", -1, x -> x.moves(one, 0));
            add("moves", -1, x -> x.moves(0, one));
            add("swaps", -1, x -> x.swaps(one, 0));
            add("swaps", -1, x -> x.swaps(0, one));
            add("swaps", -1, x -> x.swaps(one, one));
            add("deeds", -1, x -> x.deeds(one));
            add("doubts", -1, x -> x.doubts(one, 1));
            add("later", -1, x -> x.later(one, 1));
            add("when", -1, x -> x.when(one, 1));
            add("even", -1, x -> x.even(one, 0));
            add("even", -1, x -> x.even(0, one));
            add("even", -1, x -> x.even(one, one));
            add("summer", -1, x -> x.summer(one, 1));
            add("nights", -1, x -> x.nights(one, 1));
            add("comes", -1, x -> x.comes(one, 1));
            add("ways", -1, x -> x.ways(one, 1, 1));
            add("hides", -1, x -> x.hides(one, 1));
            add("meets", -1, x -> x.meets(one, 0, 1));
            add("meets", -1, x -> x.meets(0, one, 1));
            add("meets", -1, x -> x.meets(one, one, 1));
            add("brightest", -1, x -> x.brightest(one));
            add("saw", -1, x -> x.saw(one, 1));
            add("chance", -1, x -> x.chance(one, 1, 1, 1));
        }
        for (int v : new int[] {-1, LEAST}) {
            add("sheet", -2, x -> x.sheet(0, v, 1, 1));
            add("sheet", -2, x -> x.sheet(1, v, 1, 1));
            add("sheet", -2, x -> x.sheet(2, v, 1, 1));
            add("sheet", -1, x -> x.sheet(v, 1, 1, 1));
            add("days", -1, x -> x.days(v));
            add("later", -1, x -> x.later(0, v));
            add("apart", -1, x -> x.apart(v));
            add("when", -1, x -> x.when(0, v));
            add("comes", -1, x -> x.comes(0, v));
            add("ways", -1, x -> x.ways(0, v, 1));
            add("ways", -1, x -> x.ways(0, 1, v));
            add("saw", -1, x -> x.saw(0, v));
            add("chance", -1, x -> x.chance(0, v, 1, 1));
            add("chance", -1, x -> x.chance(0, 1, v, 1));
            add("chance", -1, x -> x.chance(0, 1, 1, v));
            add("parasol", -1, x -> x.parasol(v));
            add("rests", -1, x -> x.rests(v));
            add("keep", 0, x -> is(x.keep(v)));
            add("again", 0, x -> is(x.again(v)));
            add("count", -1, x -> x.count(v));
            add("row", Check.THROWS, x -> Check.row(x, v));
            add("one", Check.THROWS, x -> Check.one(x, 0, v));
            add("place", Check.THROWS, x -> Check.place(x, 0, v));
            add("heard", -1, x -> x.heard(v, 0));
            for (int what = 0; what <= 4; what++) {
                int w = what;
                add("heard", -1, x -> x.heard(w, v));
            }
        }
        for (int v : new int[] {0, -1, LEAST}) {
            add("doubts", -1, x -> x.doubts(0, v));
            add("summer", -1, x -> x.summer(0, v));
            add("nights", -1, x -> x.nights(0, v));
            add("hides", -1, x -> x.hides(0, v));
            add("meets", -1, x -> x.meets(0, 1, v));
            add("years", -1, x -> x.years(1, v));
        }
        tooLarge();
        noneOfThese();
    }

    private static void tooLarge() {
        for (int add : new int[] {0, 1, MOST}) {
            add("sheet", -1, x -> x.sheet(4 + (add & 1), 1, 1, 1));
            add("sheet", -1, x -> x.sheet(0, beyond(6, add), 1, 1));
            add("sheet", -1, x -> x.sheet(2, beyond(6, add), 1, 1));
            add("sheet", -1, x -> x.sheet(3, beyond(6, add), 1, 1));
            add("days", -1, x -> x.days(beyond(60, add)));
            add("doubts", -1, x -> x.doubts(0, beyond(99, add)));
            add("later", -1, x -> x.later(0, beyond(99, add)));
            add("when", -1, x -> x.when(0, beyond(9999, add)));
            add("summer", -1, x -> x.summer(0, beyond(20, add)));
            add("nights", -1, x -> x.nights(0, beyond(99, add)));
            add("apart", -1, x -> x.apart(beyond(99, add)));
            add("comes", -1, x -> x.comes(0, beyond(9999, add)));
            add("ways", -1, x -> x.ways(0, beyond(36, add), 1));
            add("ways", -1, x -> x.ways(0, 1, beyond(4, add)));
            add("hides", -1, x -> x.hides(0, beyond(60, add)));
            add("meets", -1, x -> x.meets(0, 1, beyond(60, add)));
            add("saw", -1, x -> x.saw(0, beyond(9, add)));
            add("heard", -1, x -> x.heard(beyond(4, add), 0));
            add("heard", -1, x -> x.heard(0, beyond(9999, add)));
            add("heard", -1, x -> x.heard(1, beyond(5, add)));
            add("heard", -1, x -> x.heard(2, beyond(99, add)));
            add("heard", -1, x -> x.heard(3, beyond(9, add)));
            add("heard", -1, x -> x.heard(4, beyond(1, add)));
            add("chance", -1, x -> x.chance(0, beyond(8, add), 1, 1));
            add("chance", -1, x -> x.chance(0, 1, beyond(10, add), 1));
            add("chance", -1, x -> x.chance(0, 1, 1, beyond(72, add)));
            add("parasol", -1, x -> x.parasol(beyond(60, add)));
            add("rests", -1, x -> x.rests(beyond(20, add)));
            add("years", -1, x -> x.years(1, beyond(60, add)));
            add("keep", 0, x -> is(x.keep(beyond(1, add))));
            add("again", 0, x -> is(x.again(beyond(1, add))));
            add("count", -1, x -> x.count(beyond(12, add)));
            add("row", Check.THROWS, x -> Check.row(x, beyond(1, add)));
            add("one", Check.THROWS, x -> Check.one(x, 0, beyond(3, add)));
            add("place", Check.THROWS, x -> Check.place(x, 0, beyond(2, add)));
        }
    }

    private static int beyond(int most, int add) {
        return add == MOST ? MOST : most + 1 + add;
    }

    private static void noneOfThese() {
        add("again(1), nothing kept", 0, x -> is(x.again(1)));
        add("moves(0, 1), there", -2, x -> x.moves(0, 1));
        add("swaps(0, 1), at the same", -2, x -> x.swaps(0, 1));
        add("swaps(2, 2), like ones", -1, x -> x.swaps(2, 2));
        add("even(2, 2), like ones", -1, x -> x.even(2, 2));
        add("meets(2, 2, 1), like ones", -1, x -> x.meets(2, 2, 1));
        add("when(0, 9999)", -2, x -> x.when(0, 9999));
        add("comes(0, 9999)", -2, x -> x.comes(0, 9999));
        add("comes(0, 0)", -2, x -> x.comes(0, 0));
    }

    private static void questions() {
        all = new ArrayList<>();
        add("later", 0, x -> x.later(0, 99));
        add("when", 0, x -> x.when(0, 20));
        add("even", 0, x -> x.even(1, 3));
        add("passes", 0, x -> x.passes());
        add("order", 0, x -> x.order());
        add("summer", 0, x -> x.summer(1, 20));
        add("nights", 0, x -> x.nights(2, 99));
        add("apart", 0, x -> x.apart(99));
        add("sunniest", 0, x -> x.sunniest());
        add("comes", 0, x -> x.comes(0, 20));
        add("comes", 0, x -> x.comes(0, 14));
        add("comes", 0, x -> x.comes(0, 45));
        add("ways", 0, x -> x.ways(0, 9, 4));
        add("hides", 0, x -> x.hides(0, 60));
        add("meets", 0, x -> x.meets(0, 2, 60));
        add("rooms", 0, x -> x.rooms());
        add("cellars", 0, x -> x.cellars());
        add("brightest", 0, x -> x.brightest(1));
        add("guess", 0, x -> x.guess());
        add("looks", 0, x -> x.looks());
        add("fits", 0, x -> x.fits());
        add("asks", 0, x -> x.asks());
        add("chance", 0, x -> x.chance(0, 8, 5, 20));
        add("parasol", 0, x -> x.parasol(60));
        add("rests", 0, x -> x.rests(20));
        add("years", 0, x -> x.years(77, 60));
        add("years", 0, x -> x.years(-77, 60));
        add("count", 0, x -> x.count(7));
        add("row", 0, x -> x.row(0));
        add("one", 0, x -> x.one(0, 3));
        add("place", 0, x -> x.place(0, 2));
    }

    private static void compare(String told, SunnyOnes x, SunnyOnes y) {
        List<Long> got = future(x);
        List<Long> due = future(y);
        Check.eq(told + ": answers then", got.size(), due.size());
        for (int i = 0; i < Math.min(got.size(), due.size()); i++) {
            Check.eq(told + ": answer " + i + " then", got.get(i), due.get(i));
        }
    }

    private static void refusedCallsChangeNothing() {
        Check.part("refused");
        refusals();
        for (Named n : all) {
            SunnyOnes x = rich();
            SunnyOnes y = rich();
            Check.eq(n.name, n.call.on(x), n.due);
            Check.eq(n.name + ": THE TEXT", x.count(12), 4);
            compare(n.name, x, y);
        }
    }

    private static void questionsChangeTheRowAlone() {
        Check.part("questions");
        questions();
        for (Named n : all) {
            SunnyOnes x = rich();
            SunnyOnes y = rich();
            n.call.on(x);
            Check.eq(n.name + ": THE TEXT", x.count(12), 4);
            x.guess();
            y.guess();
            compare(n.name, x, y);
        }
    }

    /** A wrong text is gone, and nothing else. */
    private static void wrongTexts() {
        Check.part("wrong texts");
        all = new ArrayList<>();
        add("places 4;x", -3, x -> Check.type(x, "4;x").places());
        add("places 4;5;6", -5, x -> Check.type(x, "4;5;6").places());
        add("people 100;10", -7, x -> Check.type(x, "100;10").people());
        add("people 104", -3, x -> Check.type(x, "104").people());
        add("skies", -1, x -> Check.type(x, "").skies());
        add("skies 12x", -3, x -> Check.type(x, "12x").skies());
        add("rule (s", -3, x -> Check.type(x, "(s").rule());
        add("life n9m", -4, x -> Check.type(x, "n9m").life());
        add("life n9d3m0x", -7, x -> Check.type(x, "n9d3m0x").life());
        add("law s*", -10002, x -> Check.type(x, "s*").law());
        for (Named n : all) {
            SunnyOnes x = rich();
            SunnyOnes y = rich();
            Check.eq(n.name, n.call.on(x), n.due);
            Check.eq(n.name + ": THE TEXT is empty", x.count(12), 0);
            y.end(0);
            compare(n.name, x, y);
        }
    }

    /** An empty text of PLACES, of PEOPLE, of A LIFE, of a law changes nothing else. */
    private static void emptyTexts() {
        Check.part("empty texts");
        SunnyOnes x = rich();
        x.end(0);
        Check.eq("places", x.places(), 0);
        Check.eq("people", x.people(), 0);
        compare("places, people", x, rich());
        x = rich();
        SunnyOnes y = rich();
        x.end(0);
        Check.eq("life", x.life(), 0);
        Check.row("life", x, 0, x.count(4));
        x.guess();
        y.guess();
        compare("life", x, y);
    }

    /** THE TEXT is left alone by all but those who read it; the ROW by those who do not tell of it. */
    private static void doneCalls() {
        Check.part("done");
        all = new ArrayList<>();
        add("sheet", 18, x -> x.sheet(2, 4, 0, 3));
        add("sheet", -3, x -> x.sheet(3, 0, 0, 0));
        add("moves", 11, x -> x.moves(0, 3));
        add("swaps", 1, x -> x.swaps(0, 2));
        add("deeds", 2, x -> x.deeds(3));
        add("doubts", 0, x -> x.doubts(0, 99));
        add("undo", 5, x -> x.undo());
        add("saw", 3, x -> x.saw(0, 9));
        add("denies", 2, x -> x.denies());
        add("heard", 3, x -> x.heard(0, 9));
        add("forget", 2, x -> x.forget());
        add("parasol", 1, x -> x.parasol(4));
        add("keep", 1, x -> is(x.keep(1)));
        add("again", 1, x -> is(x.again(0)));
        add("end", 1, x -> is(x.end(4)));
        for (Named n : all) {
            SunnyOnes x = rich();
            long first = Check.row(x, 0);
            long second = Check.row(x, 1);
            Check.eq(n.name, n.call.on(x), n.due);
            Check.eq(n.name + ": THE TEXT", x.count(12), 4);
            Check.row(n.name + ": the ROW", x, first, second);
        }
        all = new ArrayList<>();
        add("places", 1, x -> Check.type(x, "1").places());
        add("people", 1, x -> Check.type(x, "100").people());
        add("skies", 1, x -> Check.type(x, "1").skies());
        add("rule", 0, x -> Check.type(x, "1").rule());
        add("rule", 0, x -> Check.type(x, "").rule());
        for (Named n : all) {
            SunnyOnes x = rich();
            long first = Check.row(x, 0);
            long second = Check.row(x, 1);
            Check.eq(n.name, n.call.on(x), n.due);
            Check.eq(n.name + ": THE TEXT", x.count(12), 0);
            Check.row(n.name + ": the ROW", x, first, second);
        }
        SunnyOnes x = rich();
        x.days(1);
        Check.eq("days: THE TEXT", x.count(12), 4);
        Check.eq("of six acts and one", x.count(10), 7);
    }

    /** A full TEXT, nothing to undo, ten seen, twelve heard. */
    private static void full() {
        Check.part("full");
        SunnyOnes x = rich();
        SunnyOnes y = rich();
        for (int i = x.count(12); i < 80; i += 4) {
            x.sign(0x33333333);
            y.sign(0x33333333);
        }
        Check.eq("sign", x.sign(7), -1);
        Check.eq("THE TEXT", x.count(12), 80);
        compare("sign", x, y);
        x = rich();
        y = rich();
        for (int i = 0; i < 8; i++) {
            x.saw(0, 7);
            y.saw(0, 7);
        }
        Check.eq("saw", x.saw(1, 1), -1);
        compare("saw", x, y);
        x = rich();
        y = rich();
        for (int i = 0; i < 10; i++) {
            x.heard(0, 5);
            y.heard(0, 5);
        }
        Check.eq("heard", x.heard(0, 9999), -1);
        compare("heard", x, y);
        x = rich();
        y = rich();
        x.again(0);
        y.again(0);
        Check.eq("undo", x.undo(), -1);
        compare("undo", x, y);
    }

    public static void main(String[] args) {
        refusedCallsChangeNothing();
        questionsChangeTheRowAlone();
        wrongTexts();
        emptyTexts();
        doneCalls();
        full();
        Check.done();
    }
}
