/** Promises 18 to 26: how old. */
public final class OldTest {
    private static final int WILD = Integer.MIN_VALUE;

    private static void later() {
        Check.part("promise 18");
        SunnyOnes x = Check.skies(Check.family(), "905");
        Check.eq("later(0, 0)", x.later(0, 0), 10);
        Check.row("later(0, 0)", x, 9, 30);
        Check.eq("later(0, 1)", x.later(0, 1), 19);
        Check.row("later(0, 1)", x, 0, 43);
        Check.eq("later(2, 99)", x.later(2, 99), 8 + 33 * 6);
        Check.row("later(2, 99)", x, 4, 30 + 33 * 20);
        int[][] wrong = {{0, 100}, {0, -1}, {3, 0}, {-1, 0}, {0, WILD}};
        for (int[] w : wrong) {
            Check.eq("later(" + w[0] + ", " + w[1] + ")", x.later(w[0], w[1]), -1);
        }
        Check.row("the ROW stays", x, 4, 690);
        Check.eq("nothing changes", x.count(4), 30);
        Check.eq("nothing changes", x.count(2), 0);
    }

    private static void when() {
        Check.part("promise 19");
        SunnyOnes x = Check.family();
        Check.eq("when(0, 0)", x.when(0, 0), 0);
        Check.row("when(0, 0)", x, 10);
        Check.eq("when(0, 11)", x.when(0, 11), 1);
        Check.row("when(0, 11)", x, 19);
        Check.eq("when(0, 901)", x.when(0, 901), 99);
        Check.row("when(0, 901)", x, 901);
        Check.eq("when(0, 902)", x.when(0, 902), -2);
        Check.eq("when(1, 13)", x.when(1, 13), -2);
        Check.eq("when(0, 9999)", x.when(0, 9999), -2);
        SunnyOnes old = Check.rule(Check.world("1", "990;000"), "9");
        for (int i = 0; i < 18; i++) {
            old.days(60);
        }
        old.days(10);
        Check.eq("AGE 9909", old.when(0, 9999), 10);
        Check.row("9999 at most", old, 9999);
        old.days(10);
        Check.eq("AGE 9999", old.when(0, 9999), 0);
        Check.row("AGE 9999", old, 9999);
        Check.eq("AGE 9900", old.when(1, 9998), 11);
        Check.row("AGE 9900", old, 9999);
        SunnyOnes young = Check.world("0", "000");
        Check.eq("AGE 0", young.when(0, 0), 0);
        Check.row("AGE 0", young, 0);
        Check.eq("AGE 1", young.when(0, 1), -2);
        int[][] wrong = {{0, 10000}, {0, -1}, {3, 0}, {-1, 0}};
        for (int[] w : wrong) {
            Check.eq("when(" + w[0] + ", " + w[1] + ")", x.when(w[0], w[1]), -1);
        }
        Check.row("the ROW stays", x, 901);
    }

    private static void even() {
        Check.part("promise 20");
        SunnyOnes x = Check.family();
        Check.eq("even(1, 2)", x.even(1, 2), 1);
        Check.row("even(1, 2)", x, 12, 1);
        Check.eq("even(2, 1)", x.even(2, 1), 1);
        Check.eq("even(0, 1)", x.even(0, 1), -2);
        Check.row("the ROW stays", x, 12, 1);
        int[][] wrong = {{0, 0}, {0, 3}, {3, 0}, {-1, 0}, {0, -1}, {3, 3}};
        for (int[] w : wrong) {
            Check.eq("even(" + w[0] + ", " + w[1] + ")", x.even(w[0], w[1]), -1);
        }
        x.moves(1, 2);
        x.doubts(1, 4);
        Check.eq("always", x.even(2, 1), 0);
        Check.row("always", x, 8, 100);
        SunnyOnes sky = Check.skies(Check.world("9;0", "091;000"), "005");
        Check.eq("by SKY of each DAY", sky.even(0, 1), -2);
        Check.skies(sky, "0045");
        Check.eq("by SKY of each DAY", sky.even(0, 1), 4);
        Check.row("by SKY of each DAY", sky, 9, 3);
        Check.rule(sky, "(n=6)*9");
        Check.eq("by DAY", sky.even(0, 1), -2);
        Check.rule(sky, "(n=6)*9*(i=1)");
        Check.eq("by DAY", sky.even(0, 1), 7);
        Check.row("by DAY", sky, 9, 7);
        Check.rule(sky, "(a<9)*(i=1)*3");
        Check.eq("by AGE", sky.even(1, 0), 3);
        Check.row("by AGE", sky, 9, 97);
        SunnyOnes old = Check.rule(Check.world("1", "990;000"), "9");
        for (int i = 0; i < 18; i++) {
            old.days(60);
        }
        Check.eq("9999 at most", old.even(0, 1), 31);
        Check.row("9999 at most", old, 9999, 69);
        SunnyOnes last = Check.world("1;2", "991;000");
        Check.rule(last, "1-p");
        Check.eq("at the last", last.even(0, 1), 99);
        Check.row("at the last", last, 99, 1);
        last.sign(0);
        Check.eq("DAYS", last.days(1), 100);
        last.undo();
        Check.rule(last, "(n=1)*2*i");
        Check.eq("too late", last.even(1, 0), -2);
        Check.row("the ROW stays", last, 1, 0);
    }

    private static void passes() {
        Check.part("promise 21");
        SunnyOnes x = Check.family();
        Check.eq("passes()", x.passes(), 1);
        Check.row("passes()", x, 0, 1);
        x.days(1);
        Check.eq("passes()", x.passes(), -2);
        Check.row("the ROW stays", x, 13, 0);
        Check.eq("without PEOPLE", new SunnyOnes().passes(), -2);
        SunnyOnes like = Check.rule(Check.world("1", "100;100"), "i");
        Check.eq("of equal ones the first", like.passes(), 1);
        Check.row("of equal ones the first", like, 1, 0);
        SunnyOnes behind = Check.rule(Check.world("1", "100;090"), "i");
        Check.eq("as old is not yet", behind.passes(), 2);
        SunnyOnes ahead = Check.rule(Check.world("1", "090;100"), "1-i");
        Check.eq("as old is enough", ahead.passes(), 1);
        Check.row("as old is enough", ahead, 0, 1);
        SunnyOnes last = Check.rule(Check.world("1", "980;000"), "i");
        Check.eq("at the last", last.passes(), 99);
        SunnyOnes never = Check.rule(Check.world("1", "990;000"), "i");
        Check.eq("one DAY too late", never.passes(), -2);
    }

    private static void order() {
        Check.part("promise 22");
        SunnyOnes x = Check.family();
        Check.eq("order()", x.order(), 3);
        Check.row("order()", x, 1, 0, 2);
        SunnyOnes like = Check.world("1", "050;990;050;000;990;060;000");
        Check.eq("of like ones", like.order(), 7);
        Check.row("of like ones", like, 1, 4, 5, 0, 2, 3, 6);
        SunnyOnes none = new SunnyOnes();
        none.sunniest();
        Check.eq("without PEOPLE", none.order(), 0);
        Check.row("without PEOPLE", none);
    }

    private static void summer() {
        Check.part("promise 23");
        SunnyOnes x = Check.skies(Check.family(), "1292");
        Check.eq("summer(0, 1)", x.summer(0, 1), 9);
        Check.row("summer(0, 1)", x, 2);
        Check.eq("summer(0, 2)", x.summer(0, 2), 11);
        Check.row("summer(0, 2)", x, 1);
        Check.eq("summer(0, 20)", x.summer(0, 20), 70);
        Check.row("summer(0, 20)", x, 0);
        Check.eq("summer(1, 5)", x.summer(1, 5), 0);
        Check.row("summer(1, 5)", x, 0);
        int[][] wrong = {{0, 0}, {0, 21}, {3, 1}, {-1, 1}, {0, WILD}};
        for (int[] w : wrong) {
            Check.eq("summer(" + w[0] + ", " + w[1] + ")", x.summer(w[0], w[1]), -1);
        }
        Check.row("the ROW stays", x, 0);
        SunnyOnes end = Check.rule(Check.world("1", "000"), "9*(a=9)+1*(a<9)*(n=1)");
        Check.eq("far off", end.summer(0, 2), 10);
        Check.row("far off", end, 57);
        SunnyOnes out = Check.rule(Check.world("1", "000"), "9*(a=9)+1*(a<9)*(n=2)");
        Check.eq("the last two", out.summer(0, 2), 10);
        Check.row("the last two", out, 58);
        SunnyOnes beyond = Check.rule(Check.world("1", "000"), "9*(a=9)+1*(a<9)*(n=3)");
        Check.eq("beyond them", beyond.summer(0, 2), 1);
        Check.row("beyond them", beyond, 2);
        Check.eq("HOURS that another call looked at", beyond.nights(0, 99), 99 - 20);
        Check.eq("beyond them", beyond.summer(0, 2), 1);
        Check.row("beyond them", beyond, 2);
    }

    private static void nights() {
        Check.part("promise 24");
        SunnyOnes x = Check.skies(Check.family(), "0900900090");
        Check.eq("nights(0, 10)", x.nights(0, 10), 7);
        Check.row("nights(0, 10)", x, 3, 5);
        Check.eq("nights(0, 5)", x.nights(0, 5), 3);
        Check.row("nights(0, 5)", x, 2, 2);
        Check.eq("nights(0, 2)", x.nights(0, 2), 1);
        Check.row("nights(0, 2)", x, 1, 0);
        Check.eq("nights(0, 99)", x.nights(0, 99), 69);
        Check.row("nights(0, 99)", x, 3, 5);
        Check.eq("nights(1, 99)", x.nights(1, 99), 99);
        Check.row("nights(1, 99)", x, 99, 0);
        x.days(1);
        Check.eq("nights(0, 1)", x.nights(0, 1), 0);
        Check.row("nights(0, 1)", x, 0, 0);
        int[][] wrong = {{0, 0}, {0, 100}, {3, 1}, {-1, 1}};
        for (int[] w : wrong) {
            Check.eq("nights(" + w[0] + ", " + w[1] + ")", x.nights(w[0], w[1]), -1);
        }
        Check.row("the ROW stays", x, 0, 0);
    }

    private static void apart() {
        Check.part("promise 25");
        SunnyOnes x = Check.family();
        Check.eq("apart(0)", x.apart(0), 4);
        Check.row("apart(0)", x, 1, 2);
        Check.eq("apart(2)", x.apart(2), 16);
        Check.row("apart(2)", x, 0, 1);
        Check.eq("apart(99)", x.apart(99), 901 - 12);
        Check.eq("apart(100)", x.apart(100), -1);
        Check.eq("apart(-1)", x.apart(-1), -1);
        Check.row("the ROW stays", x, 0, 1);
        SunnyOnes like = Check.world("0", "100;300;100;300");
        Check.eq("the least row", like.apart(5), 20);
        Check.row("the least row", like, 0, 1);
        SunnyOnes same = Check.world("5", "100;100");
        Check.eq("as old", same.apart(5), 0);
        Check.row("as old", same, 0, 1);
        SunnyOnes alone = Check.world("5", "100");
        Check.eq("alone", alone.apart(5), -2);
        Check.eq("alone", alone.apart(100), -1);
        Check.eq("nobody", new SunnyOnes().apart(-1), -1);
        Check.eq("nobody", new SunnyOnes().apart(0), -2);
    }

    private static void sunniest() {
        Check.part("promise 26");
        SunnyOnes x = Check.skies(Check.family(), "18288");
        Check.eq("sunniest()", x.sunniest(), 1);
        Check.row("sunniest()", x, 11);
        x.days(2);
        Check.eq("sunniest()", x.sunniest(), 1);
        SunnyOnes end = Check.rule(Check.world("1", "000"), "(a=8)*(n=3)*9+(a<8)*(n=4)");
        Check.eq("at the last", end.sunniest(), 59);
        Check.row("at the last", end, 9);
        SunnyOnes beyond = Check.rule(Check.world("1", "000"), "(a=8)*(n=4)*9+(a<8)*(n=4)");
        Check.eq("beyond it", beyond.sunniest(), 4);
        Check.row("beyond it", beyond, 1);
        SunnyOnes none = new SunnyOnes();
        Check.eq("without PEOPLE", none.sunniest(), 0);
        Check.row("without PEOPLE", none, 0);
    }

    public static void main(String[] args) {
        later();
        when();
        even();
        passes();
        order();
        summer();
        nights();
        apart();
        sunniest();
        Check.done();
    }
}
