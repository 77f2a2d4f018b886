/** Promises 11 to 17: days, moving, deeds, a life, undoing. */
public final class DaysTest {
    private static void ages(String what, SunnyOnes x, int... due) {
        for (int one = 0; one < due.length; one++) {
            Check.eq(what + ": AGE of " + one, Check.one(x, one, 0), due[one]);
        }
    }

    private static void spots(String what, SunnyOnes x, int... due) {
        for (int one = 0; one < due.length; one++) {
            Check.eq(what + ": PLACE of " + one, Check.one(x, one, 1), due[one]);
        }
    }

    private static void days() {
        Check.part("promise 11");
        SunnyOnes x = Check.skies(Check.family(), "905");
        Check.eq("days(3)", x.days(3), 50);
        Check.row("days(3)", x, 20, 1);
        ages("days(3)", x, 24, 12, 14);
        Check.eq("days(0)", x.days(0), 50);
        Check.row("days(0)", x, 0, 0);
        Check.eq("days(60)", x.days(60), 450);
        Check.row("days(60)", x, 400, 20);
        Check.eq("count(2)", x.count(2), 63);
        Check.eq("days(61)", x.days(61), -1);
        Check.eq("days(-1)", x.days(-1), -1);
        Check.row("the ROW stays", x, 400, 20);
        Check.eq("count(2)", x.count(2), 63);
        SunnyOnes none = new SunnyOnes();
        Check.eq("without PEOPLE", none.days(60), 0);
        Check.row("without PEOPLE", none, 0, 60);
        SunnyOnes old = Check.rule(Check.family(), "9");
        for (int i = 0; i < 18; i++) {
            old.days(60);
        }
        ages("near the end", old, 9730, 9732, 9728);
        Check.eq("beyond it", old.days(30), 9999 + 9999 + 9998);
        Check.row("HOURS are whole", old, 810, 0);
        old.days(1);
        ages("at the end", old, 9999, 9999, 9999);
        SunnyOnes by = Check.rule(Check.world("9", "090;180"), "a");
        Check.eq("by AGE", by.days(2), 9 + 9 + 8 + 18 + 8 + 6);
        Check.row("by AGE", by, 9 + 8 + 8 + 6, 0);
    }

    private static void moves() {
        Check.part("promise 12");
        SunnyOnes x = Check.family();
        Check.eq("moves(2, 0)", x.moves(2, 0), 12);
        Check.eq("moves(2, 0)", x.moves(2, 0), -2);
        Check.eq("moves(0, 1)", x.moves(0, 1), 10);
        spots("then", x, 1, 1, 0);
        int[][] wrong = {{0, 3}, {3, 0}, {-1, 0}, {0, -1}, {3, 3}, {0, Integer.MAX_VALUE}};
        for (int[] w : wrong) {
            Check.eq("moves(" + w[0] + ", " + w[1] + ")", x.moves(w[0], w[1]), -1);
        }
        spots("still", x, 1, 1, 0);
        Check.eq("count(10)", x.count(10), 2);
    }

    private static void swaps() {
        Check.part("promise 13");
        SunnyOnes x = Check.family();
        Check.eq("swaps(0, 2)", x.swaps(0, 2), 2);
        Check.eq("swaps(2, 1)", x.swaps(2, 1), 1);
        spots("then", x, 2, 0, 1);
        int[][] wrong = {{0, 0}, {0, 3}, {3, 0}, {-1, 0}, {0, -1}, {3, 3}};
        for (int[] w : wrong) {
            Check.eq("swaps(" + w[0] + ", " + w[1] + ")", x.swaps(w[0], w[1]), -1);
        }
        Check.eq("swaps(0, 2)", x.swaps(0, 2), 1);
        Check.eq("swaps(2, 0)", x.swaps(2, 0), 1);
        x.undo();
        x.undo();
        x.moves(2, 0);
        Check.eq("at the same", x.swaps(1, 2), -2);
        Check.eq("one alone", x.swaps(1, 1), -1);
        spots("still", x, 2, 0, 0);
        Check.eq("count(10)", x.count(10), 3);
        SunnyOnes far = Check.world("1;2;3;4;5;6", "105;112;120");
        Check.eq("5 and 2", far.swaps(0, 1), 3);
        Check.eq("2 and 5", far.swaps(0, 1), 3);
        Check.eq("5 and 0", far.swaps(0, 2), 5);
        spots("0 and 5", far, 0, 2, 5);
    }

    private static void deeds() {
        Check.part("promise 14");
        SunnyOnes x = Check.skies(Check.family(), "90");
        Check.eq("in the sun", x.deeds(0), -2);
        Check.eq("in the dark", x.deeds(1), 1);
        x.days(1);
        Check.eq("at night", x.deeds(0), 1);
        for (int i = 2; i <= 99; i++) {
            Check.eq("once more", x.deeds(0), i);
        }
        Check.eq("a hundredth", x.deeds(0), 99);
        Check.eq("count(6)", x.count(6), 100);
        Check.eq("deeds(3)", x.deeds(3), -1);
        Check.eq("deeds(-1)", x.deeds(-1), -1);
        Check.eq("count(10)", x.count(10), 12);
        Check.eq("the hundredth is undone, too", x.undo(), 11);
        Check.eq("DEEDS", Check.one(x, 0, 2), 99);
        Check.eq("the ninety-ninth is undone", x.undo(), 10);
        Check.eq("DEEDS", Check.one(x, 0, 2), 98);
        Check.rule(x, "1");
        Check.eq("an hour is enough", x.deeds(1), -2);
        Check.rule(x, "0-1");
        Check.eq("less than none is none", x.deeds(1), 2);
        Check.eq("count(10)", x.count(10), 11);
    }

    private static void doubts() {
        Check.part("promise 15");
        SunnyOnes x = Check.family();
        Check.eq("doubts(0, 1)", x.doubts(0, 1), 9);
        Check.eq("doubts(1, 99)", x.doubts(1, 99), 0);
        Check.eq("doubts(1, 1)", x.doubts(1, 1), -2);
        Check.eq("doubts(2, 8)", x.doubts(2, 8), 0);
        int[][] wrong = {{0, 0}, {0, 100}, {0, -1}, {3, 1}, {-1, 1}, {1, 0}, {0, Integer.MIN_VALUE}};
        for (int[] w : wrong) {
            Check.eq("doubts(" + w[0] + ", " + w[1] + ")", x.doubts(w[0], w[1]), -1);
        }
        ages("then", x, 9, 0, 0);
        Check.eq("count(10)", x.count(10), 3);
        SunnyOnes old = Check.world("0", "990;990;990");
        Check.eq("doubts(0, 98)", old.doubts(0, 98), 1);
        Check.eq("doubts(1, 99)", old.doubts(1, 99), 0);
        Check.eq("doubts(2, 1)", old.doubts(2, 1), 98);
        Check.eq("AGE 1", old.doubts(0, 99), 0);
        Check.eq("AGE 0", old.doubts(0, 99), -2);
        Check.eq("count(10)", old.count(10), 4);
    }

    private static void badLife(String text, int due) {
        SunnyOnes x = Check.family();
        x.order();
        Check.eq("life() of " + text, Check.type(x, text).life(), due);
        Check.eq("count(12)", x.count(12), 0);
        Check.eq("nothing is done", x.count(10), 0);
        ages("nothing is done", x, 10, 12, 8);
        Check.row("the ROW stays", x, 1, 0, 2);
    }

    private static void goodLife(String text, int due, int stopped, int ages, int left) {
        SunnyOnes x = Check.family();
        Check.eq("life() of " + text, Check.type(x, text).life(), due);
        Check.row("life() of " + text, x, stopped, ages);
        Check.eq("what can be undone", x.count(10), left);
        Check.eq("count(12)", x.count(12), 0);
    }

    private static void life() {
        Check.part("promise 16");
        badLife("x", -1);
        badLife("n", -2);
        badLife("nn", -2);
        badLife("m0", -3);
        badLife("m", -2);
        badLife("s01x", -4);
        badLife("d", -2);
        badLife("y11", -4);
        badLife("y1x1", -3);
        badLife("n1 n1", -3);
        badLife("n1N1", -3);
        badLife("n/", -2);
        badLife("n:", -2);
        badLife("1", -1);
        badLife(";", -1);
        badLife("\u00ee1", -1);
        badLife("m0x", -3);
        badLife("s", -2);
        badLife("s0", -3);
        badLife("y", -2);
        badLife("y1", -3);
        badLife("n1d1m02s12y205x", -15);
        badLife("n1n1n1n1n1n1n1n1n1n1n1n1n1n1n1n1n1n1n1n1n1n1n1n1n1n1n1n1n1n1n1", -61);
        badLife("n1n1n1n1n1n1n1n1n1n1n1n1n1n1n1n1n1n1n1n1n1n1n1n1n1n1n1n1n1n1x", -61);
        badLife("n1n1n1n1n1n1n1n1n1n1n1n1n1n1n1n1n1n1n1n1n1n1n1n1n1n1n1n1n1x1n1", -59);
        badLife("m00n1n1n1n1n1n1n1n1n1n1n1n1n1n1n1n1n1n1n1n1n1n1n1n1n1n1n1n1n1", -61);
        badLife("m00n1n1n1n1n1n1n1n1n1n1n1n1n1n1n1n1n1n1n1n1n1n1n1n1n1n1n1n1n", -61);
        goodLife("", 0, 0, 30, 0);
        goodLife("n1", 1, 0, 43, 1);
        goodLife("n0", 1, 0, 30, 1);
        goodLife("n9n9", 2, 0, 264, 1);
        goodLife("m01", 1, 0, 30, 1);
        goodLife("m00", 0, 1, 30, 0);
        goodLife("m09", 0, 1, 30, 0);
        goodLife("m90n1", 0, 1, 30, 0);
        goodLife("n1m00n1", 1, 1, 43, 1);
        goodLife("s01n1", 2, 0, 43, 1);
        goodLife("s00", 0, 1, 30, 0);
        goodLife("d1", 1, 0, 30, 1);
        goodLife("d1d0d1", 1, 1, 30, 1);
        goodLife("y005", 1, 0, 25, 1);
        goodLife("y099y001", 1, 1, 20, 1);
        goodLife("y100", 0, 1, 30, 0);
        goodLife("y199", 1, 0, 18, 1);
        goodLife("y301", 0, 1, 30, 0);
        goodLife("d0", 0, 1, 30, 0);
        goodLife("d9", 0, 1, 30, 0);
        goodLife("s03", 0, 1, 30, 0);
        goodLife("s30", 0, 1, 30, 0);
        goodLife("s12", 1, 0, 30, 1);
        goodLife("m03", 0, 1, 30, 0);
        goodLife("m30", 0, 1, 30, 0);
        goodLife("m01m01", 1, 1, 30, 1);
        goodLife("m01s01", 1, 1, 30, 1);
        goodLife("n0n0m00", 2, 1, 30, 1);
        goodLife("n1n1n1n1n1n1n1n1n1n1n1n1n1n1n1n1n1n1n1n1n1n1n1n1n1n1n1n1n1n1", 30, 0, 420, 1);
        SunnyOnes x = Check.family();
        Check.type(x, "n1d1m02s12y205d9").life();
        Check.row("one could not be", x, 1, 38);
        ages("then", x, 19, 12, 7);
        spots("then", x, 2, 2, 1);
        Check.eq("DEEDS", Check.one(x, 1, 2), 1);
        Check.eq("undo() of it all", x.undo(), 0);
        ages("as ahead of it", x, 10, 12, 8);
        spots("as ahead of it", x, 0, 1, 2);
        Check.eq("count(2)", x.count(2), 0);
        Check.eq("count(6)", x.count(6), 0);
    }

    private static void undo() {
        Check.part("promise 17");
        SunnyOnes x = Check.family();
        Check.eq("none", x.undo(), -1);
        x.days(0);
        x.moves(0, 0);
        x.swaps(0, 0);
        x.deeds(0);
        x.doubts(0, 0);
        Check.type(x, "m00").life();
        x.years(1, 60);
        x.sheet(2, 3, 9, -9);
        Check.eq("none was done", x.count(10), 0);
        for (int i = 1; i <= 14; i++) {
            x.deeds(1);
            Check.eq("of 12", x.count(10), Math.min(i, 12));
        }
        for (int i = 11; i >= 0; i--) {
            Check.eq("undo()", x.undo(), i);
        }
        Check.eq("no more", x.undo(), -1);
        Check.eq("the first two stay", Check.one(x, 1, 2), 2);
        x.days(5);
        x.moves(0, 2);
        Check.eq("undo()", x.undo(), 1);
        spots("back", x, 0, 1, 2);
        Check.eq("undo()", x.undo(), 0);
        Check.eq("the DAY, too", x.count(2), 0);
        Check.eq("LIGHTS do not come back", x.count(5), 9);
        x.days(1);
        Check.type(x, "").places();
        Check.type(x, "").people();
        Check.type(x, "x").places();
        Check.type(x, "019").people();
        Check.no("again(0)", x.again(0));
        Check.eq("these do not forget", x.count(10), 1);
        Check.type(x, "5").places();
        Check.eq("places() forgets", x.count(10), 0);
        x.days(1);
        Check.type(x, "550").people();
        Check.eq("people() forgets", x.count(10), 0);
        x.keep(1);
        x.days(1);
        x.again(1);
        Check.eq("again() forgets", x.undo(), -1);
        x.days(1);
        Check.skies(x, "5");
        Check.rule(x, "s");
        Check.eq("these do not", x.count(10), 1);
    }

    /** AGES, PLACES, DEEDS, DAY of all in one number each. */
    private static long[] all(SunnyOnes x) {
        long[] all = new long[10];
        for (int one = 0; one < 3; one++) {
            for (int what = 0; what < 3; what++) {
                all[3 * one + what] = Check.one(x, one, what);
            }
        }
        all[9] = x.count(2);
        return all;
    }

    private static void same(String what, SunnyOnes x, long[] due) {
        long[] got = all(x);
        for (int i = 0; i < due.length; i++) {
            Check.eq(what + ", number " + i, got[i], due[i]);
        }
    }

    /** Each kind of act, told by a number, behind any other: just as it was ahead of it. */
    private static int act(SunnyOnes x, int kind) {
        switch (kind) {
            case 0:
                return x.days(2);
            case 1:
                return x.moves(0, Check.one(x, 0, 1) == 2 ? 0 : 2);
            case 2:
                return x.swaps(0, 1);
            case 3:
                return x.deeds(1);
            case 4:
                return x.doubts(2, 1);
            default:
                return Check.type(x, "n1d1y101").life() - 3;
        }
    }

    private static void undoOfEach() {
        Check.part("promise 17: each act");
        for (int first = 0; first < 6; first++) {
            for (int second = 0; second < 6; second++) {
                SunnyOnes x = Check.rule(Check.world("9;0;4", "100;121;082"), "(i=1)*0+(i=0)*5+(i=2)");
                long[] atFirst = all(x);
                Check.yes("act " + first + " is done", act(x, first) >= 0);
                long[] between = all(x);
                String told = "acts " + first + ", " + second;
                Check.yes(told + " are done", act(x, second) >= 0);
                Check.eq(told + ", undo()", x.undo(), 1);
                same(told + ", undo()", x, between);
                Check.eq(told + ", undo() twice", x.undo(), 0);
                same(told + ", undo() twice", x, atFirst);
                Check.eq(told + ", undo() thrice", x.undo(), -1);
                same(told + ", undo() thrice", x, atFirst);
            }
        }
        SunnyOnes x = Check.family();
        long[][] ahead = new long[30][];
        for (int i = 0; i < 30; i++) {
            ahead[i] = all(x);
            x.days(1 + i % 3);
        }
        for (int i = 29; i >= 18; i--) {
            Check.eq("undo()", x.undo(), i - 18);
            same("the act " + i + " is undone", x, ahead[i]);
        }
        Check.eq("of 12 that are kept", x.undo(), -1);
        same("as ahead of the twelfth", x, ahead[18]);
        x.days(1);
        Check.eq("one more is one", x.undo(), 0);
        same("and it is undone", x, ahead[18]);
    }

    public static void main(String[] args) {
        days();
        moves();
        swaps();
        deeds();
        doubts();
        life();
        undo();
        undoOfEach();
        Check.done();
    }
}
