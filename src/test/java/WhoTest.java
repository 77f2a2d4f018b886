/** Promises 34 to 41: which sky it was, who it was. */
public final class WhoTest {
    private static void saw() {
        Check.part("promises 34 and 35");
        SunnyOnes x = Check.family();
        int[][] wrong = {{3, 0}, {-1, 0}, {0, -1}, {0, 10}, {3, 10}};
        for (int[] w : wrong) {
            Check.eq("saw(" + w[0] + ", " + w[1] + ")", x.saw(w[0], w[1]), -1);
        }
        for (int i = 1; i <= 10; i++) {
            Check.eq("saw", x.saw(2, i % 2 * 9), i);
        }
        Check.eq("an eleventh", x.saw(0, 0), -1);
        Check.eq("count(8)", x.count(8), 10);
        Check.eq("denies()", x.denies(), 10);
        Check.eq("count(8)", x.count(8), 0);
        Check.eq("denies()", x.denies(), 0);
        Check.eq("again one", x.saw(0, 0), 1);
    }

    private static void guess() {
        Check.part("promise 36");
        SunnyOnes x = Check.family();
        Check.eq("nothing seen", x.guess(), 1023);
        Check.row("nothing seen", x, 10, 1);
        x.saw(2, 2);
        Check.eq("4*w/9 is 2", x.guess(), 1 << 5 | 1 << 6);
        Check.row("4*w/9 is 2", x, 2, 0);
        x.saw(0, 6);
        Check.eq("and w is 6", x.guess(), 1 << 6);
        Check.row("and w is 6", x, 1, 0);
        Check.skies(x, "6");
        Check.eq("SKY of this DAY", x.guess(), 1 << 6);
        Check.row("SKY of this DAY", x, 1, 1);
        x.moves(0, 2);
        Check.eq("all else as it is", x.guess(), 0);
        Check.row("all else as it is", x, 0, 0);
        x.undo();
        x.saw(1, 0);
        Check.eq("always so", x.guess(), 1 << 6);
        x.saw(1, 1);
        Check.eq("never so", x.guess(), 0);
        Check.row("never so", x, 0, 0);
        x.denies();
        Check.eq("denied", x.guess(), 1023);
        x.saw(0, 9);
        Check.skies(x, "91");
        Check.eq("SKY 9", x.guess(), 1 << 9);
        Check.row("SKY 9", x, 1, 1);
        x.days(1);
        Check.eq("another DAY", x.guess(), 1 << 9);
        Check.row("another DAY", x, 1, 0);
        x.denies();
        x.saw(0, 0);
        Check.eq("SKY 0", x.guess(), 1);
        Check.rule(x, "a");
        Check.eq("another RULE", x.guess(), 0);
        x.denies();
        x.saw(0, (int) Check.one(x, 0, 3));
        Check.eq("not by SKY", x.guess(), 1023);
        Check.eq("nobody", new SunnyOnes().guess(), 1023);
    }

    private static void looks() {
        Check.part("promise 37");
        SunnyOnes x = Check.world("0;4;9", "101;120;082;082");
        Check.eq("looks()", x.looks(), 2);
        Check.row("looks()", x, 1);
        x.moves(2, 1);
        x.moves(3, 1);
        Check.eq("of equal ones the first", x.looks(), 0);
        Check.row("of equal ones the first", x, 3);
        x.saw(0, 1);
        Check.eq("of those that are left", x.looks(), 0);
        Check.row("of those that are left", x, 2);
        SunnyOnes most = Check.rule(Check.world("5", "000;000"), "w*(w<5)*i");
        Check.eq("SKIES 0, 5 .. 9 by one", most.looks(), 1);
        Check.row("SKIES 0, 5 .. 9 by one", most, 6);
        Check.rule(most, "(w>6)*9+i*(w=6)");
        Check.eq("SKIES 0 .. 5 by the other", most.looks(), 1);
        Check.row("SKIES 0 .. 5 by the other", most, 6);
        Check.rule(most, "(w>2)*9*i+(w<5)*9*(i=0)");
        Check.eq("SKIES 5 .. 9 or 0 .. 4", most.looks(), 0);
        Check.row("SKIES 5 .. 9 or 0 .. 4", most, 5);
        Check.rule(most, "9*(i=1)+(w>8)*9*(i=0)");
        Check.eq("SKY 9 alone", most.looks(), 0);
        Check.row("SKY 9 alone", most, 9);
        most.saw(0, 9);
        Check.eq("one is left", most.looks(), 0);
        Check.row("one is left", most, 1);
        most.denies();
        Check.rule(most, "0");
        Check.eq("all are left", most.looks(), 0);
        Check.row("all are left", most, 10);
        Check.rule(most, "w");
        Check.eq("each by itself", most.looks(), 0);
        Check.row("each by itself", most, 1);
        x.saw(0, 2);
        Check.eq("none is left", x.looks(), -2);
        Check.row("the ROW stays", x, 2);
        Check.eq("nobody", new SunnyOnes().looks(), -2);
    }

    private static void heard() {
        Check.part("promises 38 and 39");
        SunnyOnes x = Check.family();
        int[][] wrong = {
            {0, 10000}, {0, -1}, {1, 6}, {1, -1}, {2, 100}, {2, -1}, {3, 10}, {3, -1}, {4, 2}, {4, -1}, {5, 0}, {-1, 0}
        };
        for (int[] w : wrong) {
            Check.eq("heard(" + w[0] + ", " + w[1] + ")", x.heard(w[0], w[1]), -1);
        }
        int[][] right = {
            {0, 9999}, {0, 0}, {1, 5}, {1, 0}, {2, 99}, {2, 0}, {3, 9}, {3, 0}, {4, 1}, {4, 0}, {0, 1}, {1, 1}
        };
        for (int i = 0; i < 12; i++) {
            Check.eq("heard", x.heard(right[i][0], right[i][1]), i + 1);
        }
        Check.eq("a thirteenth", x.heard(0, 0), -1);
        Check.eq("count(9)", x.count(9), 12);
        Check.eq("forget()", x.forget(), 12);
        Check.eq("count(9)", x.count(9), 0);
        Check.eq("forget()", x.forget(), 0);
    }

    private static void fits(int what, int v, int due) {
        SunnyOnes x = Check.world("9;0;4", "100;121;082;050");
        x.deeds(1);
        x.deeds(1);
        x.heard(what, v);
        Check.eq("fits() of " + what + ", " + v, x.fits(), due);
        Check.row("fits() of " + what + ", " + v, x, Integer.bitCount(due));
    }

    private static void fits() {
        Check.part("promise 40");
        fits(9, 0, 15);
        fits(0, 10, 3);
        fits(0, 12, 2);
        fits(0, 13, 0);
        fits(0, 0, 15);
        fits(1, 0, 9);
        fits(1, 2, 4);
        fits(1, 5, 0);
        fits(2, 0, 15);
        fits(2, 2, 2);
        fits(2, 3, 0);
        fits(3, 4, 13);
        fits(3, 5, 9);
        fits(3, 0, 15);
        fits(4, 1, 6);
        fits(4, 0, 9);
        SunnyOnes x = Check.family();
        x.heard(0, 10);
        x.heard(3, 1);
        Check.eq("both", x.fits(), 1);
        x.moves(1, 2);
        Check.eq("now", x.fits(), 3);
        Check.row("now", x, 2);
        x.undo();
        x.heard(4, 0);
        Check.eq("all three", x.fits(), 0);
        Check.row("all three", x, 0);
        x.forget();
        Check.eq("forgotten", x.fits(), 7);
        Check.row("forgotten", x, 3);
        x.heard(0, 9999);
        Check.eq("none so old", x.fits(), 0);
        x.forget();
        x.heard(2, 0);
        Check.eq("forgotten", x.fits(), 7);
        Check.eq("nobody", new SunnyOnes().fits(), 0);
        SunnyOnes none = new SunnyOnes();
        none.heard(1, 5);
        Check.eq("nobody, of whom it was heard", none.fits(), 0);
        Check.row("nobody, of whom it was heard", none, 0);
    }

    private static void asks() {
        Check.part("promise 41");
        SunnyOnes x = Check.world("9;0;4", "100;121;082;050");
        Check.eq("where", x.asks(), 10);
        Check.row("where", x, 2);
        x.heard(1, 0);
        Check.eq("no way to tell them", x.asks(), 10);
        Check.row("no way to tell them", x, 2);
        Check.rule(x, "4*i+1");
        Check.eq("HOURS 1 and 9", x.asks(), 32);
        Check.row("HOURS 1 and 9", x, 1);
        x.heard(1, 1);
        Check.eq("none fits", x.asks(), -2);
        Check.row("the ROW stays", x, 1);
        Check.eq("nobody", new SunnyOnes().asks(), -2);
        SunnyOnes alone = Check.rule(Check.world("1;1;1", "000;000;000;001;002;002"), "k=0");
        Check.eq("the least of equal ones", alone.asks(), 10);
        Check.row("the least of equal ones", alone, 3);
        SunnyOnes three = Check.rule(Check.world("1;1;1;1;1;1", "000;001;002;003;004;004"), "5");
        Check.eq("alone or not", three.asks(), 14);
        Check.row("alone or not", three, 4);
        SunnyOnes four = Check.rule(Check.world("1;1;1;1;1;1", "000;001;002;003;003;004;004"), "5");
        Check.eq("alone or not", four.asks(), 40);
        Check.row("alone or not", four, 4);
        SunnyOnes last = Check.world("1;1;1;1;1;1", "001;005;005");
        Check.rule(last, "0");
        Check.eq("of PLACES", last.asks(), 11);
        SunnyOnes fifth = Check.rule(Check.world("1;1;1;1;1;1", "002;005;005;003"), "0");
        Check.eq("of PLACES", fifth.asks(), 15);
    }

    public static void main(String[] args) {
        saw();
        guess();
        looks();
        heard();
        fits();
        asks();
        Check.done();
    }
}
