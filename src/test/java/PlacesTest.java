/** Promises 1 to 10: a new object, THE TEXT, PLACES, PEOPLE, SKIES, THE RULE, a sheet. */
public final class PlacesTest {
    private static void aNewObject() {
        Check.part("promise 1");
        SunnyOnes x = new SunnyOnes();
        Check.eq("NONE", SunnyOnes.NONE, -1);
        for (int what = 0; what <= 12; what++) {
            Check.eq("count(" + what + ")", x.count(what), what == 3 ? 9 : 0);
        }
        Check.eq("undo()", x.undo(), -1);
        Check.no("again(0)", x.again(0));
    }

    private static void signs() {
        Check.part("promise 2");
        SunnyOnes x = new SunnyOnes();
        for (int i = 1; i <= 20; i++) {
            Check.eq("sign", x.sign(-1), 4 * i);
        }
        Check.eq("sign beyond 80", x.sign(0), -1);
        Check.eq("count(12)", x.count(12), 80);
        Check.yes("end(77)", x.end(77));
        Check.eq("sign beyond 80", x.sign(0), -1);
        Check.yes("end(76)", x.end(76));
        Check.eq("sign up to 80", x.sign(0), 80);
        Check.yes("end(0)", x.end(0));
        Check.eq("9;0;", x.sign(0x393b303b), 4);
        Check.yes("end(3)", x.end(3));
        Check.eq("places(): the highest byte first", x.places(), 2);
        Check.eq("place(0, 0)", Check.place(x, 0, 0), 9);
        Check.eq("place(1, 0)", Check.place(x, 1, 0), 0);
    }

    private static void ends() {
        Check.part("promise 3");
        SunnyOnes x = new SunnyOnes();
        Check.no("end(1)", x.end(1));
        Check.yes("end(0)", x.end(0));
        x.sign(0x31323334);
        Check.no("end(5)", x.end(5));
        Check.no("end(-1)", x.end(-1));
        Check.no("end(least)", x.end(Integer.MIN_VALUE));
        Check.eq("count(12)", x.count(12), 4);
        Check.yes("end(4)", x.end(4));
        Check.yes("end(2)", x.end(2));
        Check.eq("skies()", x.skies(), 2);
        Check.eq("count(3)", x.count(3), 1);
    }

    private static void places(String text, int due) {
        SunnyOnes x = new SunnyOnes();
        Check.eq("places() of " + text, Check.type(x, text).places(), due);
        Check.eq("count(0) then", x.count(0), Math.max(due, 0));
        Check.eq("count(12) then", x.count(12), 0);
    }

    private static void places() {
        Check.part("promise 4");
        places("", 0);
        places("7", 1);
        places("1;2;3;4;5;6", 6);
        places(";", -1);
        places("1;", -3);
        places("12", -2);
        places("1;;", -3);
        places("1;2;x", -5);
        places("1;2;3;4;5;6;", -12);
        places("1;2;3;4;5;6x7", -12);
        places("1;2;3;4;5;x;7", -11);
        places("\u00b1", -1);
        SunnyOnes x = new SunnyOnes();
        Check.eq("five", Check.type(x, "1;2;3;4;5").places(), 5);
        Check.eq("two more than there is room", Check.type(x, "6;7").places(), -3);
        Check.eq("nothing came", x.count(0), 5);
        Check.eq("one more", Check.type(x, "6").places(), 1);
        Check.eq("no room", Check.type(x, "x").places(), -1);
        Check.eq("no room", Check.type(x, "7").places(), -1);
        Check.eq("no room", Check.type(x, ";").places(), -1);
        Check.eq("no room", Check.type(x, "1;2;3;4;5;6;7").places(), -1);
        Check.eq("an empty one", Check.type(x, "").places(), 0);
        Check.eq("count(5)", x.count(5), 21);
        Check.eq("place(5, 0)", Check.place(x, 5, 0), 6);
        SunnyOnes half = new SunnyOnes();
        Check.eq("LIGHT 9, 0, 9", Check.type(half, "9;0;9").places(), 3);
        Check.eq("room for three", Check.type(half, "1;2;3;4").places(), -7);
        Check.eq("no room ahead of too many signs", Check.type(half, "1;2;3;4;5;6;").places(), -7);
        Check.eq("a wrong sign ahead of no room", Check.type(half, "1;2;x;4").places(), -5);
        Check.eq("too early ahead of no room", Check.type(half, "1;2;3;").places(), -7);
        Check.eq("too early", Check.type(half, "1;2;").places(), -5);
        Check.eq("nothing came", half.count(0), 3);
        Check.eq("three", Check.type(half, "1;2;3").places(), 3);
        Check.eq("count(0)", half.count(0), 6);
        Check.eq("count(5)", half.count(5), 24);
    }

    private static void people(String text, int due) {
        SunnyOnes x = new SunnyOnes();
        Check.type(x, "9;0").places();
        Check.eq("people() of " + text, Check.type(x, text).people(), due);
        Check.eq("count(1) then", x.count(1), Math.max(due, 0));
        Check.eq("count(12) then", x.count(12), 0);
    }

    private static void people() {
        Check.part("promise 5");
        people("", 0);
        people("991", 1);
        people("000;111;220;331;440;551;660", 7);
        people("1", -2);
        people("11", -3);
        people("112", -3);
        people("11x", -3);
        people("x11", -1);
        people("110;", -5);
        people("1100", -4);
        people("110;1;", -6);
        people("000;111;220;331;440;551;660;", -28);
        people("000;111;220;331;440;551;6600", -28);
        people("000;111;220;331;440;551;662;", -27);
        SunnyOnes x = new SunnyOnes();
        Check.eq("without PLACES", Check.type(x, "100").people(), -3);
        Check.type(x, "9;0").places();
        Check.eq("six", Check.type(x, "110;110;110;110;110;110").people(), 6);
        Check.eq("two more", Check.type(x, "110;110").people(), -5);
        Check.eq("count(1)", x.count(1), 6);
        Check.eq("one more", Check.type(x, "071").people(), 1);
        Check.eq("no room", Check.type(x, "11x").people(), -1);
        Check.eq("no room", Check.type(x, "110").people(), -1);
        Check.eq("an empty one", Check.type(x, "").people(), 0);
        Check.eq("count(1)", x.count(1), 7);
        Check.eq("one(6, 0)", Check.one(x, 6, 0), 7);
        Check.eq("one(6, 1)", Check.one(x, 6, 1), 1);
        Check.eq("one(6, 2)", Check.one(x, 6, 2), 0);
        Check.eq("the seventh", Check.place(x, 1, 1), 64);
        Check.eq("the seventh goes there", x.moves(6, 0), 11);
        Check.eq("all seven", Check.place(x, 0, 1), 127);
        Check.eq("all seven", Check.place(x, 0, 2), 6 * 11 + 7);
        x.heard(1, 0);
        Check.eq("all seven", x.fits(), 127);
        Check.row("all seven", x, 7);
        SunnyOnes half = Check.world("9;0", "000;991;050;051");
        Check.eq("room for three", Check.type(half, "110;110;110;110").people(), -13);
        Check.eq("no room ahead of a wrong sign", Check.type(half, "110;110;110;11x").people(), -13);
        Check.eq("a wrong PLACE ahead of no room", Check.type(half, "110;112;110;110").people(), -7);
        Check.eq("too early", Check.type(half, "110;110;11").people(), -11);
        Check.eq("too early", Check.type(half, "110;110;").people(), -9);
        Check.eq("no LINE at all", Check.type(half, ";").people(), -1);
        Check.eq("nothing came", half.count(1), 4);
        Check.eq("least AGE", Check.one(half, 0, 0), 0);
        Check.eq("most AGE", Check.one(half, 1, 0), 99);
        Check.eq("three", Check.type(half, "110;121;130").people(), 3);
        Check.eq("count(1)", half.count(1), 7);
        SunnyOnes six = new SunnyOnes();
        Check.type(six, "1;2;3;4;5;6").places();
        Check.eq("the last PLACE", Check.type(six, "105").people(), 1);
        Check.eq("one behind it", Check.type(six, "106").people(), -3);
    }

    private static void skies() {
        Check.part("promise 6");
        SunnyOnes x = Check.family();
        Check.eq("none", Check.type(x, "").skies(), -1);
        Check.eq("a letter", Check.type(x, "12x").skies(), -3);
        Check.eq("twenty-one", Check.type(x, "123456789012345678901").skies(), -21);
        Check.eq("a letter first", Check.type(x, "1234567890123456789x1").skies(), -20);
        Check.eq("still 9", x.count(3), 9);
        Check.eq("twenty", Check.type(x, "12345678901234567890").skies(), 20);
        x.days(19);
        Check.eq("the twentieth", x.count(3), 0);
        x.days(1);
        Check.eq("the first again", x.count(3), 1);
        Check.eq("one", Check.type(x, "5").skies(), 1);
        Check.eq("always", x.count(3), 5);
        Check.eq("count(12)", x.count(12), 0);
        Check.eq("signs beside the digits", Check.type(x, "/").skies(), -1);
        Check.eq("signs beside the digits", Check.type(x, "0:").skies(), -2);
        Check.eq("a sign above 127", Check.type(x, "09\u00b0").skies(), -3);
        Check.eq("the old ones hold", x.count(3), 5);
        Check.eq("two", Check.type(x, "09").skies(), 2);
        Check.eq("DAY 20 by 2", x.count(3), 0);
        x.days(1);
        Check.eq("DAY 21 by 2", x.count(3), 9);
    }

    private static void bad(String rule, int due) {
        SunnyOnes x = Check.rule(Check.family(), "3");
        Check.eq("rule() of " + rule, Check.type(x, rule).rule(), due);
        Check.eq("THE TEXT is empty", x.count(12), 0);
        Check.eq("the old one holds", Check.one(x, 1, 3), 3);
        Check.eq("law() of " + rule, Check.type(x, rule).law(), due - 9999);
    }

    /** HOURS of number 1 of the family: s 0, w 9, a 2, k 0, p 1, i 1, n 0. */
    private static void good(String rule, int due) {
        SunnyOnes x = Check.rule(Check.family(), rule);
        Check.eq("HOURS by " + rule, Check.one(x, 1, 3), due);
    }

    private static void rules() {
        Check.part("promise 7");
        bad("x", -1);
        bad("s*", -3);
        bad("s<w<a", -4);
        bad("s=w>a", -4);
        bad("(s<w<a)", -5);
        bad("s<w)", -4);
        bad("(((((s", -5);
        bad("((((s))))s", -10);
        bad("((((s)", -7);
        bad("()", -2);
        bad("1000", -4);
        bad("12s", -3);
        bad("s w", -2);
        bad("s**w", -3);
        bad("--", -3);
        bad("+s", -1);
        bad("*", -1);
        bad("s-", -3);
        bad("<s", -1);
        bad("S", -1);
        bad(")", -1);
        bad("s=", -3);
        bad("s=<w", -3);
        bad("s=w=a", -4);
        bad("(s=w)=(a=k)=p", -12);
        bad("s(w)", -2);
        bad("(s)w", -4);
        bad("9s", -2);
        bad("(s", -3);
        bad("(", -2);
        bad("-", -2);
        bad("9-x", -3);
        bad("0000", -4);
        bad("1+1234", -6);
        bad("\u00f3", -1);
        bad(";", -1);
        bad("(((((", -5);
        bad("s+((((w+(a", -9);
        bad("-(-(-(-(-(s)))))", -10);
        bad("1+1+1+1+1+1+1+1+1+1+1+1+1+1+1+1+1+1+1+1+1", -41);
        bad("1+1+1+1+1+1+1+1+1+1+1+1+1+1+1+1+1+1+1+1x1", -40);
        bad("1+1+1+1+1+1+1+1+1+1+1+1+1+1+1+1+1+1+1+1+", -41);
        bad("-1+1+1+1+1+1+1+1+1+1+1+1+1+1+1+1+1+1+1+11", -41);
        bad("----------------------------------------1", -41);
        good("", 0);
        good("s", 0);
        good("w", 9);
        good("a", 2);
        good("k+3", 3);
        good("p", 1);
        good("i+i", 2);
        good("n+4", 4);
        good("007", 7);
        good("8-3-2", 3);
        good("8-(3-2)", 7);
        good("9/2*2", 8);
        good("9*3/7", 3);
        good("2+3*2", 8);
        good("(2+1)*2", 6);
        good("7/0+1", 1);
        good("7/s+1", 1);
        good("0-7/2+9", 6);
        good("-7/2+9", 6);
        good("5+-7/2", 2);
        good("5--3", 8);
        good("5---3", 2);
        good("2*-3+8", 2);
        good("-(2-5)", 3);
        good("1<2", 1);
        good("2<1", 0);
        good("1>2", 0);
        good("2>1", 1);
        good("2=2", 1);
        good("2=1", 0);
        good("1+1=2", 1);
        good("1+(1=2)", 1);
        good("(1<2)=(3>2)", 1);
        good("5*(w>8)", 5);
        good("w*w", 9);
        good("-w", 0);
        good("999*999*999*999>0", (999 * 999 * 999 * 999 > 0) ? 1 : 0);
        good("512*512*512*16<0", 1);
        good("512*512*512*16-1>0", 1);
        good("512*512*512*16/-1<0", 1);
        good("-(512*512*512*16)", 0);
        good("512*512*512*16-1", 9);
        good("512*512*512*16=-512*512*512*16", 1);
        good("10-1", 9);
        good("12-5", 7);
        good("100/20", 5);
        good("999/111", 9);
        good("120-117", 3);
        good("000", 0);
        good("0/0+2", 2);
        good("5+7/(s*w)", 5);
        good("9/10", 0);
        good("10", 9);
        good("2<2", 0);
        good("2>2", 0);
        good("(2<2)+3", 3);
        good("(2>2)+3", 3);
        good("(2=3)+3", 3);
        good("3*(2<3)+3*(3>2)+3*(2=2)", 9);
        good("-1<0", 1);
        good("2*2=1+3", 1);
        good("6/4*2", 2);
        good("6*4/2/3", 4);
        good("9-2*3", 3);
        good("9-6/4", 8);
        good("9--4/-2", 7);
        good("((((4))))", 4);
        good("(((4)))+(((4)))", 8);
        good("---------------------------------------8", 0);
        good("-------------------------------------9+9", 0);
        good("--------------------------------------9", 9);
        SunnyOnes x = Check.world("5;2", "370;080;041");
        Check.rule(x, "k*4+a/5");
        Check.eq("two together", Check.one(x, 0, 3), 5);
        Check.eq("two together", Check.one(x, 1, 3), 5);
        Check.eq("one alone", Check.one(x, 2, 3), 0);
        Check.rule(x, "n");
        for (int day = 0; day < 15; day++) {
            Check.eq("DAY by 7", Check.one(x, 0, 3), day % 7);
            x.days(1);
        }
        Check.rule(x, "");
        Check.eq("none told: s*w/9", Check.one(x, 2, 3), 2);
    }

    private static void one() {
        Check.part("promise 8");
        SunnyOnes x = Check.family();
        long[][] due = {{10, 0, 0, 9}, {12, 1, 0, 0}, {8, 2, 0, 4}};
        for (int one = 0; one < 3; one++) {
            for (int what = 0; what < 4; what++) {
                Check.eq("one(" + one + ", " + what + ")", Check.one(x, one, what), due[one][what]);
            }
        }
        x.deeds(1);
        Check.eq("one(1, 2)", Check.one(x, 1, 2), 1);
        int[][] wrong = {{-1, 0}, {3, 0}, {7, 0}, {0, -1}, {0, 4}, {Integer.MAX_VALUE, 0}, {0, Integer.MIN_VALUE}};
        for (int[] w : wrong) {
            Check.eq("one(" + w[0] + ", " + w[1] + ")", Check.one(x, w[0], w[1]), Check.THROWS);
        }
    }

    private static void place() {
        Check.part("promise 9");
        SunnyOnes x = Check.world("9;0;4", "100;121;082;050");
        x.moves(3, 2);
        x.moves(3, 0);
        long[][] due = {{9, 9, 15}, {0, 2, 12}, {4, 4, 8}};
        for (int place = 0; place < 3; place++) {
            for (int what = 0; what < 3; what++) {
                Check.eq("place(" + place + ", " + what + ")", Check.place(x, place, what), due[place][what]);
            }
        }
        x.moves(1, 2);
        Check.eq("nobody is there", Check.place(x, 1, 1), 0);
        Check.eq("nobody is there", Check.place(x, 1, 2), 0);
        Check.eq("two are there", Check.place(x, 2, 1), 6);
        Check.eq("two are there", Check.place(x, 2, 2), 20);
        int[][] wrong = {{-1, 0}, {3, 0}, {6, 0}, {0, -1}, {0, 3}, {Integer.MIN_VALUE, 0}};
        for (int[] w : wrong) {
            Check.eq("place(" + w[0] + ", " + w[1] + ")", Check.place(x, w[0], w[1]), Check.THROWS);
        }
    }

    private static void sheet(int kind, int n, int f, int step, int due, int... lights) {
        SunnyOnes x = Check.world("1;2;3", "100");
        String call = "sheet(" + kind + ", " + n + ", " + f + ", " + step + ")";
        Check.eq(call, x.sheet(kind, n, f, step), due);
        for (int i = 0; i < 3; i++) {
            Check.eq(call + ", then place(" + i + ", 0)", Check.place(x, i, 0), lights[i]);
        }
        Check.eq(call + ", then undo()", x.undo(), -1);
    }

    private static void sheet() {
        Check.part("promise 10");
        sheet(2, 3, 5, 100, 23, 5, 9, 9);
        sheet(2, 3, -1, 1, 1, 0, 0, 1);
        sheet(0, 3, 255, 2, 4, 0, 1, 3);
        sheet(0, 3, 128, 1, 0, 0, 0, 0);
        sheet(0, 3, 127, 1, 9, 9, 0, 0);
        sheet(0, 2, 260, 0, 8, 4, 4, 0);
        sheet(1, 3, 32767, 1, 9, 9, 0, 0);
        sheet(1, 3, 65541, -3, 7, 5, 2, 0);
        sheet(1, 3, 260, 0, 27, 9, 9, 9);
        sheet(2, 3, Integer.MAX_VALUE, 1, 9, 9, 0, 0);
        sheet(2, 6, 1, 2, 9, 1, 3, 5);
        sheet(2, 0, 5, 5, 0, 0, 0, 0);
        sheet(0, 1, 7, 7, 7, 7, 0, 0);
        sheet(0, -1, 7, 7, -2, 1, 2, 3);
        sheet(2, -1, 7, 7, -2, 1, 2, 3);
        sheet(3, -1, 7, 7, -3, 0, 0, 0);
        sheet(3, 6, 7, 7, -3, 0, 0, 0);
        sheet(3, 7, 7, 7, -1, 1, 2, 3);
        sheet(4, 1, 7, 7, -1, 1, 2, 3);
        sheet(4, -1, 7, 7, -1, 1, 2, 3);
        sheet(-1, 1, 7, 7, -1, 1, 2, 3);
        sheet(0, 7, 7, 7, -1, 1, 2, 3);
        SunnyOnes six = new SunnyOnes();
        Check.type(six, "9;9;9;9;9;9").places();
        Check.eq("six entries", six.sheet(2, 6, 1, 1), 21);
        Check.eq("the sixth", Check.place(six, 5, 0), 6);
        Check.eq("five entries", six.sheet(2, 5, 9, -1), 35);
        Check.eq("those behind them", Check.place(six, 5, 0), 0);
        Check.eq("all bright", six.sheet(2, 6, Integer.MAX_VALUE, 0), 54);
        Check.eq("seven entries", six.sheet(2, 7, 1, 1), -1);
        Check.eq("still", six.count(5), 54);
        Check.eq("round the end", six.sheet(2, 6, Integer.MAX_VALUE - 1, 1), 18);
        Check.eq("round the end of shorts", six.sheet(1, 6, -65534, 32768), 6);
        Check.eq("round the end of bytes", six.sheet(0, 6, 126, 65), 18);
        Check.eq("without PLACES", new SunnyOnes().sheet(0, 3, 5, 0), 0);
        Check.eq("without PLACES", new SunnyOnes().sheet(3, 3, 5, 0), -3);
    }

    public static void main(String[] args) {
        aNewObject();
        signs();
        ends();
        places();
        people();
        skies();
        rules();
        one();
        place();
        sheet();
        Check.done();
    }
}
