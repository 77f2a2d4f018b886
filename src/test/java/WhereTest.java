/** Promises 27 to 33: where to be, rooms. */
public final class WhereTest {
    private static void comes() {
        Check.part("promise 27");
        SunnyOnes x = Check.family();
        x.sunniest();
        Check.eq("already", x.comes(0, 10), 0);
        Check.row("already", x);
        Check.eq("one DAY", x.comes(0, 14), 1);
        Check.row("one DAY", x, 2);
        Check.eq("two DAYS", x.comes(0, 23), 2);
        Check.row("the least row", x, 0, 2);
        Check.eq("four DAYS", x.comes(0, 46), 4);
        Check.row("four DAYS", x, 0, 0, 0, 0);
        Check.eq("three of them", x.comes(0, 32), 3);
        Check.row("three of them", x, 0, 0, 2);
        Check.eq("in no four", x.comes(0, 47), -2);
        Check.eq("in no four", x.comes(0, 13), -2);
        Check.eq("never", x.comes(0, 9), -2);
        int[][] wrong = {{0, -1}, {0, 10000}, {3, 1}, {-1, 1}};
        for (int[] w : wrong) {
            Check.eq("comes(" + w[0] + ", " + w[1] + ")", x.comes(w[0], w[1]), -1);
        }
        Check.row("the ROW stays", x, 0, 0, 2);
        Check.eq("nothing changes", Check.one(x, 0, 1), 0);
        Check.eq("nothing changes", Check.one(x, 0, 0), 10);
        SunnyOnes k = Check.rule(Check.world("1;1;1", "000;001;001;002"), "k");
        Check.eq("others where they are", k.comes(0, 3), 2);
        Check.row("others where they are", k, 1, 2);
        SunnyOnes sky = Check.skies(Check.family(), "0009");
        Check.eq("by SKY of each DAY", sky.comes(0, 19), 4);
        Check.row("by SKY of each DAY", sky, 0, 0, 0, 0);
        SunnyOnes old = Check.rule(Check.family(), "9");
        for (int i = 0; i < 18; i++) {
            old.days(60);
        }
        old.days(29);
        Check.eq("AGE", Check.one(old, 0, 0), 9991);
        Check.eq("9999 at most", old.comes(0, 9999), 1);
        Check.eq("not by 9", old.comes(2, 9998), 1);
        old.days(1);
        Check.eq("AGE 9999", old.comes(1, 9999), 0);
        Check.row("AGE 9999", old);
        SunnyOnes single = Check.skies(Check.world("9", "100"), "95");
        Check.eq("nowhere else to be", single.comes(0, 15), -2);
        Check.eq("nowhere else to be", single.comes(0, 24), 2);
        Check.row("nowhere else to be", single, 0, 0);
        Check.eq("nowhere else to be", single.ways(0, 5, 2), 0);
        Check.eq("nowhere else to be", single.hides(0, 2), 0);
        Check.row("nowhere else to be", single, 24, 24);
        Check.eq("nowhere else to be", single.brightest(0), 1);
        Check.row("nowhere else to be", single, 9);
        SunnyOnes young = Check.world("0;1", "000");
        Check.eq("AGE 0", young.comes(0, 0), 0);
        Check.row("AGE 0", young);
        Check.eq("AGE 4", young.comes(0, 4), 4);
        Check.row("AGE 4", young, 1, 1, 1, 1);
        Check.eq("AGE 3", young.comes(0, 3), 3);
        Check.row("AGE 3", young, 1, 1, 1);
        Check.eq("AGE 5", young.comes(0, 5), -2);
        Check.row("the ROW stays", young, 1, 1, 1);
        Check.eq("AGE 9999 of 0", young.comes(0, 9999), -2);
        Check.rule(young, "(p=1)*(a+1)");
        Check.eq("by AGE", young.comes(0, 7), 3);
        Check.row("by AGE", young, 1, 1, 1);
        Check.rule(young, "(p=1)*n");
        Check.eq("by DAY", young.comes(0, 3), 3);
        Check.row("the least row", young, 0, 1, 1);
        young.days(1);
        Check.eq("by DAY, a DAY later", young.comes(0, 3), 2);
        Check.row("by DAY, a DAY later", young, 1, 1);
        Check.eq("by DAY: 1 + 3", young.comes(0, 4), 3);
        Check.row("by DAY: 1 + 3", young, 1, 0, 1);
    }

    private static void ways() {
        Check.part("promise 28");
        SunnyOnes x = Check.family();
        Check.eq("ways(0, 13, 2)", x.ways(0, 13, 2), 2);
        Check.row("ways(0, 13, 2)", x, 0, 2);
        Check.eq("ways(0, 0, 0)", x.ways(0, 0, 0), 1);
        Check.row("ways(0, 0, 0)", x);
        Check.eq("ways(0, 0, 4)", x.ways(0, 0, 4), 1);
        Check.row("ways(0, 0, 4)", x, 1, 1, 1, 1);
        Check.eq("ways(0, 36, 4)", x.ways(0, 36, 4), 1);
        Check.row("ways(0, 36, 4)", x, 0, 0, 0, 0);
        Check.eq("ways(0, 17, 4)", x.ways(0, 17, 4), 12);
        Check.row("ways(0, 17, 4)", x, 0, 1, 2, 2);
        Check.eq("ways(0, 1, 0)", x.ways(0, 1, 0), 0);
        Check.row("nothing without", x);
        x.order();
        int[][] wrong = {{0, 37, 1}, {0, -1, 1}, {0, 0, 5}, {0, 0, -1}, {3, 0, 0}, {-1, 0, 0}};
        for (int[] w : wrong) {
            Check.eq("ways(" + w[0] + ", " + w[1] + ", " + w[2] + ")", x.ways(w[0], w[1], w[2]), -1);
        }
        Check.row("the ROW stays", x, 1, 0, 2);
        SunnyOnes six = Check.rule(Check.world("1;1;1;1;1;1", "000"), "p");
        Check.eq("of 1296", six.ways(0, 10, 4), 146);
        Check.row("of 1296", six, 0, 0, 5, 5);
        SunnyOnes old = Check.rule(Check.family(), "9");
        for (int i = 0; i < 19; i++) {
            old.days(60);
        }
        Check.eq("HOURS are whole", old.ways(0, 36, 4), 81);
        SunnyOnes by = Check.rule(Check.world("0;1", "000;120"), "(p=1)*(a+1)");
        Check.eq("by AGE: 1 + 2", by.ways(0, 3, 3), 3);
        Check.row("by AGE: 1 + 2", by, 0, 1, 1);
        Check.eq("by AGE: 1 + 2 + 4", by.ways(0, 7, 4), 4);
        Check.row("by AGE: 1 + 2 + 4", by, 0, 1, 1, 1);
        Check.eq("by AGE: 3", by.ways(1, 3, 2), 2);
        Check.rule(by, "(p=1)*n");
        Check.eq("by DAY: 3 or 1 + 2", by.ways(0, 3, 4), 4);
        Check.row("by DAY: 3 or 1 + 2", by, 0, 0, 0, 1);
        by.days(2);
        Check.eq("by DAY, two DAYS later", by.ways(0, 3, 4), 1);
        Check.row("by DAY, two DAYS later", by, 0, 1, 0, 0);
        by.moves(1, 1);
        Check.rule(by, "k");
        Check.eq("others where they are", by.ways(0, 4, 4), 1);
        Check.row("others where they are", by, 1, 1, 1, 1);
        Check.rule(by, "");
        Check.skies(by, "909");
        Check.eq("by SKY: DAYS 2, 4, 5", by.ways(0, 3, 4), 2);
        Check.row("by SKY: DAYS 2, 4, 5", by, 1, 1, 0, 1);
    }

    private static void hides() {
        Check.part("promise 29");
        SunnyOnes x = Check.family();
        Check.eq("hides(0, 3)", x.hides(0, 3), 1);
        Check.row("hides(0, 3)", x, 10, 37);
        Check.eq("hides(2, 60)", x.hides(2, 60), 1);
        Check.row("hides(2, 60)", x, 8, 548);
        int[][] wrong = {{0, 0}, {0, 61}, {3, 1}, {-1, 1}};
        for (int[] w : wrong) {
            Check.eq("hides(" + w[0] + ", " + w[1] + ")", x.hides(w[0], w[1]), -1);
        }
        Check.row("the ROW stays", x, 8, 548);
        SunnyOnes like = Check.world("9;3;3;5", "100");
        Check.eq("of equal ones the first", like.hides(0, 1), 1);
        Check.row("of equal ones the first", like, 13, 19);
        SunnyOnes k = Check.rule(Check.world("1;1", "000;000;001"), "k");
        Check.eq("others where they are", k.hides(2, 2), 1);
        Check.row("others where they are", k, 0, 4);
        SunnyOnes by = Check.rule(Check.world("1;1", "000"), "(p=1)*n+(p=0)*a+1");
        Check.eq("by AGE and DAY", by.hides(0, 3), 1);
        Check.row("by AGE and DAY", by, 6, 7);
        SunnyOnes old = Check.rule(Check.world("1;1", "990"), "9-p");
        for (int i = 0; i < 20; i++) {
            old.days(60);
        }
        Check.eq("AGE 9999", old.hides(0, 60), 0);
        Check.row("AGE 9999", old, 9999, 9999);
        SunnyOnes young = Check.world("0", "000");
        Check.eq("one PLACE", young.hides(0, 60), 0);
        Check.row("one PLACE", young, 0, 0);
    }

    private static void meets() {
        Check.part("promise 30");
        SunnyOnes x = Check.family();
        Check.eq("meets(0, 2, 3)", x.meets(0, 2, 3), 2);
        Check.row("meets(0, 2, 3)", x, 2);
        Check.eq("meets(2, 1, 1)", x.meets(2, 1, 1), 2);
        Check.row("meets(2, 1, 1)", x, 0);
        Check.eq("meets(1, 0, 60)", x.meets(1, 0, 60), 0);
        Check.row("meets(1, 0, 60)", x, 2);
        int[][] wrong = {{0, 0, 1}, {0, 1, 0}, {0, 1, 61}, {0, 3, 1}, {3, 0, 1}, {-1, 0, 1}, {0, -1, 1}};
        for (int[] w : wrong) {
            Check.eq("meets(" + w[0] + ", " + w[1] + ", " + w[2] + ")", x.meets(w[0], w[1], w[2]), -1);
        }
        Check.row("the ROW stays", x, 2);
        SunnyOnes like = Check.world("3;5;5", "100;120");
        Check.eq("of equal ones the first", like.meets(0, 1, 1), 1);
        Check.row("of equal ones the first", like, 0);
        SunnyOnes k = Check.rule(Check.world("1;1", "030;001"), "(i=1)*k*3");
        Check.eq("the other one is not alone then", k.meets(0, 1, 1), 1);
        Check.row("the other one is not alone then", k, 0);
        SunnyOnes bright = Check.rule(Check.world("9;5", "500;000"), "s*(i=0)");
        Check.eq("of the PLACES that are there", bright.meets(0, 1, 1), 1);
        Check.row("of the PLACES that are there", bright, 55);
        SunnyOnes sky = Check.skies(Check.world("9;0", "000;301"), "015");
        Check.eq("by SKY of each DAY", sky.meets(0, 1, 2), 0);
        Check.row("by SKY of each DAY", sky, 29);
        Check.eq("by SKY of each DAY", sky.meets(0, 1, 3), 0);
        Check.row("by SKY of each DAY", sky, 24);
        Check.eq("by SKY of each DAY", sky.meets(0, 1, 15), 0);
        Check.row("by SKY of each DAY", sky, 0);
        Check.eq("by SKY of each DAY", sky.meets(0, 1, 60), 1);
        Check.row("by SKY of each DAY", sky, 30);
        Check.rule(sky, "(n=3)*9+(i=1)*(a<3)");
        Check.eq("by DAY and AGE", sky.meets(1, 0, 4), 0);
        Check.row("by DAY and AGE", sky, 33);
        SunnyOnes old = Check.rule(Check.world("1;9", "990;000"), "9-p*(i=0)");
        for (int i = 0; i < 20; i++) {
            old.days(60);
        }
        Check.eq("AGE 9999", old.meets(0, 1, 60), 0);
        Check.row("AGE 9999", old, 0);
    }

    private static void rooms() {
        Check.part("promises 31 and 32");
        SunnyOnes x = Check.family();
        Check.eq("rooms()", x.rooms(), 13);
        Check.row("the least row", x, 0, 1, 2);
        Check.eq("cellars()", x.cellars(), 13);
        Check.row("the least row", x, 0, 1, 2);
        SunnyOnes two = Check.world("1;9;0;4;0", "104;994");
        Check.eq("rooms()", two.rooms(), 13);
        Check.row("rooms()", two, 1, 3);
        Check.eq("cellars()", two.cellars(), 0);
        Check.row("cellars()", two, 2, 4);
        Check.eq("nothing changes", Check.one(two, 0, 1), 4);
        Check.rule(two, "9-k*9+i*p-p*2");
        Check.eq("alone", two.rooms(), 9 + 8);
        Check.row("alone", two, 0, 1);
        Check.eq("cellars()", two.cellars(), 1 + 6);
        Check.row("cellars()", two, 4, 3);
        SunnyOnes six = Check.world("1;2;3;4;5;6", "000;000;000;000;000;000");
        Check.rule(six, "s*(p+i=5)");
        Check.eq("six", six.rooms(), 21);
        Check.row("six", six, 5, 4, 3, 2, 1, 0);
        Check.eq("six", six.cellars(), 0);
        Check.row("six", six, 0, 1, 2, 3, 4, 5);
        Check.type(six, "000").people();
        Check.eq("fewer PLACES", six.rooms(), -2);
        Check.eq("fewer PLACES", six.cellars(), -2);
        Check.row("the ROW stays", six, 0, 1, 2, 3, 4, 5);
        SunnyOnes none = new SunnyOnes();
        Check.eq("nobody", none.rooms(), -2);
        Check.type(none, "5").places();
        Check.eq("nobody", none.rooms(), -2);
        Check.eq("nobody", none.cellars(), -2);
        SunnyOnes night = Check.skies(Check.world("9;5", "000"), "09");
        Check.eq("today", night.rooms(), 0);
        night.days(1);
        Check.eq("today", night.rooms(), 9);
        Check.eq("today", night.cellars(), 5);
        Check.row("today", night, 1);
        night.days(1);
        Check.eq("less than before", night.rooms(), 0);
        Check.row("less than before", night, 0);
        Check.eq("less than before", night.cellars(), 0);
        night.days(1);
        Check.eq("more than before", night.cellars(), 5);
        Check.row("more than before", night, 1);
    }

    private static void brightest() {
        Check.part("promise 33");
        SunnyOnes x = Check.world("9;0;9;4", "101;121;083");
        Check.eq("brightest(0)", x.brightest(0), 5);
        Check.row("brightest(0)", x, 9);
        Check.rule(x, "5-k*2");
        Check.eq("others where they are", x.brightest(0), 5);
        Check.row("others where they are", x, 5);
        Check.eq("others where they are", x.brightest(2), 13);
        Check.rule(x, "k");
        Check.eq("others where they are", x.brightest(2), 2);
        Check.row("others where they are", x, 2);
        Check.rule(x, "0");
        Check.eq("all", x.brightest(1), 15);
        Check.row("all", x, 0);
        SunnyOnes six = Check.rule(Check.world("1;2;3;4;5;6", "100"), "7");
        Check.eq("six PLACES", six.brightest(0), 63);
        Check.rule(six, "s");
        Check.eq("the sixth", six.brightest(0), 32);
        Check.row("the sixth", six, 6);
        Check.eq("brightest(3)", x.brightest(3), -1);
        Check.eq("brightest(-1)", x.brightest(-1), -1);
        Check.row("the ROW stays", x, 0);
    }

    public static void main(String[] args) {
        comes();
        ways();
        hides();
        meets();
        rooms();
        brightest();
        Check.done();
    }
}
