/** Promises 47 to 50: what is kept, counts, the ROW; and what refused calls leave as it is. */
public final class KeptTest {
    private static void keep() {
        Check.part("promises 47 and 48");
        SunnyOnes x = Check.family();
        Check.no("keep(2)", x.keep(2));
        Check.no("keep(-1)", x.keep(-1));
        Check.no("nothing kept", x.again(0));
        Check.no("nothing kept", x.again(1));
        Check.no("again(2)", x.again(2));
        Check.no("again(-1)", x.again(-1));
        Check.yes("keep(0)", x.keep(0));
        x.days(3);
        x.swaps(0, 2);
        x.deeds(1);
        Check.yes("keep(1)", x.keep(1));
        x.moves(1, 0);
        Check.eq("count(10)", x.count(10), 4);
        Check.yes("again(0)", x.again(0));
        Check.eq("count(4)", x.count(4), 30);
        Check.eq("count(2)", x.count(2), 0);
        Check.eq("count(6)", x.count(6), 0);
        Check.eq("one(0, 1)", Check.one(x, 0, 1), 0);
        Check.eq("count(10)", x.count(10), 0);
        Check.yes("again(1)", x.again(1));
        Check.eq("count(4)", x.count(4), 69);
        Check.eq("count(2)", x.count(2), 3);
        Check.eq("count(6)", x.count(6), 1);
        Check.eq("one(0, 1)", Check.one(x, 0, 1), 2);
        Check.eq("one(1, 1)", Check.one(x, 1, 1), 1);
        x.sheet(2, 0, 0, 0);
        x.days(1);
        Check.type(x, "").places();
        Check.type(x, "").people();
        Check.type(x, "x").places();
        Check.yes("nothing came", x.again(1));
        Check.eq("LIGHTS are not kept", x.count(5), 0);
        x.days(2);
        Check.type(x, "5").places();
        Check.no("PLACES came", x.again(0));
        Check.no("PLACES came", x.again(1));
        Check.eq("nothing changes", x.count(2), 5);
        Check.yes("keep(1)", x.keep(1));
        Check.no("the other one is gone", x.again(0));
        Check.yes("again(1)", x.again(1));
        Check.type(x, "001").people();
        Check.no("PEOPLE came", x.again(1));
        x.days(1);
        Check.eq("a refused one does not forget", (x.again(1) ? 100 : 0) + x.count(10), 1);
        SunnyOnes none = new SunnyOnes();
        none.keep(0);
        none.days(9);
        Check.yes("without PEOPLE", none.again(0));
        Check.eq("without PEOPLE", none.count(2), 0);
    }

    private static void count() {
        Check.part("promise 49");
        SunnyOnes x = Check.skies(Check.world("9;0;4;2", "100;121;082"), "93");
        x.deeds(1);
        x.days(1);
        x.saw(0, 1);
        x.saw(0, 1);
        x.heard(0, 1);
        x.order();
        x.sign(0);
        x.end(3);
        int[] due = {4, 3, 1, 3, 43, 15, 1, 4, 2, 1, 2, 3, 3};
        for (int what = 0; what < due.length; what++) {
            Check.eq("count(" + what + ")", x.count(what), due[what]);
        }
        for (int what : new int[] {-1, 13, 14, Integer.MAX_VALUE, Integer.MIN_VALUE}) {
            Check.eq("count(" + what + ")", x.count(what), -1);
        }
    }

    private static void row() {
        Check.part("promise 50");
        SunnyOnes x = new SunnyOnes();
        Check.eq("row(0)", Check.row(x, 0), Check.THROWS);
        x.guess();
        Check.eq("row(0)", Check.row(x, 0), 10);
        Check.eq("row(1)", Check.row(x, 1), 1);
        for (int i : new int[] {-1, 2, 16, 17, Integer.MAX_VALUE, Integer.MIN_VALUE}) {
            Check.eq("row(" + i + ")", Check.row(x, i), Check.THROWS);
        }
        x.fits();
        Check.eq("row(0)", Check.row(x, 0), 0);
        Check.eq("row(1)", Check.row(x, 1), Check.THROWS);
        SunnyOnes most = Check.world("1", "000;000;000;000;000;000;990");
        most.law();
        Check.row("nine numbers", most, 70, 70, 10, 10, 10, 10, 10, 10, 109);
    }

    private static void theTextAndTheRowStay() {
        Check.part("terms");
        SunnyOnes x = Check.family();
        x.guess();
        x.sign(0x31323334);
        x.later(0, 5);
        x.days(1);
        x.saw(0, 3);
        Check.eq("these do not read THE TEXT", x.count(12), 4);
        x.guess();
        x.saw(0, 3);
        x.denies();
        x.heard(0, 3);
        x.forget();
        x.moves(0, 1);
        x.swaps(0, 2);
        x.deeds(1);
        x.doubts(1, 1);
        x.undo();
        x.keep(0);
        x.again(0);
        x.parasol(9);
        x.count(4);
        x.sheet(2, 1, 1, 1);
        x.skies();
        Check.row("these do not tell of the ROW", x, 1, 0);
        Check.eq("SKIES came of it", x.count(3), 2);
    }

    public static void main(String[] args) {
        keep();
        count();
        row();
        theTextAndTheRowStay();
        Check.done();
    }
}
