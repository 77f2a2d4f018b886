import java.util.NoSuchElementException;

/** Counts answers that are not as due, and writes texts into an object. */
final class Check {
    static final long THROWS = Long.MIN_VALUE;

    private static int wrong = 0;
    private static int asked = 0;
    private static String part = "";

    private Check() {
    }

    static void part(String name) {
        part = name;
    }

    static void eq(String what, long got, long want) {
        asked++;
        if (got != want) {
            wrong++;
            System.out.println(part + ": " + what + " answered " + got + ", due is " + want);
        }
    }

    static void yes(String what, boolean got) {
        eq(what, got ? 1 : 0, 1);
    }

    static void no(String what, boolean got) {
        eq(what, got ? 1 : 0, 0);
    }

    /** THE TEXT becomes this one. */
    static SunnyOnes type(SunnyOnes x, String signs) {
        x.end(0);
        for (int p = 0; p < signs.length(); p += 4) {
            int v = 0;
            for (int i = 0; i < 4; i++) {
                v = v << 8 | (p + i < signs.length() ? signs.charAt(p + i) : 'x');
            }
            x.sign(v);
        }
        x.end(signs.length());
        return x;
    }

    /** PLACES and PEOPLE told by texts. */
    static SunnyOnes world(String places, String people) {
        SunnyOnes x = new SunnyOnes();
        eq("places of " + places, type(x, places).places(), (places.length() + 1) / 2);
        eq("people of " + people, type(x, people).people(), (people.length() + 1) / 4);
        return x;
    }

    /** LIGHTS 9, 0, 4, at each one of PEOPLE, of AGES 10, 12, 8. */
    static SunnyOnes family() {
        return world("9;0;4", "100;121;082");
    }

    static SunnyOnes rule(SunnyOnes x, String rule) {
        eq("rule() of " + rule, type(x, rule).rule(), 0);
        return x;
    }

    static SunnyOnes skies(SunnyOnes x, String skies) {
        eq("skies() of " + skies, type(x, skies).skies(), skies.length());
        return x;
    }

    static long one(SunnyOnes x, int one, int what) {
        try {
            return x.one(one, what);
        } catch (NoSuchElementException e) {
            return THROWS;
        }
    }

    static long place(SunnyOnes x, int place, int what) {
        try {
            return x.place(place, what);
        } catch (NoSuchElementException e) {
            return THROWS;
        }
    }

    static long row(SunnyOnes x, int i) {
        try {
            return x.row(i);
        } catch (NoSuchElementException e) {
            return THROWS;
        }
    }

    /** The ROW is just this. */
    static void row(String what, SunnyOnes x, long... want) {
        eq(what + ": numbers of the ROW", x.count(11), want.length);
        for (int i = 0; i < want.length; i++) {
            eq(what + ": row(" + i + ")", row(x, i), want[i]);
        }
        eq(what + ": row behind", row(x, want.length), THROWS);
    }

    static void done() {
        System.out.println(asked + " answers, " + wrong + " wrong");
        if (wrong > 0) {
            System.exit(1);
        }
    }

    static int wrong() {
        return wrong;
    }
}
