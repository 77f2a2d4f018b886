/** Promises 42 to 46: chances, a parasol, rests, rules, years. */
public final class ChanceTest {
    private static void chance(SunnyOnes x, int one, int n, int p, int g, long upper, long lower) {
        String call = "chance(" + one + ", " + n + ", " + p + ", " + g + ")";
        Check.eq(call, x.chance(one, n, p, g), 0);
        Check.row(call, x, upper, lower);
    }

    private static void chance() {
        Check.part("promise 42");
        SunnyOnes x = Check.family();
        chance(x, 0, 1, 5, 9, 1, 2);
        chance(x, 0, 2, 5, 9, 3, 4);
        chance(x, 1, 3, 5, 1, 0, 1);
        chance(x, 1, 8, 5, 0, 1, 1);
        chance(x, 0, 0, 5, 0, 1, 1);
        chance(x, 0, 0, 5, 1, 0, 1);
        chance(x, 2, 2, 3, 8, 9, 100);
        chance(x, 0, 8, 10, 72, 1, 1);
        chance(x, 0, 8, 0, 1, 0, 1);
        chance(x, 0, 8, 1, 72, 1, 100000000);
        chance(x, 0, 8, 7, 72, 5764801, 100000000);
        chance(x, 0, 8, 3, 1, 100000000 - 5764801, 100000000);
        int[][] wrong = {
            {0, 9, 0, 0}, {0, -1, 0, 0}, {0, 0, 11, 0}, {0, 0, -1, 0}, {0, 0, 0, 73}, {0, 0, 0, -1}, {3, 0, 0, 0}, {-1, 0, 0, 0}
        };
        for (int[] w : wrong) {
            Check.eq("chance of a wrong one", x.chance(w[0], w[1], w[2], w[3]), -1);
        }
        Check.row("the ROW stays", x, 94235199, 100000000);
        Check.eq("nothing changes", x.count(4), 30);
        Check.eq("nothing changes", x.count(2), 0);
        Check.rule(x, "(w=9)*(1+a)");
        chance(x, 0, 1, 5, 1, 1, 2);
        chance(x, 0, 2, 5, 3, 1, 4);
        Check.rule(x, "(w=9)*(n=1)");
        chance(x, 0, 8, 4, 1, 2, 5);
        Check.rule(x, "9-w");
        chance(x, 0, 2, 4, 18, 9, 25);
        Check.rule(x, "(w=9)*(a<2)*1");
        chance(x, 0, 3, 5, 2, 1, 2);
        Check.rule(x, "(w=9)*(n=2)");
        chance(x, 0, 2, 4, 1, 0, 1);
        chance(x, 0, 3, 4, 1, 2, 5);
        chance(x, 0, 8, 4, 1, 2, 5);
        x.days(1);
        chance(x, 0, 1, 4, 1, 0, 1);
        chance(x, 0, 2, 4, 1, 2, 5);
        x.days(1);
        chance(x, 0, 1, 4, 1, 2, 5);
        Check.rule(x, "k+(w=0)*0");
        x.moves(1, 0);
        chance(x, 0, 8, 4, 8, 1, 1);
        chance(x, 0, 8, 4, 9, 0, 1);
        Check.rule(x, "8+(w=9)");
        Check.skies(x, "5");
        chance(x, 0, 1, 3, 9, 3, 10);
        chance(x, 0, 1, 3, 8, 1, 1);
        chance(x, 0, 1, 0, 9, 0, 1);
        chance(x, 0, 1, 10, 9, 1, 1);
        chance(x, 0, 8, 10, 72, 1, 1);
        chance(x, 0, 8, 9, 72, 43046721, 100000000);
        chance(x, 0, 8, 0, 64, 1, 1);
        chance(x, 0, 8, 0, 65, 0, 1);
        chance(x, 0, 2, 2, 17, 9, 25);
        Check.rule(x, "w-1");
        chance(x, 0, 2, 5, 8, 3, 4);
        Check.rule(x, "(w=0)*9");
        chance(x, 0, 1, 9, 9, 1, 10);
        chance(x, 0, 1, 1, 9, 9, 10);
        chance(x, 0, 1, 10, 9, 0, 1);
        chance(x, 0, 1, 0, 9, 1, 1);
        Check.rule(x, "(w=9)*9");
        chance(x, 0, 1, 9, 9, 9, 10);
        chance(x, 0, 1, 1, 9, 1, 10);
        SunnyOnes old = Check.rule(Check.world("1", "990"), "9");
        for (int i = 0; i < 20; i++) {
            old.days(60);
        }
        chance(old, 0, 8, 5, 72, 1, 1);
    }

    /** Whether who is to take 1 .. most of a rest wins. */
    private static boolean wins(int rest, int most, int[][] known) {
        int m = Math.min(rest, most);
        if (known[rest][m] == 0) {
            known[rest][m] = 1;
            for (int take = 1; take <= m; take++) {
                if (!wins(rest - take, 2 * take, known)) {
                    known[rest][m] = 2;
                }
            }
        }
        return known[rest][m] == 2;
    }

    private static void parasol() {
        Check.part("promise 43");
        SunnyOnes x = new SunnyOnes();
        int[][] known = new int[61][61];
        for (int n = 0; n <= 60; n++) {
            int due = 0;
            for (int take = n - 1; take >= 1; take--) {
                due = wins(n - take, 2 * take, known) ? due : take;
            }
            Check.eq("parasol(" + n + ")", x.parasol(n), due);
        }
        Check.eq("parasol(7)", x.parasol(7), 2);
        Check.eq("parasol(55)", x.parasol(55), 0);
        Check.eq("parasol(60)", x.parasol(60), 5);
        Check.eq("parasol(61)", x.parasol(61), -1);
        Check.eq("parasol(-1)", x.parasol(-1), -1);
    }

    private static int gain(int v, int mine, int his) {
        return mine < his ? -mine : mine > his ? v - his : v / 3 - mine;
    }

    private static void rests() {
        Check.part("promise 44");
        SunnyOnes x = new SunnyOnes();
        Check.eq("rests(0)", x.rests(0), 19);
        Check.row("rests(0)", x, 0, 0);
        for (int v = 0; v <= 20; v++) {
            int many = 0;
            int least = -1;
            for (int pair = 0; pair < 100; pair++) {
                boolean rests = true;
                for (int another = 0; another < 10; another++) {
                    rests &= gain(v, another, pair % 10) <= gain(v, pair / 10, pair % 10);
                    rests &= gain(v, another, pair / 10) <= gain(v, pair % 10, pair / 10);
                }
                many += rests ? 1 : 0;
                least = rests && least < 0 ? pair : least;
            }
            Check.eq("rests(" + v + ")", x.rests(v), many);
            if (many > 0) {
                Check.row("rests(" + v + ")", x, least / 10, least % 10);
            } else {
                Check.row("rests(" + v + ")", x);
            }
        }
        Check.eq("rests(1): (0, 1) .. (0, 9) and back", x.rests(1), 18);
        Check.row("rests(1)", x, 0, 1);
        Check.eq("rests(20): (0, 9) and back", x.rests(20), 2);
        Check.row("rests(20)", x, 0, 9);
        x.rests(0);
        Check.eq("rests(21)", x.rests(21), -1);
        Check.eq("rests(-1)", x.rests(-1), -1);
        Check.row("the ROW stays", x, 0, 0);
    }

    private static void law() {
        Check.part("promise 45");
        SunnyOnes x = Check.family();
        Check.eq("law of 0", Check.type(x, "0").law(), -130);
        Check.row("law of 0", x, 0, 130, 10, 12, 8);
        Check.eq("law of 9", Check.type(x, "9").law(), 140);
        Check.row("law of 9", x, 270, 130, 100, 102, 98);
        Check.eq("wrong", Check.type(x, "s*").law(), -10002);
        Check.eq("wrong", Check.type(x, "x").law(), -10000);
        Check.eq("more than 40", Check.type(x, "1+1+1+1+1+1+1+1+1+1+1+1+1+1+1+1+1+1+1+--1").law(), -10040);
        Check.eq("more than 40", Check.type(x, "1+1+1+1+1+1+1+1+1+1+1+1+1+1+1+1+1+1+1+-1x").law(), -10040);
        Check.eq("ends too early", Check.type(x, "1+1+1+1+1+1+1+1+1+1+1+1+1+1+1+1+1+1+1+-").law(), -10039);
        Check.eq("ends too early", Check.type(x, "1+1+1+1+1+1+1+1+1+1+1+1+1+1+1+1+1+1+1+--").law(), -10040);
        Check.row("the ROW stays", x, 270, 130, 100, 102, 98);
        Check.eq("count(12)", x.count(12), 0);
        Check.rule(x, "i");
        Check.eq("less those by THE RULE", Check.type(x, "a").law(), 100 - 30);
        Check.row("less those by THE RULE", x, 100, 30, 10, 58, 62);
        Check.eq("an empty one: none", Check.type(x, "").law(), 100);
        Check.row("an empty one: none", x, 130, 30, 100, 12, 48);
        Check.eq("nothing changes", Check.one(x, 2, 3), 2);
        Check.eq("nothing changes", x.count(4), 30);
        Check.eq("nothing changes", x.count(2), 0);
        Check.eq("nobody", new SunnyOnes().law(), 0);
        SunnyOnes none = new SunnyOnes();
        Check.eq("nobody", Check.type(none, "9").law(), 0);
        Check.row("nobody", none, 0, 0);
        SunnyOnes old = Check.rule(Check.world("1", "990;990"), "9");
        for (int i = 0; i < 18; i++) {
            old.days(60);
        }
        old.days(19);
        Check.eq("AGE 9990", Check.one(old, 0, 0), 9990);
        Check.eq("HOURS are whole", Check.type(old, "9-i*8").law(), 100 - 180);
        Check.row("9999 at most", old, 100, 180, 9999, 9999);
        Check.rule(old, "(n=0)*9");
        Check.eq("DAY 1099 by 7", old.count(2) % 7, 0);
        Check.eq("n is 6 once, 0 twice", Check.type(old, "(n=6)*9").law(), 18 - 36);
        Check.row("n is 6 once, 0 twice", old, 18, 36, 9999, 9999);
        Check.eq("ten DAYS", Check.type(old, "1").law(), 20 - 36);
        Check.row("ten DAYS", old, 20, 36, 9999, 9999);
    }

    private static void years() {
        Check.part("promise 46");
        SunnyOnes x = Check.family();
        Check.eq("years(1, 2)", x.years(1, 2), 28);
        Check.row("years(1, 2)", x, 0, 0);
        Check.eq("nothing changes", x.count(4), 30);
        Check.eq("nothing changes", x.count(10), 0);
        int ages = 30;
        int hours = 0;
        for (int n = 1; n <= 60; n++) {
            Check.eq("each has its own way", x.years(77, n), x.years(77, n));
        }
        Check.rule(x, "1");
        int r = -5;
        int days = 0;
        int doubted = 0;
        for (int n = 1; n <= 20; n++) {
            r = r * 1103515245 + 12345;
            int kind = (r >>> 16) % 4;
            if (kind <= 1) {
                days++;
                hours += 3;
            } else {
                r = r * 1103515245 + 12345;
                r = r * 1103515245 + 12345;
                doubted += kind == 3 ? (r >>> 16) % 9 + 1 : 0;
            }
            int got = x.years(-5, n);
            Check.row("years(-5, " + n + ")", x, hours, days);
            if (doubted <= 8) {
                Check.eq("years(-5, " + n + ")", got, ages + hours - doubted);
            }
        }
        Check.eq("years(1, 61)", x.years(1, 61), -1);
        Check.eq("years(1, 0)", x.years(1, 0), -1);
        Check.eq("years(1, -1)", x.years(1, -1), -1);
        Check.row("the ROW stays", x, hours, days);
        x.days(60);
        x.days(45);
        x.years(-5, 20);
        Check.row("DAY by 100", x, hours, days + 5);
        SunnyOnes none = new SunnyOnes();
        Check.eq("nobody", none.years(1, 3), 0);
        Check.row("nobody: no DRAWS more", none, 0, draws(1, 3));
    }

    private int r;

    private int drawn(int n) {
        r = r * 1103515245 + 12345;
        return (int) (Integer.toUnsignedLong(r) / 65536 % n);
    }

    /** By the words of promise 46, where each has one HOUR a DAY and AGES are far from 9999. */
    private static void yearsOf(int seed, int n, int[] ages, int places) {
        SunnyOnes x = Check.rule(Check.world("1;1;1;1;1;1".substring(0, 2 * places - 1), folk(ages)), "p+1");
        ChanceTest t = new ChanceTest();
        t.r = seed;
        int[] age = ages.clone();
        int[] spot = new int[age.length];
        int day = 0;
        int hours = 0;
        for (int i = 0; i < n; i++) {
            int kind = t.drawn(4);
            if (kind < 2) {
                for (int one = 0; one < age.length; one++) {
                    hours += spot[one] + 1;
                    age[one] += spot[one] + 1;
                }
                day++;
            } else if (age.length > 0) {
                int one = t.drawn(age.length);
                if (kind == 2) {
                    spot[one] = t.drawn(places);
                } else {
                    age[one] = Math.max(0, age[one] - t.drawn(9) - 1);
                }
            }
        }
        int sum = 0;
        for (int a : age) {
            sum += a;
        }
        Check.eq("years(" + seed + ", " + n + ")", x.years(seed, n), sum);
        Check.row("years(" + seed + ", " + n + ")", x, hours, day);
    }

    private static String folk(int[] ages) {
        StringBuilder s = new StringBuilder();
        for (int age : ages) {
            s.append(s.length() > 0 ? ";" : "").append((char) ('0' + age / 10)).append((char) ('0' + age % 10)).append('0');
        }
        return s.toString();
    }

    private static void yearsAll() {
        Check.part("promise 46");
        int[] seeds = {0, 1, -1, 7, 123456789, Integer.MAX_VALUE, Integer.MIN_VALUE, 65536, -65536};
        int[][] folks = {{0}, {50}, {99}, {0, 0}, {10, 12, 8}, {0, 1, 2, 3, 4, 5, 6}, {99, 0, 50, 20}};
        for (int seed : seeds) {
            for (int[] ages : folks) {
                for (int places : new int[] {1, 2, 5, 6}) {
                    for (int n : new int[] {1, 2, 3, 10, 59, 60}) {
                        yearsOf(seed, n, ages, places);
                    }
                }
            }
        }
    }

    private static int draws(int seed, int n) {
        int days = 0;
        int r = seed;
        for (int i = 0; i < n; i++) {
            r = r * 1103515245 + 12345;
            days += (r >>> 16) % 4 < 2 ? 1 : 0;
        }
        return days;
    }

    public static void main(String[] args) {
        chance();
        parasol();
        rests();
        law();
        years();
        yearsAll();
        Check.done();
    }
}
