import java.util.Random;

/** Random runs of calls, right and wrong ones, each answered as the model answers. */
public final class ModelTest {
    private static final int[] WILD = {
        0, -1, 1, 2, 7, 10, 60, 61, 99, 100, 127, 128, 9999, 10000, 65536,
        Integer.MAX_VALUE, Integer.MIN_VALUE, Integer.MIN_VALUE + 1
    };
    private static final int CALLS = 46;
    private static final String SIGNS = "0123456789;swakpin+-*/<>=()xmdy \u00e9\u0000\u00ff";

    /** Rules by which HOURS differ; what is drawn at random is mostly 0 or 9. */
    private static final String[] RULES = {
        "s*w/9", "(s+a)/2-k", "s-k*2+n/3", "(a+s*w)/9", "w-p+i", "a/2", "(9-a)*(w>4)", "s*(k=0)+n",
        "n*s/7", "(n<5)*s", "1+(a>6)+p", "s/(k+1)", "w*(9-k)/9-i", "(p=n/2)*9", "a*(s>3)-n", "s-a"
    };

    private final Random random;
    private final SunnyOnes x = new SunnyOnes();
    private final Model m = new Model();
    private final StringBuilder log = new StringBuilder();

    private ModelTest(long seed) {
        random = new Random(seed);
    }

    /** Mostly of 0 .. most, now and then one more, seldom something wild. */
    private int upTo(int most) {
        int kind = random.nextInt(40);
        if (kind == 0) {
            return WILD[random.nextInt(WILD.length)];
        }
        return kind == 1 ? most + 1 : kind == 2 ? most : kind == 3 ? 0 : random.nextInt(most + 1);
    }

    private int who() {
        return upTo(Math.max(0, m.now.folk.size() - 1));
    }

    private int where() {
        return upTo(Math.max(0, m.lights.size() - 1));
    }

    private String digits(int many) {
        StringBuilder s = new StringBuilder();
        for (int i = 0; i < many; i++) {
            s.append((char) ('0' + random.nextInt(10)));
        }
        return s.toString();
    }

    private String lines(boolean people, int most) {
        StringBuilder s = new StringBuilder();
        int many = 1 + random.nextInt(most);
        for (int i = 0; i < many; i++) {
            s.append(i > 0 ? ";" : "");
            s.append(people ? digits(2) + random.nextInt(Math.max(1, m.lights.size())) : digits(1));
        }
        return s.toString();
    }

    private String expression(int depth, boolean compare) {
        int kind = random.nextInt(compare ? 12 : 10);
        if (kind >= 10) {
            return expression(depth, false) + "<>=".charAt(random.nextInt(3)) + expression(depth, false);
        }
        if (kind < 4 || depth > 5) {
            return random.nextInt(3) == 0 ? digits(1 + random.nextInt(3)) : "" + "swakpin".charAt(random.nextInt(7));
        }
        if (kind < 7) {
            return expression(depth + 1, false) + "+-*/".charAt(random.nextInt(4)) + expression(depth + 1, false);
        }
        return kind == 7 ? "-" + expression(5, false) : "(" + expression(depth + 1, true) + ")";
    }

    private String life() {
        StringBuilder s = new StringBuilder();
        int many = random.nextInt(25);
        for (int i = 0; i < many; i++) {
            int folk = Math.max(1, m.now.folk.size());
            switch (random.nextInt(5)) {
                case 0 -> s.append('n').append(random.nextInt(10));
                case 1 -> s.append('m').append(random.nextInt(folk)).append(random.nextInt(Math.max(1, m.lights.size())));
                case 2 -> s.append('s').append(random.nextInt(folk)).append(random.nextInt(folk));
                case 3 -> s.append('d').append(random.nextInt(folk));
                default -> s.append('y').append(random.nextInt(folk)).append(digits(2));
            }
        }
        return s.toString();
    }

    private String spoilt(String s) {
        if (random.nextInt(4) > 0 || s.isEmpty()) {
            return s;
        }
        int p = random.nextInt(s.length());
        String other = "" + SIGNS.charAt(random.nextInt(SIGNS.length()));
        return switch (random.nextInt(4)) {
            case 0 -> s.substring(0, p) + other + s.substring(p + 1);
            case 1 -> s.substring(0, p);
            case 2 -> s.substring(0, p) + other + s.substring(p);
            default -> s + other;
        };
    }

    private String anyText(int call) {
        return switch (call) {
            case 2 -> lines(false, random.nextInt(5) == 0 ? 8 : 3);
            case 3 -> lines(true, random.nextInt(5) == 0 ? 9 : 4);
            case 4 -> digits(1 + random.nextInt(random.nextInt(4) == 0 ? 24 : 9));
            case 14 -> life();
            default -> random.nextInt(3) > 0 ? RULES[random.nextInt(RULES.length)] : expression(0, true);
        };
    }

    /** Most runs begin with some PEOPLE; in some these are near the bounds of AGE and DEEDS. */
    private void begin(long seed) {
        if (seed % 5 == 0) {
            return;
        }
        write(lines(false, 6));
        Check.eq("places", x.places(), m.places());
        write(lines(true, 7));
        Check.eq("people", x.people(), m.people());
        if (seed % 5 == 1) {
            write("9-p/3");
            Check.eq("rule", x.rule(), m.rule());
            for (int i = 0; i < 18; i++) {
                Check.eq("days", x.days(60), m.days(60));
            }
        }
        if (seed % 5 == 2) {
            write("0");
            Check.eq("rule", x.rule(), m.rule());
            for (int i = 0; i < 99; i++) {
                Check.eq("deeds", x.deeds(0), m.deeds(0));
            }
        }
        if (seed % 5 != 3) {
            write("");
            Check.eq("rule", x.rule(), m.rule());
        }
        same("at first");
    }

    private void write(int call) {
        write(random.nextInt(12) == 0 ? "" : spoilt(anyText(call)));
    }

    private void write(String all) {
        String s = all.length() > 80 ? all.substring(0, 80) : all;
        log.append(" «").append(s).append("»");
        Check.type(x, s);
        m.text = s;
    }

    private static long is(boolean b) {
        return b ? 1 : 0;
    }

    private void step() {
        int call = random.nextInt(CALLS);
        if (call < 5 && call > 1 || call == 5 || call == 14 || call == 42) {
            if (call == 2 && m.lights.size() >= 2 && random.nextInt(6) > 0) {
                return;
            }
            if (call == 3 && m.now.folk.size() >= 2 && random.nextInt(6) > 0) {
                return;
            }
            write(call);
        }
        int a = 0;
        int b = 0;
        int c = 0;
        int d = 0;
        long got = 0;
        long due = 0;
        switch (call) {
            case 0 -> { a = random.nextInt(); got = x.sign(a); due = m.sign(a); }
            case 1 -> { a = upTo(m.text.length()); got = is(x.end(a)); due = m.end(a); }
            case 2 -> { got = x.places(); due = m.places(); }
            case 3 -> { got = x.people(); due = m.people(); }
            case 4 -> { got = x.skies(); due = m.skies(); }
            case 5 -> { got = x.rule(); due = m.rule(); }
            case 6 -> { a = who(); b = upTo(3); got = Check.one(x, a, b); due = m.one(a, b); }
            case 7 -> { a = where(); b = upTo(2); got = Check.place(x, a, b); due = m.place(a, b); }
            case 8 -> {
                a = upTo(3);
                b = upTo(6);
                c = random.nextBoolean() ? random.nextInt(12) - 1 : random.nextInt();
                d = random.nextBoolean() ? random.nextInt(5) - 2 : random.nextInt();
                got = x.sheet(a, b, c, d);
                due = m.sheet(a, b, c, d);
            }
            case 9 -> { a = upTo(random.nextBoolean() ? 5 : 60); got = x.days(a); due = m.days(a); }
            case 10 -> { a = who(); b = where(); got = x.moves(a, b); due = m.moves(a, b); }
            case 11 -> { a = who(); b = who(); got = x.swaps(a, b); due = m.swaps(a, b); }
            case 12 -> { a = who(); got = x.deeds(a); due = m.deeds(a); }
            case 13 -> { a = who(); b = upTo(random.nextBoolean() ? 9 : 99); got = x.doubts(a, b); due = m.doubts(a, b); }
            case 14 -> { got = x.life(); due = m.life(); }
            case 15 -> { got = x.undo(); due = m.undo(); }
            case 16 -> { a = who(); b = upTo(99); got = x.later(a, b); due = m.later(a, b); }
            case 17 -> { a = who(); b = upTo(random.nextBoolean() ? 999 : 9999); got = x.when(a, b); due = m.when(a, b); }
            case 18 -> { a = who(); b = who(); got = x.even(a, b); due = m.even(a, b); }
            case 19 -> { got = x.passes(); due = m.passes(); }
            case 20 -> { got = x.order(); due = m.order(); }
            case 21 -> { a = who(); b = upTo(20); got = x.summer(a, b); due = m.summer(a, b); }
            case 22 -> { a = who(); b = upTo(99); got = x.nights(a, b); due = m.nights(a, b); }
            case 23 -> { a = upTo(99); got = x.apart(a); due = m.apart(a); }
            case 24 -> { got = x.sunniest(); due = m.sunniest(); }
            case 25 -> {
                a = who();
                b = a >= 0 && a < m.now.folk.size() ? upTo(36) + m.now.folk.get(a).age : upTo(9999);
                got = x.comes(a, b);
                due = m.comes(a, b);
            }
            case 26 -> { a = who(); b = upTo(36); c = upTo(4); got = x.ways(a, b, c); due = m.ways(a, b, c); }
            case 27 -> { a = who(); b = upTo(60); got = x.hides(a, b); due = m.hides(a, b); }
            case 28 -> { a = who(); b = who(); c = upTo(60); got = x.meets(a, b, c); due = m.meets(a, b, c); }
            case 29 -> { got = x.rooms(); due = m.rooms(); }
            case 30 -> { got = x.cellars(); due = m.cellars(); }
            case 31 -> { a = who(); got = x.brightest(a); due = m.brightest(a); }
            case 32 -> { a = who(); b = upTo(9); got = x.saw(a, b); due = m.saw(a, b); }
            case 33 -> {
                if (random.nextInt(3) == 0) {
                    got = x.denies();
                    due = m.denies();
                }
            }
            case 34 -> { got = x.guess(); due = m.guess(); }
            case 35 -> { got = x.looks(); due = m.looks(); }
            case 36 -> {
                a = upTo(4);
                b = upTo(random.nextInt(6) == 0 ? 9999 : random.nextBoolean() ? 1 : 6);
                got = x.heard(a, b);
                due = m.heard(a, b);
            }
            case 37 -> {
                if (random.nextInt(3) == 0) {
                    got = x.forget();
                    due = m.forget();
                }
            }
            case 38 -> { got = x.fits(); due = m.fits(); }
            case 39 -> { got = x.asks(); due = m.asks(); }
            case 40 -> {
                a = who();
                b = upTo(8);
                c = upTo(10);
                d = upTo(random.nextBoolean() ? 12 : 72);
                got = x.chance(a, b, c, d);
                due = m.chance(a, b, c, d);
            }
            case 41 -> {
                a = upTo(60);
                got = x.parasol(a);
                due = m.parasol(a);
                b = upTo(20);
                got = got * 1000 + x.rests(b);
                due = due * 1000 + m.rests(b);
            }
            case 42 -> { got = x.law(); due = m.law(); }
            case 43 -> { a = random.nextInt(); b = upTo(60); got = x.years(a, b); due = m.years(a, b); }
            case 44 -> { a = upTo(1); got = is(x.keep(a)); due = m.keep(a); }
            default -> { a = upTo(1); got = is(x.again(a)); due = m.again(a); }
        }
        String told = "call " + call + " with " + a + ", " + b + ", " + c + ", " + d;
        log.append(' ').append(told).append(';');
        Check.eq(told, got, due);
        same(told);
    }

    /** All that can be seen is as the model has it. */
    private void same(String told) {
        for (int what = -1; what <= 13; what++) {
            Check.eq(told + ", then count(" + what + ")", x.count(what), m.count(what));
        }
        for (int i = -1; i <= m.row.length; i++) {
            Check.eq(told + ", then row(" + i + ")", Check.row(x, i), m.row(i));
        }
        for (int i = 0; i < m.now.folk.size(); i++) {
            for (int what = 0; what <= 3; what++) {
                Check.eq(told + ", then one(" + i + ", " + what + ")", Check.one(x, i, what), m.one(i, what));
            }
        }
    }

    public static void main(String[] args) {
        int runs = args.length > 0 ? Integer.parseInt(args[0]) : 400;
        for (long seed = 1; seed <= runs && Check.wrong() == 0; seed++) {
            ModelTest run = new ModelTest(seed);
            Check.part("run " + seed);
            run.begin(seed);
            for (int i = 0; i < 300 && Check.wrong() == 0; i++) {
                run.step();
            }
            if (Check.wrong() > 0) {
                System.out.println(run.log);
            }
        }
        Check.done();
    }
}
