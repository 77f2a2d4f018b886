import java.util.NoSuchElementException;

/** Only the sunny ones are counted: one is as old as the hours of sun that he has had. */
public final class SunnyOnes {
    public static final int NONE = -1;

    private static final int NOT_SO = -2;
    private static final int MISSING = -3;
    private static final int FINE = -1;
    private static final int MOST_PLACES = 6;
    private static final int MOST_PEOPLE = 7;
    private static final int OLDEST = 9999;
    private static final int MOST_HOURS = 9;
    private static final int MOST_DEEDS = 99;
    private static final int MOST_DOUBT = 99;
    private static final int LATEST = 99;
    private static final int LONGEST_STAY = 60;
    private static final int SEASON = 60;
    private static final int LONGEST_SUMMER = 20;
    private static final int MOST_SEEN = 10;
    private static final int MOST_HEARD = 12;
    private static final int LAW_DAYS = 10;
    private static final int LAW_ERROR = -10000;
    private static final int WAITS = 10;

    private final Text text;
    private final Row told;
    private final Land land;
    private final Rule standing;
    private final Rule proposed;
    private final Sun sun;
    private final Folk now;
    private final Folk then;
    private final Folk before;
    private final Past past;
    private final Clues seen;
    private final Clues rumours;
    private final Walk walk;
    private final Rooms house;
    private final Chance luck;
    private final int[] tally;
    private int lot;

    public SunnyOnes() {
        text = new Text();
        told = new Row();
        land = new Land();
        standing = new Rule(text);
        proposed = new Rule(text);
        sun = new Sun(land, standing);
        now = new Folk();
        then = new Folk();
        before = new Folk();
        past = new Past();
        seen = new Clues(MOST_SEEN);
        rumours = new Clues(MOST_HEARD);
        walk = new Walk(land, sun, then);
        house = new Rooms(land, sun);
        luck = new Chance(sun, then);
        tally = new int[LATEST + 1];
        lot = 0;
    }

    // ---- places, people, skies

    public int sign(int v) {
        return text.addFour(v) ? text.length() : NONE;
    }

    public boolean end(int n) {
        return text.cut(n);
    }

    public int places() {
        int bad = text.badLine(1, MOST_PLACES, land.size(), 10);
        int lines = bad == FINE ? text.lines() : 0;
        for (int line = 0; line < lines; line++) {
            land.add(text.digit(2 * line));
        }
        return cameWith(bad, lines);
    }

    public int people() {
        int bad = text.badLine(3, MOST_PEOPLE, now.size(), land.size());
        int lines = bad == FINE ? text.lines() : 0;
        for (int line = 0; line < lines; line++) {
            now.add(text.number(4 * line, 2), text.digit(4 * line + 2));
        }
        return cameWith(bad, lines);
    }

    /** Whoever comes makes what was kept unfit to be brought back. */
    private int cameWith(int bad, int lines) {
        text.clear();
        if (bad != FINE) {
            return -1 - bad;
        }
        if (lines > 0) {
            past.forgetActs();
            past.forgetShelves();
        }
        return lines;
    }

    public int skies() {
        int bad = text.badDigit(Land.MOST_SKIES);
        int many = text.length();
        if (bad == FINE) {
            land.takeSkies(text);
        }
        text.clear();
        return bad == FINE ? many : -1 - bad;
    }

    public int rule() {
        int bad = proposed.read();
        text.clear();
        if (bad != FINE) {
            return -1 - bad;
        }
        standing.copyFrom(proposed);
        return 0;
    }

    public int one(int one, int what) throws NoSuchElementException {
        if (!has(one)) {
            throw new NoSuchElementException();
        }
        switch (what) {
            case 0:
                return now.age(one);
            case 1:
                return now.spot(one);
            case 2:
                return now.sins(one);
            case 3:
                return sun.hoursOf(now, one);
            default:
                throw new NoSuchElementException();
        }
    }

    public int place(int place, int what) throws NoSuchElementException {
        if (!land.has(place)) {
            throw new NoSuchElementException();
        }
        switch (what) {
            case 0:
                return land.light(place);
            case 1:
                return now.bitsAt(place);
            case 2:
                return now.agesAt(place);
            default:
                throw new NoSuchElementException();
        }
    }

    public int sheet(int kind, int n, int f, int step) {
        if (kind < 0 || kind > 3 || n > MOST_PLACES) {
            return NONE;
        }
        if (kind == 3) {
            land.lightAll(0, 0, 0, 0);
            return MISSING;
        }
        if (n < 0) {
            return NOT_SO;
        }
        land.lightAll(kind, n, f, step);
        return land.lights();
    }

    // ---- days, moving, deeds

    public int days(int n) {
        if (n < 0 || n > SEASON) {
            return NONE;
        }
        before.copyFrom(now);
        int hours = 0;
        int dark = 0;
        for (int day = 0; day < n; day++) {
            int had = sun.dayBy(standing, now);
            hours += had;
            dark += had == 0 ? 1 : 0;
        }
        if (n > 0) {
            past.push(before);
        }
        told.tell(hours, dark);
        return now.ages();
    }

    public int moves(int one, int place) {
        before.copyFrom(now);
        return done(goTo(now, one, place));
    }

    public int swaps(int one, int other) {
        before.copyFrom(now);
        return done(trade(one, other));
    }

    public int deeds(int one) {
        before.copyFrom(now);
        return done(sin(one));
    }

    public int doubts(int one, int n) {
        before.copyFrom(now);
        return done(doubt(now, one, n));
    }

    public int life() {
        int bad = text.badAct();
        if (bad != FINE) {
            text.clear();
            return -1 - bad;
        }
        before.copyFrom(now);
        int acts = 0;
        int stopped = 0;
        int p = 0;
        for (int i = 0; i < Text.MOST && p < text.length() && stopped == 0; i++) {
            if (act(p) < 0) {
                stopped = 1;
            } else {
                acts++;
                p += 1 + Text.digitsBehind(text.at(p));
            }
        }
        text.clear();
        if (acts > 0) {
            past.push(before);
        }
        told.tell(stopped, now.ages());
        return acts;
    }

    public int undo() {
        if (past.acts() == 0) {
            return NONE;
        }
        past.popInto(now);
        return past.acts();
    }

    /** An act that answers below 0 was not done, so it is not kept. */
    private int done(int answer) {
        if (answer >= 0) {
            past.push(before);
        }
        return answer;
    }

    /** Does the ACT whose letter stands at p: what its call answers. */
    private int act(int p) {
        int one = text.digit(p + 1);
        switch (text.at(p)) {
            case 'n':
                return age(one);
            case 'm':
                return goTo(now, one, text.digit(p + 2));
            case 's':
                return trade(one, text.digit(p + 2));
            case 'd':
                return sin(one);
            case 'y':
                return doubt(now, one, text.number(p + 2, 2));
            default:
                return NONE;
        }
    }

    private int age(int n) {
        for (int day = 0; day < n; day++) {
            sun.dayBy(standing, now);
        }
        return now.ages();
    }

    private int goTo(Folk folk, int one, int spot) {
        if (!has(one) || !land.has(spot)) {
            return NONE;
        }
        int was = folk.spot(one);
        if (was == spot) {
            return NOT_SO;
        }
        folk.setSpot(one, spot);
        return 10 + was;
    }

    private int trade(int one, int other) {
        if (!has(one) || !has(other) || one == other) {
            return NONE;
        }
        int mine = now.spot(one);
        int his = now.spot(other);
        if (mine == his) {
            return NOT_SO;
        }
        now.setSpot(one, his);
        now.setSpot(other, mine);
        return Math.abs(mine - his);
    }

    private int sin(int one) {
        if (!has(one)) {
            return NONE;
        }
        if (sun.hoursOf(now, one) > 0) {
            return NOT_SO;
        }
        now.addSin(one);
        return now.sins(one);
    }

    private int doubt(Folk folk, int one, int n) {
        if (!has(one) || n < 1 || n > MOST_DOUBT) {
            return NONE;
        }
        int age = folk.age(one);
        if (age == 0) {
            return NOT_SO;
        }
        folk.setAge(one, Math.max(0, age - n));
        return folk.age(one);
    }

    // ---- how old

    public int later(int one, int n) {
        if (!has(one) || n < 0 || n > LATEST) {
            return NONE;
        }
        lookAhead(n);
        told.tell(sun.hoursOf(then, one), then.ages());
        return then.age(one);
    }

    public int when(int one, int v) {
        if (!has(one) || v < 0 || v > OLDEST) {
            return NONE;
        }
        then.copyFrom(now);
        for (int day = 0; day <= LATEST; day++) {
            if (then.age(one) >= v) {
                told.tell(then.age(one));
                return day;
            }
            sun.dayFor(then, one);
        }
        return NOT_SO;
    }

    public int even(int one, int other) {
        if (!has(one) || !has(other) || one == other) {
            return NONE;
        }
        then.copyFrom(now);
        int first = NOT_SO;
        int age = 0;
        int many = 0;
        for (int day = 0; day <= LATEST; day++) {
            if (then.age(one) == then.age(other)) {
                if (many == 0) {
                    first = day;
                    age = then.age(one);
                }
                many++;
            }
            sun.dayForTwo(then, one, other);
        }
        if (many > 0) {
            told.tell(age, many);
        }
        return first;
    }

    public int passes() {
        int eldest = now.eldest();
        if (eldest == NONE) {
            return NOT_SO;
        }
        then.copyFrom(now);
        for (int day = 1; day <= LATEST; day++) {
            sun.dayBy(standing, then);
            if (then.eldest() != eldest) {
                told.tell(then.eldest(), eldest);
                return day;
            }
        }
        return NOT_SO;
    }

    public int order() {
        told.clear();
        int taken = 0;
        for (int i = 0; i < now.size(); i++) {
            int eldest = now.eldestBut(taken);
            taken |= 1 << eldest;
            told.add(eldest);
        }
        return now.size();
    }

    public int summer(int one, int n) {
        if (!has(one) || n < 1 || n > LONGEST_SUMMER) {
            return NONE;
        }
        tallyHours(one, SEASON);
        int sum = 0;
        int most = -1;
        int first = 0;
        for (int day = 0; day < SEASON; day++) {
            sum += at(tally, day) - at(tally, day - n);
            if (day >= n - 1 && sum > most) {
                most = sum;
                first = day - n + 1;
            }
        }
        told.tell(first);
        return most;
    }

    public int nights(int one, int n) {
        if (!has(one) || n < 1 || n > LATEST) {
            return NONE;
        }
        tallyHours(one, n);
        int many = 0;
        int run = 0;
        int longest = 0;
        int first = 0;
        for (int day = 0; day < n; day++) {
            boolean dark = at(tally, day) == 0;
            run = dark ? run + 1 : 0;
            many += dark ? 1 : 0;
            if (run > longest) {
                longest = run;
                first = day - run + 1;
            }
        }
        told.tell(longest, first);
        return many;
    }

    public int apart(int n) {
        if (n < 0 || n > LATEST) {
            return NONE;
        }
        if (now.size() < 2) {
            return NOT_SO;
        }
        lookAhead(n);
        int most = -1;
        int first = 0;
        int second = 0;
        for (int one = 0; one < then.size(); one++) {
            for (int other = one + 1; other < then.size(); other++) {
                int differ = Math.abs(then.age(one) - then.age(other));
                if (differ > most) {
                    most = differ;
                    first = one;
                    second = other;
                }
            }
        }
        told.tell(first, second);
        return most;
    }

    public int sunniest() {
        then.copyFrom(now);
        int best = 0;
        int most = -1;
        for (int day = 0; day < SEASON; day++) {
            int had = sun.dayBy(standing, then);
            if (had > most) {
                most = had;
                best = day;
            }
        }
        told.tell(most);
        return best;
    }

    private void lookAhead(int n) {
        then.copyFrom(now);
        for (int day = 0; day < n; day++) {
            sun.dayBy(standing, then);
        }
    }

    /** HOURS of one on each of the next n DAYS. */
    private void tallyHours(int one, int n) {
        then.copyFrom(now);
        for (int day = 0; day < n; day++) {
            put(tally, day, sun.dayFor(then, one));
        }
    }

    // ---- where to be

    public int comes(int one, int v) {
        if (!has(one) || v < 0 || v > OLDEST) {
            return NONE;
        }
        then.copyFrom(now);
        for (int n = 0; n <= Walk.LONGEST; n++) {
            if (walk.comesTo(one, v, n)) {
                walk.tellPath(told);
                return n;
            }
        }
        return NOT_SO;
    }

    public int ways(int one, int g, int n) {
        if (!has(one) || g < 0 || g > MOST_HOURS * Walk.LONGEST || n < 0 || n > Walk.LONGEST) {
            return NONE;
        }
        then.copyFrom(now);
        int many = walk.waysTo(one, g, n);
        told.clear();
        if (many > 0) {
            walk.tellLeast(told);
        }
        return many;
    }

    public int hides(int one, int n) {
        if (!has(one) || n < 1 || n > LONGEST_STAY) {
            return NONE;
        }
        int best = 0;
        int least = OLDEST + 1;
        int most = 0;
        for (int spot = 0; spot < land.size(); spot++) {
            then.copyFrom(now);
            then.setSpot(one, spot);
            for (int day = 0; day < n; day++) {
                sun.dayFor(then, one);
            }
            int age = then.age(one);
            most = Math.max(most, age);
            if (age < least) {
                least = age;
                best = spot;
            }
        }
        told.tell(least, most);
        return best;
    }

    public int meets(int one, int other, int n) {
        if (!has(one) || !has(other) || one == other || n < 1 || n > LONGEST_STAY) {
            return NONE;
        }
        int best = 0;
        int least = OLDEST + 1;
        for (int spot = 0; spot < land.size(); spot++) {
            then.copyFrom(now);
            then.setSpot(one, spot);
            for (int day = 0; day < n; day++) {
                sun.dayForTwo(then, one, other);
            }
            int differ = Math.abs(then.age(one) - then.age(other));
            if (differ < least) {
                least = differ;
                best = spot;
            }
        }
        told.tell(least);
        return best;
    }

    // ---- rooms

    public int rooms() {
        return house.fill(now, true, told);
    }

    public int cellars() {
        return house.fill(now, false, told);
    }

    public int brightest(int one) {
        if (!has(one)) {
            return NONE;
        }
        int most = -1;
        int bits = 0;
        for (int spot = 0; spot < land.size(); spot++) {
            int hours = sun.hoursAt(now, one, spot);
            if (hours > most) {
                most = hours;
                bits = 0;
            }
            bits |= hours == most ? 1 << spot : 0;
        }
        told.tell(most);
        return bits;
    }

    // ---- which sky it was

    public int saw(int one, int h) {
        if (!has(one) || h < 0 || h > MOST_HOURS || !seen.add(one, h)) {
            return NONE;
        }
        return seen.size();
    }

    public int denies() {
        return seen.clear();
    }

    public int guess() {
        int bits = likelySkies();
        int today = 1 << land.skyOn(now.day());
        told.tell(Integer.bitCount(bits), (bits & today) != 0 ? 1 : 0);
        return bits;
    }

    public int looks() {
        int bits = likelySkies();
        if (bits == 0 || now.size() == 0) {
            return NOT_SO;
        }
        int best = 0;
        int least = MOST_HOURS + 2;
        for (int one = 0; one < now.size(); one++) {
            int left = mostLeft(one, bits);
            if (left < least) {
                least = left;
                best = one;
            }
        }
        told.tell(least);
        return best;
    }

    private int likelySkies() {
        int bits = 0;
        for (int sky = 0; sky <= 9; sky++) {
            boolean could = true;
            for (int i = 0; i < seen.size() && could; i++) {
                could = sun.hoursUnder(now, seen.first(i), sky) == seen.second(i);
            }
            bits |= could ? 1 << sky : 0;
        }
        return bits;
    }

    /** How many of the SKIES are left at most, however many HOURS one had. */
    private int mostLeft(int one, int bits) {
        for (int hours = 0; hours <= MOST_HOURS; hours++) {
            put(tally, hours, 0);
        }
        int most = 0;
        for (int sky = 0; sky <= 9; sky++) {
            if ((bits & 1 << sky) != 0) {
                int hours = sun.hoursUnder(now, one, sky);
                put(tally, hours, at(tally, hours) + 1);
                most = Math.max(most, at(tally, hours));
            }
        }
        return most;
    }

    // ---- who it was

    public int heard(int what, int v) {
        if (v < 0 || v > mostHeard(what) || !rumours.add(what, v)) {
            return NONE;
        }
        return rumours.size();
    }

    public int forget() {
        return rumours.clear();
    }

    public int fits() {
        int bits = likelyOnes();
        told.tell(Integer.bitCount(bits));
        return bits;
    }

    public int asks() {
        int bits = likelyOnes();
        if (bits == 0) {
            return NOT_SO;
        }
        int many = Integer.bitCount(bits);
        int best = 0;
        int least = many + 1;
        for (int what = 1; what <= 4; what++) {
            for (int v = 0; what != 2 && v <= mostHeard(what); v++) {
                int yes = howManySuit(bits, what, v);
                int left = Math.max(yes, many - yes);
                if (left < least) {
                    least = left;
                    best = 10 * what + v;
                }
            }
        }
        told.tell(least);
        return best;
    }

    /** The greatest number that may be heard of what; -1 if there is no such what. */
    private static int mostHeard(int what) {
        switch (what) {
            case 0:
                return OLDEST;
            case 1:
                return MOST_PLACES - 1;
            case 2:
                return MOST_DEEDS;
            case 3:
                return MOST_HOURS;
            case 4:
                return 1;
            default:
                return -1;
        }
    }

    private int likelyOnes() {
        int bits = 0;
        for (int one = 0; one < now.size(); one++) {
            boolean could = true;
            for (int i = 0; i < rumours.size() && could; i++) {
                could = suits(one, rumours.first(i), rumours.second(i));
            }
            bits |= could ? 1 << one : 0;
        }
        return bits;
    }

    private int howManySuit(int bits, int what, int v) {
        int many = 0;
        for (int one = 0; one < now.size(); one++) {
            if ((bits & 1 << one) != 0 && suits(one, what, v)) {
                many++;
            }
        }
        return many;
    }

    private boolean suits(int one, int what, int v) {
        switch (what) {
            case 0:
                return now.age(one) >= v;
            case 1:
                return now.spot(one) == v;
            case 2:
                return now.sins(one) >= v;
            case 3:
                return sun.hoursOf(now, one) >= v;
            case 4:
                return (now.othersAt(now.spot(one), one) == 0) == (v == 1);
            default:
                return false;
        }
    }

    // ---- chances, a parasol

    public int chance(int one, int n, int p, int g) {
        if (!has(one) || n < 0 || n > Chance.MOST_DAYS || p < 0 || p > 10) {
            return NONE;
        }
        if (g < 0 || g > MOST_HOURS * Chance.MOST_DAYS) {
            return NONE;
        }
        then.copyFrom(now);
        luck.tell(one, n, p, g, told);
        return 0;
    }

    /**
     * By Fibonacci's numbers: each n is a sum of them, the greatest that goes taken off first. The
     * girl wins just by such that leave the other one unable to take the least of the rest, and the
     * least such number is the least of the sum; if n is one of them itself, she can't take all.
     */
    public int parasol(int n) {
        if (n < 0 || n > 60) {
            return NONE;
        }
        int rest = n;
        int least = n;
        for (int i = 0; i < 60 && rest > 0; i++) {
            least = greatestFibonacci(rest);
            rest -= least;
        }
        return least == n ? 0 : least;
    }

    private static int greatestFibonacci(int n) {
        int low = 1;
        int high = 2;
        for (int i = 0; i < 60 && high <= n; i++) {
            int sum = low + high;
            low = high;
            high = sum;
        }
        return low;
    }

    // ---- rests, rules, years

    public int rests(int v) {
        if (v < 0 || v > 20) {
            return NONE;
        }
        int many = 0;
        told.clear();
        for (int x = 0; x < WAITS; x++) {
            for (int y = 0; y < WAITS; y++) {
                if (isBest(v, x, y) && isBest(v, y, x)) {
                    if (many == 0) {
                        told.tell(x, y);
                    }
                    many++;
                }
            }
        }
        return many;
    }

    /** What he has who waits mine, while the other one waits his. */
    private static int gain(int v, int mine, int his) {
        if (mine < his) {
            return -mine;
        }
        return mine > his ? v - his : v / 3 - mine;
    }

    private static boolean isBest(int v, int mine, int his) {
        int has = gain(v, mine, his);
        for (int another = 0; another < WAITS; another++) {
            if (gain(v, another, his) > has) {
                return false;
            }
        }
        return true;
    }

    public int law() {
        int bad = proposed.read();
        text.clear();
        if (bad != FINE) {
            return LAW_ERROR - bad;
        }
        int usual = hoursUnderLaw(standing);
        int other = hoursUnderLaw(proposed);
        told.tell(other, usual);
        for (int one = 0; one < then.size(); one++) {
            told.add(then.age(one));
        }
        return other - usual;
    }

    private int hoursUnderLaw(Rule rule) {
        then.copyFrom(now);
        int hours = 0;
        for (int day = 0; day < LAW_DAYS; day++) {
            hours += sun.dayBy(rule, then);
        }
        return hours;
    }

    public int years(int seed, int n) {
        if (n < 1 || n > 60) {
            return NONE;
        }
        then.copyFrom(now);
        lot = seed;
        int hours = 0;
        for (int i = 0; i < n; i++) {
            int tells = draw(4);
            if (tells < 2) {
                hours += sun.dayBy(standing, then);
            } else if (then.size() > 0) {
                int one = draw(then.size());
                if (tells == 2) {
                    goTo(then, one, draw(land.size()));
                } else {
                    doubt(then, one, draw(9) + 1);
                }
            }
        }
        told.tell(hours, then.day() % 100);
        return then.ages();
    }

    private int draw(int n) {
        lot = lot * 1103515245 + 12345;
        return n > 0 ? (lot >>> 16) % n : 0;
    }

    // ---- kept

    public boolean keep(int i) {
        return past.shelve(i, now);
    }

    public boolean again(int i) {
        if (!past.unshelveInto(i, now)) {
            return false;
        }
        past.forgetActs();
        return true;
    }

    public int count(int what) {
        switch (what) {
            case 0:
                return land.size();
            case 1:
                return now.size();
            case 2:
                return now.day();
            case 3:
                return land.skyOn(now.day());
            case 4:
                return now.ages();
            case 5:
                return land.lights();
            case 6:
                return now.sinsTogether();
            case 7:
                return sun.hoursOfAll(now);
            case 8:
                return seen.size();
            case 9:
                return rumours.size();
            case 10:
                return past.acts();
            case 11:
                return told.size();
            case 12:
                return text.length();
            default:
                return NONE;
        }
    }

    public long row(int i) throws NoSuchElementException {
        if (i < 0 || i >= told.size()) {
            throw new NoSuchElementException();
        }
        return told.number(i);
    }

    private boolean has(int one) {
        return one >= 0 && one < now.size();
    }

    // ---- rows that never fail: beyond an end there is 0, and nothing is put

    private static int at(int[] numbers, int i) {
        return i >= 0 && i < numbers.length ? numbers[i] : 0;
    }

    private static void put(int[] numbers, int i, int v) {
        if (i >= 0 && i < numbers.length) {
            numbers[i] = v;
        }
    }

    private static int within(int v, int low, int high) {
        return v < low ? low : v > high ? high : v;
    }

    /** THE TEXT, and where a sign can't stand in it. */
    private static final class Text {
        static final int MOST = 80;
        static final int MOST_ACTS = 60;

        private final int[] signs = new int[MOST];
        private int length;

        int length() {
            return length;
        }

        /** The sign at p, -1 behind the end. */
        int at(int p) {
            return p >= 0 && p < length && p < signs.length ? signs[p] : -1;
        }

        int digit(int p) {
            return isDigit(at(p)) ? at(p) - '0' : 0;
        }

        /** The number that some digits from p on tell. */
        int number(int p, int digits) {
            int v = 0;
            for (int i = 0; i < digits; i++) {
                v = 10 * v + digit(p + i);
            }
            return v;
        }

        static boolean isDigit(int sign) {
            return sign >= '0' && sign <= '9';
        }

        boolean addFour(int v) {
            if (length > MOST - 4) {
                return false;
            }
            for (int shift = 24; shift >= 0; shift -= 8) {
                put(signs, length, v >>> shift & 255);
                length++;
            }
            return true;
        }

        boolean cut(int n) {
            if (n < 0 || n > length) {
                return false;
            }
            length = n;
            return true;
        }

        void clear() {
            length = 0;
        }

        int lines() {
            int many = length > 0 ? 1 : 0;
            for (int p = 0; p < length; p++) {
                many += at(p) == ';' ? 1 : 0;
            }
            return many;
        }

        /**
         * The first sign that can't stand where LINES of some digits are told, of which there may
         * be some at most and some are there; the last digit of each is below a bound.
         */
        int badLine(int digits, int most, int there, int bound) {
            int longest = most * (digits + 1) - 1;
            int line = there;
            int column = 0;
            for (int p = 0; p < length; p++) {
                if (p >= longest || column == 0 && line >= most) {
                    return p;
                }
                if (column == digits) {
                    if (at(p) != ';') {
                        return p;
                    }
                    column = 0;
                    line++;
                } else {
                    column++;
                    if (!isDigit(at(p)) || column == digits && digit(p) >= bound) {
                        return p;
                    }
                }
            }
            return length == 0 || column == digits ? FINE : length;
        }

        /** The first sign that can't stand where 1 to most digits are told. */
        int badDigit(int most) {
            for (int p = 0; p < length; p++) {
                if (p >= most || !isDigit(at(p))) {
                    return p;
                }
            }
            return length == 0 ? 0 : FINE;
        }

        /** The first sign that can't stand where A LIFE is told. */
        int badAct() {
            int due = 0;
            for (int p = 0; p < length; p++) {
                if (p >= MOST_ACTS) {
                    return p;
                }
                if (due > 0) {
                    if (!isDigit(at(p))) {
                        return p;
                    }
                    due--;
                } else {
                    due = digitsBehind(at(p));
                    if (due == 0) {
                        return p;
                    }
                }
            }
            return due == 0 ? FINE : length;
        }

        /** How many digits stand behind the letter of an ACT; 0 if it is none. */
        static int digitsBehind(int sign) {
            switch (sign) {
                case 'n':
                case 'd':
                    return 1;
                case 'm':
                case 's':
                    return 2;
                case 'y':
                    return 3;
                default:
                    return 0;
            }
        }
    }

    /** The ROW. */
    private static final class Row {
        private final long[] numbers = new long[16];
        private int size;

        int size() {
            return size;
        }

        long number(int i) {
            return i >= 0 && i < numbers.length ? numbers[i] : 0;
        }

        void clear() {
            size = 0;
        }

        void add(long v) {
            if (size >= 0 && size < numbers.length) {
                numbers[size] = v;
                size++;
            }
        }

        void tell(long only) {
            clear();
            add(only);
        }

        void tell(long first, long second) {
            clear();
            add(first);
            add(second);
        }
    }

    /** PLACES with their LIGHTS, and SKIES. */
    private static final class Land {
        static final int MOST_SKIES = 20;

        private final int[] lights = new int[MOST_PLACES];
        private final int[] skies = new int[MOST_SKIES];
        private int size;
        private int turns;

        Land() {
            put(skies, 0, 9);
            turns = 1;
        }

        int size() {
            return size;
        }

        boolean has(int spot) {
            return spot >= 0 && spot < size;
        }

        int light(int spot) {
            return SunnyOnes.at(lights, spot);
        }

        int lights() {
            int sum = 0;
            for (int spot = 0; spot < size; spot++) {
                sum += light(spot);
            }
            return sum;
        }

        void add(int light) {
            if (size < MOST_PLACES) {
                put(lights, size, light);
                size++;
            }
        }

        /** Gives LIGHTS as a sheet of a kind tells them; PLACES behind its n entries have 0. */
        void lightAll(int kind, int n, int first, int step) {
            int entry = first;
            for (int spot = 0; spot < size; spot++) {
                int told = kind == 0 ? (byte) entry : kind == 1 ? (short) entry : entry;
                put(lights, spot, spot < n ? within(told, 0, 9) : 0);
                entry += step;
            }
        }

        void takeSkies(Text text) {
            turns = text.length();
            for (int i = 0; i < turns; i++) {
                put(skies, i, text.digit(i));
            }
        }

        int skyOn(int day) {
            return turns > 0 ? SunnyOnes.at(skies, day % turns) : 0;
        }
    }

    /**
     * A RULE, as it is reckoned: things first, then what is done with them. Numbers stand for
     * themselves, -1 - j for letter j of swakpin, lesser ones for what is done.
     */
    private static final class Rule {
        static final int LETTERS = 7;

        private static final int LONGEST = 40;
        private static final int DEEPEST = 4;
        private static final int LONGEST_NUMBER = 3;
        private static final int LESS = -11;
        private static final int MORE = -12;
        private static final int SAME = -13;
        private static final int PLUS = -14;
        private static final int MINUS = -15;
        private static final int TIMES = -16;
        private static final int BY = -17;
        private static final int NEGATE = -18;

        private final Text text;
        private final int[] code = new int[LONGEST];
        private final int[] stack = new int[LONGEST];
        private int size;
        private int next;

        Rule(Text text) {
            this.text = text;
            beUsual();
        }

        void copyFrom(Rule other) {
            size = other.size;
            for (int i = 0; i < size; i++) {
                put(code, i, SunnyOnes.at(other.code, i));
            }
        }

        /** Takes THE TEXT for a RULE: the first sign that can't stand there. */
        int read() {
            size = 0;
            next = 0;
            if (text.length() == 0) {
                beUsual();
                return FINE;
            }
            return comparison(0) && next == text.length() ? FINE : next;
        }

        /** Where no RULE is told, it is s*w/9. */
        private void beUsual() {
            size = 0;
            emit(-1);
            emit(-2);
            emit(TIMES);
            emit(9);
            emit(BY);
        }

        private int look() {
            return next < LONGEST ? text.at(next) : -1;
        }

        private void emit(int what) {
            if (size >= 0 && size < code.length) {
                code[size] = what;
                size++;
            }
        }

        private boolean comparison(int depth) {
            if (!sum(depth)) {
                return false;
            }
            int sign = look();
            if (sign != '<' && sign != '>' && sign != '=') {
                return true;
            }
            next++;
            if (!sum(depth)) {
                return false;
            }
            emit(sign == '<' ? LESS : sign == '>' ? MORE : SAME);
            return true;
        }

        private boolean sum(int depth) {
            boolean good = product(depth);
            for (int i = 0; i < LONGEST && good; i++) {
                int sign = look();
                if (sign != '+' && sign != '-') {
                    return true;
                }
                next++;
                good = product(depth);
                emit(sign == '+' ? PLUS : MINUS);
            }
            return good;
        }

        private boolean product(int depth) {
            boolean good = thing(depth);
            for (int i = 0; i < LONGEST && good; i++) {
                int sign = look();
                if (sign != '*' && sign != '/') {
                    return true;
                }
                next++;
                good = thing(depth);
                emit(sign == '*' ? TIMES : BY);
            }
            return good;
        }

        private boolean thing(int depth) {
            boolean negated = false;
            for (int i = 0; i < LONGEST && look() == '-'; i++) {
                negated = !negated;
                next++;
            }
            boolean good = Text.isDigit(look()) ? number() : look() == '(' ? group(depth) : letter();
            if (negated) {
                emit(NEGATE);
            }
            return good;
        }

        private boolean number() {
            int v = 0;
            for (int i = 0; i < LONGEST_NUMBER && Text.isDigit(look()); i++) {
                v = 10 * v + look() - '0';
                next++;
            }
            emit(v);
            return true;
        }

        private boolean group(int depth) {
            if (depth >= DEEPEST) {
                return false;
            }
            next++;
            if (!comparison(depth + 1) || look() != ')') {
                return false;
            }
            next++;
            return true;
        }

        private boolean letter() {
            int j = letterOf(look());
            if (j < 0) {
                return false;
            }
            next++;
            emit(-1 - j);
            return true;
        }

        private static int letterOf(int sign) {
            switch (sign) {
                case 's':
                    return 0;
                case 'w':
                    return 1;
                case 'a':
                    return 2;
                case 'k':
                    return 3;
                case 'p':
                    return 4;
                case 'i':
                    return 5;
                case 'n':
                    return 6;
                default:
                    return -1;
            }
        }

        int value(int[] letters) {
            int top = 0;
            for (int i = 0; i < size; i++) {
                int what = SunnyOnes.at(code, i);
                if (what >= 0) {
                    put(stack, top, what);
                    top++;
                } else if (what >= -LETTERS) {
                    put(stack, top, SunnyOnes.at(letters, -1 - what));
                    top++;
                } else if (what == NEGATE) {
                    put(stack, top - 1, -SunnyOnes.at(stack, top - 1));
                } else {
                    top--;
                    int left = SunnyOnes.at(stack, top - 1);
                    put(stack, top - 1, reckon(what, left, SunnyOnes.at(stack, top)));
                }
            }
            return SunnyOnes.at(stack, 0);
        }

        private static int reckon(int what, int left, int right) {
            switch (what) {
                case LESS:
                    return left < right ? 1 : 0;
                case MORE:
                    return left > right ? 1 : 0;
                case SAME:
                    return left == right ? 1 : 0;
                case PLUS:
                    return left + right;
                case MINUS:
                    return left - right;
                case TIMES:
                    return left * right;
                case BY:
                    return right != 0 ? left / right : 0;
                default:
                    return 0;
            }
        }
    }

    /** PEOPLE and DAY: what undo() brings back. */
    private static final class Folk {
        private final int[] ages = new int[MOST_PEOPLE];
        private final int[] spots = new int[MOST_PEOPLE];
        private final int[] sins = new int[MOST_PEOPLE];
        private int size;
        private int day;

        void copyFrom(Folk other) {
            size = other.size;
            day = other.day;
            for (int one = 0; one < size; one++) {
                put(ages, one, at(other.ages, one));
                put(spots, one, at(other.spots, one));
                put(sins, one, at(other.sins, one));
            }
        }

        void add(int age, int spot) {
            if (size < MOST_PEOPLE) {
                put(ages, size, age);
                put(spots, size, spot);
                put(sins, size, 0);
                size++;
            }
        }

        int size() {
            return size;
        }

        int day() {
            return day;
        }

        void setDay(int v) {
            day = v;
        }

        int age(int one) {
            return at(ages, one);
        }

        void setAge(int one, int age) {
            put(ages, one, age);
        }

        void grow(int one, int hours) {
            put(ages, one, Math.min(OLDEST, at(ages, one) + hours));
        }

        int spot(int one) {
            return at(spots, one);
        }

        void setSpot(int one, int spot) {
            put(spots, one, spot);
        }

        int sins(int one) {
            return at(sins, one);
        }

        void addSin(int one) {
            put(sins, one, Math.min(MOST_DEEDS, at(sins, one) + 1));
        }

        int ages() {
            int sum = 0;
            for (int one = 0; one < size; one++) {
                sum += at(ages, one);
            }
            return sum;
        }

        int sinsTogether() {
            int sum = 0;
            for (int one = 0; one < size; one++) {
                sum += at(sins, one);
            }
            return sum;
        }

        int bitsAt(int spot) {
            int bits = 0;
            for (int one = 0; one < size; one++) {
                bits |= at(spots, one) == spot ? 1 << one : 0;
            }
            return bits;
        }

        int agesAt(int spot) {
            int sum = 0;
            for (int one = 0; one < size; one++) {
                sum += at(spots, one) == spot ? at(ages, one) : 0;
            }
            return sum;
        }

        int othersAt(int spot, int one) {
            int many = 0;
            for (int other = 0; other < size; other++) {
                many += other != one && at(spots, other) == spot ? 1 : 0;
            }
            return many;
        }

        int eldest() {
            return eldestBut(0);
        }

        /** The eldest of those who are not in bits, of like ones the first; NONE without. */
        int eldestBut(int bits) {
            int eldest = NONE;
            for (int one = 0; one < size; one++) {
                if ((bits & 1 << one) == 0 && (eldest < 0 || age(one) > age(eldest))) {
                    eldest = one;
                }
            }
            return eldest;
        }
    }

    /** HOURS, and how a DAY goes by. */
    private static final class Sun {
        private final Land land;
        private final Rule rule;
        private final int[] letters = new int[Rule.LETTERS];

        Sun(Land land, Rule rule) {
            this.land = land;
            this.rule = rule;
        }

        /** HOURS of one by a RULE, at a PLACE with so many others, under a SKY. */
        private int hoursBy(Rule by, Folk folk, int one, int spot, int others, int sky) {
            put(letters, 0, land.light(spot));
            put(letters, 1, sky);
            put(letters, 2, folk.age(one) % 10);
            put(letters, 3, others);
            put(letters, 4, spot);
            put(letters, 5, one);
            put(letters, 6, folk.day() % 7);
            return within(by.value(letters), 0, MOST_HOURS);
        }

        int hoursOf(Folk folk, int one) {
            int spot = folk.spot(one);
            int others = folk.othersAt(spot, one);
            return hoursBy(rule, folk, one, spot, others, land.skyOn(folk.day()));
        }

        int hoursAt(Folk folk, int one, int spot) {
            int others = folk.othersAt(spot, one);
            return hoursBy(rule, folk, one, spot, others, land.skyOn(folk.day()));
        }

        int hoursAlone(Folk folk, int one, int spot) {
            return hoursBy(rule, folk, one, spot, 0, land.skyOn(folk.day()));
        }

        int hoursUnder(Folk folk, int one, int sky) {
            int spot = folk.spot(one);
            return hoursBy(rule, folk, one, spot, folk.othersAt(spot, one), sky);
        }

        int hoursOfAll(Folk folk) {
            int sum = 0;
            for (int one = 0; one < folk.size(); one++) {
                sum += hoursOf(folk, one);
            }
            return sum;
        }

        /** A DAY goes by for all: HOURS of all. */
        int dayBy(Rule by, Folk folk) {
            int sky = land.skyOn(folk.day());
            int sum = 0;
            for (int one = 0; one < folk.size(); one++) {
                int spot = folk.spot(one);
                int hours = hoursBy(by, folk, one, spot, folk.othersAt(spot, one), sky);
                folk.grow(one, hours);
                sum += hours;
            }
            folk.setDay(folk.day() + 1);
            return sum;
        }

        /** A DAY goes by of which one alone is of interest (nobody's AGE tells on others). */
        int dayFor(Folk folk, int one) {
            int hours = hoursOf(folk, one);
            folk.grow(one, hours);
            folk.setDay(folk.day() + 1);
            return hours;
        }

        void dayForTwo(Folk folk, int one, int other) {
            folk.grow(one, hoursOf(folk, one));
            folk.grow(other, hoursOf(folk, other));
            folk.setDay(folk.day() + 1);
        }
    }

    /** What undo() and again() bring back. */
    private static final class Past {
        private static final int MOST_ACTS = 12;
        private static final int SHELVES = 2;

        private final Folk[] ring = new Folk[MOST_ACTS];
        private final Folk[] shelves = new Folk[SHELVES];
        private final boolean[] full = new boolean[SHELVES];
        private int next;
        private int acts;

        Past() {
            for (int i = 0; i < ring.length; i++) {
                ring[i] = new Folk();
            }
            for (int i = 0; i < shelves.length; i++) {
                shelves[i] = new Folk();
            }
        }

        private static Folk pick(Folk[] from, int i) {
            return i >= 0 && i < from.length ? from[i] : null;
        }

        int acts() {
            return acts;
        }

        void push(Folk before) {
            Folk slot = pick(ring, next);
            if (slot != null) {
                slot.copyFrom(before);
            }
            next = next + 1 < MOST_ACTS ? next + 1 : 0;
            acts = Math.min(MOST_ACTS, acts + 1);
        }

        void popInto(Folk folk) {
            next = next > 0 ? next - 1 : MOST_ACTS - 1;
            acts = Math.max(0, acts - 1);
            Folk slot = pick(ring, next);
            if (slot != null) {
                folk.copyFrom(slot);
            }
        }

        void forgetActs() {
            acts = 0;
        }

        void forgetShelves() {
            for (int i = 0; i < full.length; i++) {
                full[i] = false;
            }
        }

        boolean shelve(int i, Folk folk) {
            Folk slot = pick(shelves, i);
            if (slot == null || i < 0 || i >= full.length) {
                return false;
            }
            slot.copyFrom(folk);
            full[i] = true;
            return true;
        }

        boolean unshelveInto(int i, Folk folk) {
            Folk slot = pick(shelves, i);
            if (slot == null || i < 0 || i >= full.length || !full[i]) {
                return false;
            }
            folk.copyFrom(slot);
            return true;
        }
    }

    /** Pairs of numbers that were seen or heard, some at most. */
    private static final class Clues {
        private final int most;
        private final int[] firsts = new int[MOST_HEARD];
        private final int[] seconds = new int[MOST_HEARD];
        private int size;

        Clues(int most) {
            this.most = Math.min(most, MOST_HEARD);
        }

        int size() {
            return size;
        }

        int first(int i) {
            return at(firsts, i);
        }

        int second(int i) {
            return at(seconds, i);
        }

        boolean add(int first, int second) {
            if (size >= most) {
                return false;
            }
            put(firsts, size, first);
            put(seconds, size, second);
            size++;
            return true;
        }

        int clear() {
            int were = size;
            size = 0;
            return were;
        }
    }

    /** Where one can be on the next few DAYS, each DAY at any PLACE. */
    private static final class Walk {
        static final int LONGEST = 4;

        private final Land land;
        private final Sun sun;
        private final Folk folk;
        private final int[] path = new int[LONGEST];
        private final int[] least = new int[LONGEST];
        private int one;
        private int goal;
        private int length;
        private int found;

        Walk(Land land, Sun sun, Folk folk) {
            this.land = land;
            this.sun = sun;
            this.folk = folk;
        }

        private void start(int who, int what, int n) {
            one = who;
            goal = what;
            length = Math.min(n, LONGEST);
            found = 0;
        }

        /** Whether one can be of an AGE in n DAYS; then the path is the least such row. */
        boolean comesTo(int who, int age, int n) {
            start(who, age, n);
            return reaches(0);
        }

        private boolean reaches(int step) {
            int age = folk.age(one);
            if (leadsNowhere(goal - age, length - step)) {
                return false;
            }
            if (step >= length) {
                return true;
            }
            for (int spot = 0; spot < land.size(); spot++) {
                stay(step, spot);
                boolean good = reaches(step + 1);
                back(age);
                if (good) {
                    return true;
                }
            }
            return false;
        }

        /** A DAY has 0 .. 9 HOURS, so most ways are seen to miss long before their end. */
        private static boolean leadsNowhere(int missing, int left) {
            return missing < 0 || missing > MOST_HOURS * left;
        }

        /** In how many ways one has so many HOURS on n DAYS. */
        int waysTo(int who, int hours, int n) {
            start(who, hours, n);
            gather(0, 0);
            return found;
        }

        private void gather(int step, int had) {
            if (leadsNowhere(goal - had, length - step)) {
                return;
            }
            if (step >= length) {
                keepFirst();
                found++;
                return;
            }
            int age = folk.age(one);
            for (int spot = 0; spot < land.size(); spot++) {
                int hours = stay(step, spot);
                gather(step + 1, had + hours);
                back(age);
            }
        }

        /** PLACES are tried from 0 on, so the first row found is the least. */
        private void keepFirst() {
            for (int i = 0; i < length && found == 0; i++) {
                put(least, i, at(path, i));
            }
        }

        private int stay(int step, int spot) {
            put(path, step, spot);
            int hours = sun.hoursAt(folk, one, spot);
            folk.grow(one, hours);
            folk.setDay(folk.day() + 1);
            return hours;
        }

        private void back(int age) {
            folk.setAge(one, age);
            folk.setDay(folk.day() - 1);
        }

        void tellPath(Row row) {
            row.clear();
            for (int i = 0; i < length; i++) {
                row.add(at(path, i));
            }
        }

        void tellLeast(Row row) {
            row.clear();
            for (int i = 0; i < length; i++) {
                row.add(at(least, i));
            }
        }
    }

    /** PEOPLE, each at a PLACE of his own. */
    private static final class Rooms {
        private final Land land;
        private final Sun sun;
        private final int[] hours = new int[MOST_PEOPLE * MOST_PLACES];
        private final int[] given = new int[MOST_PEOPLE];
        private final int[] best = new int[MOST_PEOPLE];
        private int guests;
        private int bestSum;
        private boolean most;
        private boolean any;

        Rooms(Land land, Sun sun) {
            this.land = land;
            this.sun = sun;
        }

        /** The most or the least HOURS of all so; the row is told. */
        int fill(Folk folk, boolean forMost, Row row) {
            guests = folk.size();
            if (guests == 0 || guests > land.size()) {
                return NOT_SO;
            }
            for (int one = 0; one < guests; one++) {
                for (int spot = 0; spot < land.size(); spot++) {
                    put(hours, one * MOST_PLACES + spot, sun.hoursAlone(folk, one, spot));
                }
            }
            most = forMost;
            any = false;
            give(0, 0, 0);
            row.clear();
            for (int one = 0; one < guests; one++) {
                row.add(at(best, one));
            }
            return bestSum;
        }

        private void give(int one, int taken, int sum) {
            if (one >= guests) {
                compare(sum);
                return;
            }
            for (int spot = 0; spot < land.size(); spot++) {
                if ((taken & 1 << spot) == 0) {
                    put(given, one, spot);
                    give(one + 1, taken | 1 << spot, sum + at(hours, one * MOST_PLACES + spot));
                }
            }
        }

        private void compare(int sum) {
            if (any && (most ? sum <= bestSum : sum >= bestSum)) {
                return;
            }
            any = true;
            bestSum = sum;
            for (int one = 0; one < guests; one++) {
                put(best, one, at(given, one));
            }
        }
    }

    /** How likely one has so many HOURS, if SKY is 9 or 0 by chance. */
    private static final class Chance {
        static final int MOST_DAYS = 8;

        private final Sun sun;
        private final Folk folk;
        private int one;
        private int tenths;
        private int goal;

        Chance(Sun sun, Folk folk) {
            this.sun = sun;
            this.folk = folk;
        }

        void tell(int who, int n, int p, int g, Row row) {
            one = who;
            tenths = p;
            goal = g;
            long upper = cases(n, 0);
            long lower = tens(n);
            long common = commonDivisor(upper, lower);
            if (common > 0) {
                row.tell(upper / common, lower / common);
            }
        }

        /** Of 10 by 10 by .. cases on the DAYS left, how many bring the HOURS. */
        private long cases(int left, int had) {
            if (had >= goal) {
                return tens(left);
            }
            if (left <= 0) {
                return 0;
            }
            long bright = tenths > 0 ? tenths * casesUnder(9, left, had) : 0;
            long dark = tenths < 10 ? (10 - tenths) * casesUnder(0, left, had) : 0;
            return bright + dark;
        }

        private long casesUnder(int sky, int left, int had) {
            int age = folk.age(one);
            int day = folk.day();
            int hours = sun.hoursUnder(folk, one, sky);
            folk.grow(one, hours);
            folk.setDay(day + 1);
            long many = cases(left - 1, had + hours);
            folk.setAge(one, age);
            folk.setDay(day);
            return many;
        }

        private static long tens(int n) {
            long product = 1;
            for (int i = 0; i < n; i++) {
                product *= 10;
            }
            return product;
        }

        private static long commonDivisor(long upper, long lower) {
            long a = lower;
            long b = upper;
            for (int i = 0; i < 100 && b != 0; i++) {
                long rest = a % b;
                a = b;
                b = rest;
            }
            return a;
        }
    }
}
