import java.util.Arrays;

/**
 * The umbrella vote: a city ruled by whoever's umbrella is opened first when it rains.
 * What each call answers stands, promise by promise, in the project's document.
 */
public final class UmbrellaVote {
    public static final int UNKNOWN = -1, OUTSIDE = -2, STATE = -3, FULL = -4, NO = -5, NONE = -6;
    public static final long GONE = -1000000000000000000L;

    private static final int PEOPLE = 6, PLACES = 10, SIGNS = 40, SIGHTS = 6, IMAGES = 2;
    private static final int SLOWEST = 9, HEAVIEST = 9, LAST_SET = 63;
    private static final int SILK = 6, COTTON = 7, NOBODY = 8, REIGNS = 9;

    // Every number of people up to six divides 60, so that each one's part of a regency is whole.
    private static final int SHARES = 60;

    // Later than any umbrella: 9 places by 9 seconds, a shade of 9 and a slow of 9 make 99.
    private static final int TOO_LATE = 1000;

    private final City city;
    private final City trial;
    private final City[] images;
    private final Pad pad;
    private final History history;
    private final Resting resting;

    public UmbrellaVote() {
        city = new City();
        trial = new City();
        images = new City[IMAGES];
        pad = new Pad();
        history = new History();
        resting = new Resting();
    }

    // ---- 1 streets, chronicles

    public int stand(int person, int place, int slow, int party, boolean hole) {
        if (!within(person, 0, PEOPLE - 1) || !isPlace(place)) {
            return UNKNOWN;
        }
        if (!within(slow, 0, SLOWEST) || !within(party, 0, 1)) {
            return OUTSIDE;
        }
        city.put(person, place, slow);
        city.there = withBit(city.there, person, true);
        city.cotton = withBit(city.cotton, person, party == 1);
        city.holes = withBit(city.holes, person, hole);
        return Integer.bitCount(city.there);
    }

    public int leave(int person) {
        if (!city.isThere(person)) {
            return UNKNOWN;
        }
        city.there = withBit(city.there, person, false);
        return Integer.bitCount(city.there);
    }

    public int table(int place, boolean table) {
        if (!isPlace(place)) {
            return UNKNOWN;
        }
        city.tables = withBit(city.tables, place, table);
        return 1;
    }

    public int set(int which, int v) {
        if (which == 0 && within(v, 1, 9)) {
            int was = city.spread;
            city.spread = v;
            return was;
        }
        if (which == 1 && within(v, 0, 9)) {
            int was = city.shade;
            city.shade = v;
            return was;
        }
        return OUTSIDE;
    }

    public int say(int sign) {
        if (!within(sign, 33, 126)) {
            return OUTSIDE;
        }
        return pad.write(sign) ? pad.count : FULL;
    }

    public int wipe() {
        int were = pad.count;
        pad.count = 0;
        return were;
    }

    public int fault() {
        return pad.firstFault();
    }

    // ---- 2 who rules

    public int rules(int place, int what) {
        if (!isPlace(place)) {
            return UNKNOWN;
        }
        if (!within(what, 0, 1)) {
            return OUTSIDE;
        }
        int rulers = city.rulers(place);
        if (rulers == 0) {
            return NONE;
        }
        return what == 0 ? rulers : city.openTime(firstPerson(rulers), place);
    }

    public int opens(int person, int place) {
        if (!city.isThere(person) || !isPlace(place)) {
            return UNKNOWN;
        }
        return hasBit(city.holes, person) ? NONE : city.openTime(person, place);
    }

    public int never() {
        int idle = city.there;
        for (int rain = 0; rain < PLACES; rain++) {
            idle &= ~city.rulers(rain);
        }
        return idle;
    }

    public int reign(int parts) {
        if (pad.firstFault() != NONE) {
            return NO;
        }
        int all = pad.parts();
        if (!within(parts, -1, all)) {
            return OUTSIDE;
        }
        history.play(city, pad, parts == -1 ? all : parts);
        return history.ruling == 0 ? NONE : history.ruling;
    }

    public int years(int of) {
        if (pad.firstFault() != NONE) {
            return NO;
        }
        if (!within(of, 0, REIGNS)) {
            return OUTSIDE;
        }
        history.play(city, pad, pad.parts());
        return of == REIGNS ? history.reigns : history.yearsOf(of);
    }

    // ---- 3 chances

    public int weight(int place, int v) {
        if (!isPlace(place)) {
            return UNKNOWN;
        }
        int was = city.weights[place];
        if (!within(v, 0, HEAVIEST) || city.allWeights() - was + v < 1) {
            return OUTSIDE;
        }
        city.weights[place] = v;
        return was;
    }

    public long chance(int of, int part) {
        if (of != SILK && of != COTTON && !city.isThere(of)) {
            return GONE + UNKNOWN;
        }
        if (!within(part, 0, 1)) {
            return GONE + OUTSIDE;
        }
        int whose = of == SILK ? ~city.cotton : of == COTTON ? city.cotton : 1 << of;
        return fraction(city.shareOf(whose), city.allShares(), part);
    }

    public int best(int person) {
        if (!city.isThere(person)) {
            return UNKNOWN;
        }
        return bestPlace(person);
    }

    public long bestChance(int person, int part) {
        if (!city.isThere(person)) {
            return GONE + UNKNOWN;
        }
        if (!within(part, 0, 1)) {
            return GONE + OUTSIDE;
        }
        int share = trialShare(person, bestPlace(person), city.slows[person]);
        return fraction(share, city.allShares(), part);
    }

    public int rests(int i) {
        if (Integer.bitCount(city.there) > Resting.SLOTS) {
            return FULL;
        }
        resting.weigh(city);
        return i == -1 ? resting.howMany() : resting.row(i);
    }

    public int coup(int person) {
        if (!city.isThere(person)) {
            return UNKNOWN;
        }
        // A sprinkler elsewhere does not wet the person: only its own place comes into question.
        int place = city.places[person];
        return city.sprinkled(place) == 1 << person ? place : NONE;
    }

    public int quick(int person, int a, int b) {
        if (!city.isThere(person)) {
            return UNKNOWN;
        }
        if (!within(b, 1, 100) || !within(a, 0, b)) {
            return OUTSIDE;
        }
        int asked = a * city.allShares();
        for (int slow = SLOWEST; slow >= 0; slow--) {
            if (trialShare(person, city.places[person], slow) * b >= asked) {
                return slow;
            }
        }
        return NONE;
    }

    private int bestPlace(int person) {
        int best = 0;
        int most = -1;
        for (int place = 0; place < PLACES; place++) {
            int share = trialShare(person, place, city.slows[person]);
            if (share > most) {
                most = share;
                best = place;
            }
        }
        return best;
    }

    private int trialShare(int person, int place, int slow) {
        trial.copyFrom(city);
        trial.put(person, place, slow);
        return trial.shareOf(1 << person);
    }

    // ---- 4 sights, years

    public int seen(int how, int of) {
        if (within(how, 1, 2) && !within(of, 0, PEOPLE - 1)) {
            return UNKNOWN;
        }
        if (!within(how, 0, 2) || how == 0 && !within(of, 0, LAST_SET)) {
            return OUTSIDE;
        }
        return city.addSight(how, of) ? city.sights : FULL;
    }

    public int forget() {
        int were = city.sights;
        city.sights = 0;
        return were;
    }

    public int fits() {
        int places = 0;
        for (int rain = 0; rain < PLACES; rain++) {
            places = withBit(places, rain, city.fitsSights(city.rulers(rain)));
        }
        return places;
    }

    public int year(int seed, int n, int of) {
        if (!within(seed, 0, 9999) || !within(n, 1, 99) || !within(of, 0, 7)) {
            return OUTSIDE;
        }
        history.begin(city);
        int x = seed;
        for (int i = 0; i < n; i++) {
            x = (75 * x + 74) % 65537;
            history.rain(x % PLACES);
            // Each rain counts for who rules behind it, as a year of a chronicle does.
            history.pass(1);
        }
        if (of == 7) {
            return history.reigns;
        }
        return history.yearsOf(of == 6 ? NOBODY : of);
    }

    public int image(int n) {
        if (!within(n, 0, IMAGES - 1)) {
            return OUTSIDE;
        }
        City kept = images[n];
        if (kept == null) {
            kept = new City();
            images[n] = kept;
        }
        kept.copyFrom(city);
        return 1;
    }

    public int restore(int n) {
        if (!within(n, 0, IMAGES - 1)) {
            return OUTSIDE;
        }
        City kept = images[n];
        if (kept == null) {
            return STATE;
        }
        city.copyFrom(kept);
        return 1;
    }

    public int told(int what) {
        switch (what) {
            case 0:
                return pad.count;
            case 1:
                return city.there;
            case 2:
                return city.spread;
            case 3:
                return city.shade;
            case 4:
                return city.tables;
            case 5:
                return city.sights;
            default:
                break;
        }
        if (within(what, 10, 19)) {
            return city.weights[what - 10];
        }
        return what < 20 ? OUTSIDE : toldOfPerson((what - 20) / 10, (what - 20) % 10);
    }

    private int toldOfPerson(int person, int what) {
        if (!city.isThere(person)) {
            return OUTSIDE;
        }
        switch (what) {
            case 0:
                return city.places[person];
            case 1:
                return city.slows[person];
            case 2:
                return hasBit(city.cotton, person) ? 1 : 0;
            case 3:
                return hasBit(city.holes, person) ? 1 : 0;
            default:
                return OUTSIDE;
        }
    }

    // ---- numbers and bits

    private static boolean within(int v, int least, int most) {
        return v >= least && v <= most;
    }

    private static boolean isPlace(int place) {
        return within(place, 0, PLACES - 1);
    }

    private static boolean hasBit(int bits, int bit) {
        return (bits >> bit & 1) == 1;
    }

    private static int withBit(int bits, int bit, boolean on) {
        return on ? bits | 1 << bit : bits & ~(1 << bit);
    }

    private static int firstPerson(int bits) {
        for (int person = 0; person < PEOPLE; person++) {
            if (hasBit(bits, person)) {
                return person;
            }
        }
        return NONE;
    }

    private static long fraction(int upper, int lower, int part) {
        int divisor = commonDivisor(upper, lower);
        if (divisor < 1) {
            return 0;
        }
        return (part == 0 ? upper : lower) / divisor;
    }

    private static int commonDivisor(int a, int b) {
        int divisor = a;
        int rest = b;
        for (int i = 0; i < 1000 && rest != 0; i++) {
            int next = divisor % rest;
            divisor = rest;
            rest = next;
        }
        return divisor;
    }

    /** All that an image keeps: the street, who stands there, weights and sights. */
    private static final class City {
        int spread = 2, shade = 5;
        int there, holes, cotton, tables, sights;
        final int[] places = new int[PEOPLE];
        final int[] slows = new int[PEOPLE];
        final int[] weights = new int[PLACES];
        final int[] sightHows = new int[SIGHTS];
        final int[] sightOfs = new int[SIGHTS];

        City() {
            Arrays.fill(weights, 1);
        }

        void copyFrom(City other) {
            spread = other.spread;
            shade = other.shade;
            there = other.there;
            holes = other.holes;
            cotton = other.cotton;
            tables = other.tables;
            sights = other.sights;
            System.arraycopy(other.places, 0, places, 0, PEOPLE);
            System.arraycopy(other.slows, 0, slows, 0, PEOPLE);
            System.arraycopy(other.weights, 0, weights, 0, PLACES);
            System.arraycopy(other.sightHows, 0, sightHows, 0, SIGHTS);
            System.arraycopy(other.sightOfs, 0, sightOfs, 0, SIGHTS);
        }

        boolean isThere(int person) {
            return within(person, 0, PEOPLE - 1) && hasBit(there, person);
        }

        void put(int person, int place, int slow) {
            if (within(person, 0, PEOPLE - 1)) {
                places[person] = place;
                slows[person] = slow;
            }
        }

        /** Who can open at all, as bits. */
        int umbrellas() {
            return there & ~holes;
        }

        int openTime(int person, int rain) {
            return within(person, 0, PEOPLE - 1) ? openTimeAt(places[person], slows[person], rain) : NONE;
        }

        int openTimeAt(int place, int slow, int rain) {
            int shaded = hasBit(tables, place) ? shade : 0;
            return Math.abs(place - rain) * spread + shaded + slow;
        }

        /** Who of some, all of them with good umbrellas, opens first, as bits. */
        int firstOf(int some, int rain) {
            int first = 0;
            int least = TOO_LATE;
            for (int person = 0; person < PEOPLE; person++) {
                if (hasBit(some, person)) {
                    int time = openTimeAt(places[person], slows[person], rain);
                    first = time < least ? 1 << person : time == least ? first | 1 << person : first;
                    least = Math.min(least, time);
                }
            }
            return first;
        }

        int rulers(int rain) {
            return firstOf(umbrellas(), rain);
        }

        /** Who opens first by a sprinkler: rain that comes to its own place alone. */
        int sprinkled(int place) {
            int wet = umbrellas();
            for (int person = 0; person < PEOPLE; person++) {
                wet = places[person] == place ? wet : withBit(wet, person, false);
            }
            return firstOf(wet, place);
        }

        int allWeights() {
            int sum = 0;
            for (int place = 0; place < PLACES; place++) {
                sum += weights[place];
            }
            return sum;
        }

        int allShares() {
            return allWeights() * SHARES;
        }

        /** What falls to some people, as bits, of all shares. */
        int shareOf(int some) {
            int sum = 0;
            for (int rain = 0; rain < PLACES; rain++) {
                int rulers = firstOf(umbrellas(), rain);
                int n = Integer.bitCount(rulers);
                if (n > 0) {
                    sum += weights[rain] * (SHARES / n) * Integer.bitCount(rulers & some);
                }
            }
            return sum;
        }

        boolean addSight(int how, int of) {
            if (!within(sights, 0, SIGHTS - 1)) {
                return false;
            }
            sightHows[sights] = how;
            sightOfs[sights] = of;
            sights++;
            return true;
        }

        boolean fitsSights(int rulers) {
            for (int i = 0; i < sights && i < SIGHTS; i++) {
                int of = sightOfs[i];
                boolean fits = sightHows[i] == 0 ? rulers == of : hasBit(rulers, of) == (sightHows[i] == 1);
                if (!fits) {
                    return false;
                }
            }
            return true;
        }
    }

    /** The pad with the chronicle's signs, and how they make parts. */
    private static final class Pad {
        final int[] signs = new int[SIGNS];
        int count;

        boolean write(int sign) {
            if (!within(count, 0, SIGNS - 1)) {
                return false;
            }
            signs[count] = sign;
            count++;
            return true;
        }

        int sign(int i) {
            return within(i, 0, SIGNS - 1) ? signs[i] : 0;
        }

        static boolean takesAnother(int sign) {
            return sign == '!' || sign == '-' || sign == '~';
        }

        static boolean canBegin(int sign) {
            return within(sign, '0', '9') || sign == '.' || takesAnother(sign);
        }

        static boolean canFollow(int first, int sign) {
            switch (first) {
                case '!':
                    return within(sign, '0', '9');
                case '-':
                    return within(sign, '1', '9');
                default:
                    return within(sign, 'A', 'F');
            }
        }

        int firstFault() {
            int first = 0;
            for (int i = 0; i < count; i++) {
                int sign = sign(i);
                boolean stands = first == 0 ? canBegin(sign) : canFollow(first, sign);
                if (!stands) {
                    return i;
                }
                first = first == 0 && takesAnother(sign) ? sign : 0;
            }
            return first == 0 ? NONE : count;
        }

        int parts() {
            int parts = 0;
            for (int i = 0; i < count; i++) {
                // No part's second sign is one that takes another, so each such sign begins a part.
                if (!takesAnother(sign(i))) {
                    parts++;
                }
            }
            return parts;
        }
    }

    /** Who rules, from nobody on, while things happen. */
    private static final class History {
        // A copy, since winds that are only told break no umbrella in fact.
        final City city = new City();
        final int[] years = new int[NOBODY + 1];
        int ruling, reigns;

        void begin(City from) {
            city.copyFrom(from);
            ruling = 0;
            reigns = 0;
            Arrays.fill(years, 0);
        }

        /** Plays so many parts of a pad that has no fault. */
        void play(City from, Pad pad, int parts) {
            begin(from);
            int first = 0;
            int played = 0;
            for (int i = 0; i < pad.count && played < parts; i++) {
                int sign = pad.sign(i);
                if (Pad.takesAnother(sign)) {
                    first = sign;
                } else {
                    happen(first, sign);
                    first = 0;
                    played++;
                }
            }
        }

        void happen(int first, int sign) {
            if (first == '!') {
                opened(city.sprinkled(sign - '0'));
            } else if (first == '-') {
                become(0);
                pass(sign - '0');
            } else if (first == '~') {
                breakUmbrella(sign - 'A');
            } else if (sign == '.') {
                pass(1);
            } else {
                rain(sign - '0');
            }
        }

        void rain(int place) {
            opened(city.firstOf(city.umbrellas(), place));
        }

        void opened(int who) {
            if (who != 0) {
                become(who);
            }
        }

        void breakUmbrella(int person) {
            // Who is not there neither opens nor rules: its broken umbrella changes nothing.
            city.holes = withBit(city.holes, person, true);
            become(withBit(ruling, person, false));
        }

        void become(int who) {
            if (who != ruling && who != 0) {
                reigns++;
            }
            ruling = who;
        }

        void pass(int n) {
            for (int person = 0; person < PEOPLE; person++) {
                years[person] += hasBit(ruling, person) ? n : 0;
            }
            years[SILK] += (ruling & ~city.cotton) != 0 ? n : 0;
            years[COTTON] += (ruling & city.cotton) != 0 ? n : 0;
            years[NOBODY] += ruling == 0 ? n : 0;
        }

        int yearsOf(int of) {
            return within(of, 0, NOBODY) ? years[of] : 0;
        }
    }

    /**
     * Rows of places in which nobody would rather stand elsewhere. A row is a number of three
     * digits, a place for each slot; with fewer people the first slots are empty and stay at 0.
     */
    private static final class Resting {
        static final int SLOTS = 3, ROWS = 1000;

        int rows;
        final int[] weights = new int[PLACES];
        // By slot, place, rain: told once, since up to a thousand rows ask for them.
        final int[] times = new int[SLOTS * PLACES * PLACES];
        final int[] shares = new int[SLOTS * ROWS];
        // By slot and the two other slots' places: the greatest share to be had there.
        final int[] greatest = new int[SLOTS * PLACES * PLACES];

        void weigh(City city) {
            System.arraycopy(city.weights, 0, weights, 0, PLACES);
            Arrays.fill(greatest, 0);
            fillSlots(city);
            for (int row = 0; row < rows && row < ROWS; row++) {
                weighRow(row);
            }
        }

        void fillSlots(City city) {
            Arrays.fill(times, TOO_LATE);
            rows = 1;
            int slot = SLOTS - 1;
            for (int person = PEOPLE - 1; person >= 0 && slot >= 0; person--) {
                if (!city.isThere(person)) {
                    continue;
                }
                if (!hasBit(city.holes, person)) {
                    fillTimes(city, city.slows[person], slot);
                }
                slot--;
                rows *= PLACES;
            }
        }

        void fillTimes(City city, int slow, int slot) {
            for (int place = 0; place < PLACES; place++) {
                for (int rain = 0; rain < PLACES; rain++) {
                    times[pair(slot, place, rain)] = city.openTimeAt(place, slow, rain);
                }
            }
        }

        static int pair(int slot, int a, int b) {
            return (slot * PLACES + a) * PLACES + b;
        }

        void weighRow(int row) {
            int a = row / 100;
            int b = row / 10 % 10;
            int c = row % 10;
            int fromA = pair(0, a, 0);
            int fromB = pair(1, b, 0);
            int fromC = pair(2, c, 0);
            int shareA = 0;
            int shareB = 0;
            int shareC = 0;
            for (int rain = 0; rain < PLACES; rain++) {
                int timeA = times[fromA + rain];
                int timeB = times[fromB + rain];
                int timeC = times[fromC + rain];
                int least = Math.min(timeA, Math.min(timeB, timeC));
                int n = (timeA == least ? 1 : 0) + (timeB == least ? 1 : 0) + (timeC == least ? 1 : 0);
                if (least == TOO_LATE || n < 1) {
                    continue;
                }
                int share = weights[rain] * (SHARES / n);
                shareA += timeA == least ? share : 0;
                shareB += timeB == least ? share : 0;
                shareC += timeC == least ? share : 0;
            }
            keep(row, shareA, pair(0, b, c));
            keep(ROWS + row, shareB, pair(1, a, c));
            keep(2 * ROWS + row, shareC, pair(2, a, b));
        }

        void keep(int at, int share, int others) {
            shares[at] = share;
            greatest[others] = Math.max(greatest[others], share);
        }

        boolean isRest(int row) {
            int a = row / 100;
            int b = row / 10 % 10;
            int c = row % 10;
            return shares[row] == greatest[pair(0, b, c)]
                && shares[ROWS + row] == greatest[pair(1, a, c)]
                && shares[2 * ROWS + row] == greatest[pair(2, a, b)];
        }

        int howMany() {
            int n = 0;
            for (int row = 0; row < rows && row < ROWS; row++) {
                n += isRest(row) ? 1 : 0;
            }
            return n;
        }

        int row(int i) {
            int n = 0;
            for (int row = 0; row < rows && row < ROWS; row++) {
                if (isRest(row)) {
                    if (n == i) {
                        return row;
                    }
                    n++;
                }
            }
            return NONE;
        }
    }
}
