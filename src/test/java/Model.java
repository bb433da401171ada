import java.math.BigInteger;
import java.util.ArrayList;
import java.util.HashSet;
import java.util.List;
import java.util.Map;
import java.util.Set;
import java.util.TreeMap;
import java.util.TreeSet;
import java.util.regex.Matcher;
import java.util.regex.Pattern;

/**
 * The document's words once more, slow and with the Java library, to compare the class with.
 * It shares no code with the class and goes other ways where it can (sets, texts, fractions).
 */
final class Model {
    private static final int UNKNOWN = -1, OUTSIDE = -2, STATE = -3, FULL = -4, NO = -5, NONE = -6;
    private static final long GONE = -1000000000000000000L;
    private static final Pattern PART = Pattern.compile("[0-9]|![0-9]|-[1-9]|\\.|~[A-F]");
    private static final Pattern WHOLE = Pattern.compile("(?:" + PART + ")*");
    private static final Pattern BEGUN = Pattern.compile(WHOLE + "[!~-]?");

    /** One who is there. */
    record Someone(int place, int slow, int party, boolean hole) {
        Someone at(int there) {
            return new Someone(there, slow, party, hole);
        }

        Someone slowed(int by) {
            return new Someone(place, by, party, hole);
        }

        Someone broken() {
            return new Someone(place, slow, party, true);
        }
    }

    record Sight(int how, int of) { }

    record Fraction(BigInteger upper, BigInteger lower) {
        static Fraction of(long upper, long lower) {
            BigInteger a = BigInteger.valueOf(upper);
            BigInteger b = BigInteger.valueOf(lower);
            BigInteger divisor = a.gcd(b);
            return new Fraction(a.divide(divisor), b.divide(divisor));
        }

        Fraction plus(Fraction other) {
            return of(upper.multiply(other.lower).add(other.upper.multiply(lower)).longValueExact(),
                lower.multiply(other.lower).longValueExact());
        }

        int compare(Fraction other) {
            return upper.multiply(other.lower).compareTo(other.upper.multiply(lower));
        }

        long part(int part) {
            return part == 0 ? upper.longValueExact() : lower.longValueExact();
        }
    }

    /** What an image keeps. */
    private record Kept(TreeMap<Integer, Someone> people, TreeSet<Integer> tables, int[] weights, int spread, int shade,
                        List<Sight> sights) { }

    private TreeMap<Integer, Someone> people = new TreeMap<>();
    private TreeSet<Integer> tables = new TreeSet<>();
    private int[] weights = {1, 1, 1, 1, 1, 1, 1, 1, 1, 1};
    private int spread = 2;
    private int shade = 5;
    private List<Sight> sights = new ArrayList<>();
    private String pad = "";
    private final Kept[] images = new Kept[2];

    private static boolean in(long v, long least, long most) {
        return least <= v && v <= most;
    }

    private static int bits(Set<Integer> set) {
        int bits = 0;
        for (int i : set) {
            bits += 1 << i;
        }
        return bits;
    }

    // ---- the first umbrellas

    private Integer time(Someone one, int rain) {
        if (one.hole) {
            return null;
        }
        int between = Math.max(one.place, rain) - Math.min(one.place, rain);
        return between * spread + one.slow + (tables.contains(one.place) ? shade : 0);
    }

    private Set<Integer> rulers(Map<Integer, Someone> those, int rain) {
        TreeMap<Integer, Set<Integer>> byTime = new TreeMap<>();
        those.forEach((name, one) -> {
            Integer time = time(one, rain);
            if (time != null) {
                byTime.computeIfAbsent(time, key -> new TreeSet<>()).add(name);
            }
        });
        return byTime.isEmpty() ? Set.of() : byTime.firstEntry().getValue();
    }

    private Set<Integer> sprinkled(Map<Integer, Someone> those, int place) {
        TreeMap<Integer, Someone> wet = new TreeMap<>(those);
        wet.values().removeIf(one -> one.place != place);
        return rulers(wet, place);
    }

    // ---- the calls, in the document's order

    long stand(int person, int place, int slow, int party, boolean hole) {
        if (!in(person, 0, 5) || !in(place, 0, 9)) {
            return UNKNOWN;
        }
        if (!in(slow, 0, 9) || !in(party, 0, 1)) {
            return OUTSIDE;
        }
        people.put(person, new Someone(place, slow, party, hole));
        return people.size();
    }

    long leave(int person) {
        return people.remove(person) == null ? UNKNOWN : people.size();
    }

    long table(int place, boolean table) {
        if (!in(place, 0, 9)) {
            return UNKNOWN;
        }
        if (table) {
            tables.add(place);
        } else {
            tables.remove(place);
        }
        return 1;
    }

    long set(int which, int v) {
        if (!in(which, 0, 1) || !in(v, 1 - which, 9)) {
            return OUTSIDE;
        }
        int was = which == 0 ? spread : shade;
        if (which == 0) {
            spread = v;
        } else {
            shade = v;
        }
        return was;
    }

    long say(int sign) {
        if (!in(sign, 33, 126)) {
            return OUTSIDE;
        }
        if (pad.length() >= 40) {
            return FULL;
        }
        pad += (char) sign;
        return pad.length();
    }

    long wipe() {
        int were = pad.length();
        pad = "";
        return were;
    }

    long fault() {
        for (int i = 0; i < pad.length(); i++) {
            if (!BEGUN.matcher(pad.substring(0, i + 1)).matches()) {
                return i;
            }
        }
        return WHOLE.matcher(pad).matches() ? NONE : pad.length();
    }

    long rules(int place, int what) {
        if (!in(place, 0, 9)) {
            return UNKNOWN;
        }
        if (!in(what, 0, 1)) {
            return OUTSIDE;
        }
        Set<Integer> who = rulers(people, place);
        if (who.isEmpty()) {
            return NONE;
        }
        return what == 0 ? bits(who) : time(people.get(who.iterator().next()), place);
    }

    long opens(int person, int place) {
        Someone one = people.get(person);
        if (one == null || !in(place, 0, 9)) {
            return UNKNOWN;
        }
        Integer time = time(one, place);
        return time == null ? NONE : time;
    }

    long never() {
        Set<Integer> idle = new HashSet<>(people.keySet());
        for (int rain = 0; rain < 10; rain++) {
            idle.removeAll(rulers(people, rain));
        }
        return bits(idle);
    }

    /** Who rules behind each part, and a year at a time in a list of its own. */
    private static final class Told {
        final List<Set<Integer>> behind = new ArrayList<>();
        final List<Set<Integer>> years = new ArrayList<>();
        final Map<Integer, Integer> parties = new TreeMap<>();
        int reigns = 0;

        Told() {
            behind.add(Set.of());
        }

        Set<Integer> now() {
            return behind.get(behind.size() - 1);
        }

        void next(Set<Integer> who) {
            if (!who.isEmpty() && !who.equals(now())) {
                reigns++;
            }
            behind.add(new TreeSet<>(who));
        }

        void opened(Set<Integer> who) {
            next(who.isEmpty() ? now() : who);
        }

        long count(int of) {
            long n = 0;
            for (Set<Integer> year : years) {
                boolean counts = of < 6 ? year.contains(of) : of == 8 ? year.isEmpty()
                    : year.stream().anyMatch(person -> parties.get(person) == of - 6);
                n += counts ? 1 : 0;
            }
            return n;
        }
    }

    private Told tell() {
        Told told = new Told();
        TreeMap<Integer, Someone> those = new TreeMap<>(people);
        those.forEach((name, one) -> told.parties.put(name, one.party));
        Matcher parts = PART.matcher(pad);
        while (parts.find()) {
            String part = parts.group();
            char last = part.charAt(part.length() - 1);
            if (part.equals(".")) {
                told.next(told.now());
                told.years.add(told.now());
            } else if (part.startsWith("-")) {
                told.next(Set.of());
                for (int i = 0; i < last - '0'; i++) {
                    told.years.add(Set.of());
                }
            } else if (part.startsWith("~")) {
                those.computeIfPresent(last - 'A', (name, one) -> one.broken());
                Set<Integer> left = new TreeSet<>(told.now());
                left.remove(last - 'A');
                told.next(left);
            } else if (part.startsWith("!")) {
                told.opened(sprinkled(those, last - '0'));
            } else {
                told.opened(rulers(those, last - '0'));
            }
        }
        return told;
    }

    long reign(int parts) {
        if (fault() != NONE) {
            return NO;
        }
        Told told = tell();
        int all = told.behind.size() - 1;
        if (!in(parts, -1, all)) {
            return OUTSIDE;
        }
        Set<Integer> who = told.behind.get(parts == -1 ? all : parts);
        return who.isEmpty() ? NONE : bits(who);
    }

    long years(int of) {
        if (fault() != NONE) {
            return NO;
        }
        if (!in(of, 0, 9)) {
            return OUTSIDE;
        }
        Told told = tell();
        return of == 9 ? told.reigns : told.count(of);
    }

    long weight(int place, int v) {
        if (!in(place, 0, 9)) {
            return UNKNOWN;
        }
        int[] then = weights.clone();
        then[place] = v;
        if (!in(v, 0, 9) || total(then) == 0) {
            return OUTSIDE;
        }
        int was = weights[place];
        weights = then;
        return was;
    }

    private static int total(int[] weights) {
        int total = 0;
        for (int weight : weights) {
            total += weight;
        }
        return total;
    }

    private Fraction chanceOf(Map<Integer, Someone> those, Set<Integer> whose) {
        Fraction chance = Fraction.of(0, 1);
        for (int rain = 0; rain < 10; rain++) {
            Set<Integer> who = rulers(those, rain);
            Set<Integer> ours = new HashSet<>(who);
            ours.retainAll(whose);
            if (!ours.isEmpty()) {
                chance = chance.plus(Fraction.of((long) weights[rain] * ours.size(), (long) total(weights) * who.size()));
            }
        }
        return chance;
    }

    private Fraction chanceWith(int person, Someone other) {
        TreeMap<Integer, Someone> those = new TreeMap<>(people);
        those.put(person, other);
        return chanceOf(those, Set.of(person));
    }

    long chance(int of, int part) {
        if (!in(of, 6, 7) && !people.containsKey(of)) {
            return GONE + UNKNOWN;
        }
        if (!in(part, 0, 1)) {
            return GONE + OUTSIDE;
        }
        Set<Integer> whose = new HashSet<>();
        people.forEach((name, one) -> {
            if (name == of || one.party == of - 6) {
                whose.add(name);
            }
        });
        return chanceOf(people, whose).part(part);
    }

    long best(int person) {
        Someone one = people.get(person);
        if (one == null) {
            return UNKNOWN;
        }
        int best = 9;
        for (int place = 8; place >= 0; place--) {
            if (chanceWith(person, one.at(place)).compare(chanceWith(person, one.at(best))) >= 0) {
                best = place;
            }
        }
        return best;
    }

    long bestChance(int person, int part) {
        Someone one = people.get(person);
        if (one == null) {
            return GONE + UNKNOWN;
        }
        if (!in(part, 0, 1)) {
            return GONE + OUTSIDE;
        }
        return chanceWith(person, one.at((int) best(person))).part(part);
    }

    long rests(int i) {
        if (people.size() > 3) {
            return FULL;
        }
        List<Integer> rows = restingRows();
        return i == -1 ? rows.size() : in(i, 0, rows.size() - 1) ? rows.get(i) : NONE;
    }

    private List<Integer> restingRows() {
        List<Integer> names = new ArrayList<>(people.keySet());
        int all = (int) Math.pow(10, names.size());
        Map<Integer, List<Fraction>> chances = new TreeMap<>();
        for (int row = 0; row < all; row++) {
            TreeMap<Integer, Someone> those = new TreeMap<>();
            for (int k = 0; k < names.size(); k++) {
                those.put(names.get(k), people.get(names.get(k)).at(digit(row, k, names.size())));
            }
            List<Fraction> of = new ArrayList<>();
            names.forEach(name -> of.add(chanceOf(those, Set.of(name))));
            chances.put(row, of);
        }
        List<Integer> rows = new ArrayList<>();
        for (int row = 0; row < all; row++) {
            if (rests(row, names.size(), chances)) {
                rows.add(row);
            }
        }
        return rows;
    }

    private static int digit(int row, int k, int n) {
        return String.format("%03d", row).charAt(3 - n + k) - '0';
    }

    private static boolean rests(int row, int n, Map<Integer, List<Fraction>> chances) {
        for (int k = 0; k < n; k++) {
            for (int place = 0; place < 10; place++) {
                StringBuilder other = new StringBuilder(String.format("%03d", row));
                other.setCharAt(3 - n + k, (char) ('0' + place));
                int there = Integer.parseInt(other.toString());
                if (chances.get(there).get(k).compare(chances.get(row).get(k)) > 0) {
                    return false;
                }
            }
        }
        return true;
    }

    long coup(int person) {
        if (!people.containsKey(person)) {
            return UNKNOWN;
        }
        for (int place = 0; place < 10; place++) {
            if (sprinkled(people, place).equals(Set.of(person))) {
                return place;
            }
        }
        return NONE;
    }

    long quick(int person, int a, int b) {
        Someone one = people.get(person);
        if (one == null) {
            return UNKNOWN;
        }
        if (!in(b, 1, 100) || !in(a, 0, b)) {
            return OUTSIDE;
        }
        long quick = NONE;
        for (int slow = 0; slow < 10; slow++) {
            if (chanceWith(person, one.slowed(slow)).compare(Fraction.of(a, b)) >= 0) {
                quick = slow;
            }
        }
        return quick;
    }

    long seen(int how, int of) {
        if ((how == 1 || how == 2) && !in(of, 0, 5)) {
            return UNKNOWN;
        }
        if (!in(how, 0, 2) || how == 0 && !in(of, 0, 63)) {
            return OUTSIDE;
        }
        if (sights.size() == 6) {
            return FULL;
        }
        sights.add(new Sight(how, of));
        return sights.size();
    }

    long forget() {
        int were = sights.size();
        sights.clear();
        return were;
    }

    long fits() {
        Set<Integer> places = new TreeSet<>();
        for (int rain = 0; rain < 10; rain++) {
            Set<Integer> who = rulers(people, rain);
            boolean fits = sights.stream().allMatch(sight -> switch (sight.how) {
                case 0 -> bits(who) == sight.of;
                case 1 -> who.contains(sight.of);
                default -> !who.contains(sight.of);
            });
            if (fits) {
                places.add(rain);
            }
        }
        return bits(places);
    }

    long year(int seed, int n, int of) {
        if (!in(seed, 0, 9999) || !in(n, 1, 99) || !in(of, 0, 7)) {
            return OUTSIDE;
        }
        Told told = new Told();
        BigInteger x = BigInteger.valueOf(seed);
        for (int i = 0; i < n; i++) {
            x = x.multiply(BigInteger.valueOf(75)).add(BigInteger.valueOf(74)).mod(BigInteger.valueOf(65537));
            told.opened(rulers(people, x.mod(BigInteger.TEN).intValueExact()));
        }
        if (of == 7) {
            return told.reigns;
        }
        return told.behind.stream().skip(1).filter(who -> of == 6 ? who.isEmpty() : who.contains(of)).count();
    }

    private static Kept copy(Kept kept) {
        return new Kept(new TreeMap<>(kept.people), new TreeSet<>(kept.tables), kept.weights.clone(), kept.spread,
            kept.shade, new ArrayList<>(kept.sights));
    }

    long image(int n) {
        if (!in(n, 0, 1)) {
            return OUTSIDE;
        }
        images[n] = copy(new Kept(people, tables, weights, spread, shade, sights));
        return 1;
    }

    long restore(int n) {
        if (!in(n, 0, 1)) {
            return OUTSIDE;
        }
        if (images[n] == null) {
            return STATE;
        }
        Kept kept = copy(images[n]);
        people = kept.people;
        tables = kept.tables;
        weights = kept.weights;
        spread = kept.spread;
        shade = kept.shade;
        sights = kept.sights;
        return 1;
    }

    long told(int what) {
        Map<Integer, Integer> all = new TreeMap<>();
        all.put(0, pad.length());
        all.put(1, bits(people.keySet()));
        all.put(2, spread);
        all.put(3, shade);
        all.put(4, bits(tables));
        all.put(5, sights.size());
        for (int place = 0; place < 10; place++) {
            all.put(10 + place, weights[place]);
        }
        people.forEach((name, one) -> {
            all.put(20 + 10 * name, one.place);
            all.put(21 + 10 * name, one.slow);
            all.put(22 + 10 * name, one.party);
            all.put(23 + 10 * name, one.hole ? 1 : 0);
        });
        return all.getOrDefault(what, OUTSIDE);
    }
}
