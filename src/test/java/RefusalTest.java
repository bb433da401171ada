import java.util.ArrayList;
import java.util.List;
import java.util.function.Supplier;
import java.util.function.ToLongFunction;

/**
 * "Calls that are refused answer, the first of these that fits: UNKNOWN, OUTSIDE, STATE, NO, FULL. They change
 * nothing." Every refused call is made in several states, and all that is told behind it is compared with what
 * another object tells that was made alike and was not asked. Calls that only ask are held to the same.
 */
public final class RefusalTest {
    private static final int UNKNOWN = -1, OUTSIDE = -2, STATE = -3, FULL = -4, NO = -5, NONE = -6;
    private static final long GONE = -1000000000000000000L;
    private static final int MOST = Integer.MAX_VALUE, LEAST = Integer.MIN_VALUE;

    // Far numbers are such, too, as a shift, a byte or a char would take for a small one.
    private static final int[] NO_PLACE = {LEAST, -65536, -32, -1, 10, 11, 32, 64, 256, 65536, MOST};
    private static final int[] NO_PERSON = {LEAST, -65536, -32, -1, 6, 7, 32, 64, 256, 65536, MOST};
    private static final int[] NOT_0_TO_1 = {LEAST, -65536, -1, 2, 3, 32, 256, 65536, MOST};
    private static final int[] NOT_0_TO_9 = {LEAST, -65536, -1, 10, 11, 32, 256, 65536, MOST};

    private record Call(String name, ToLongFunction<UmbrellaVote> made, long due) { }

    private final Checks checks = new Checks();
    private final List<Call> calls = new ArrayList<>();

    public static void main(String[] args) {
        RefusalTest test = new RefusalTest();
        test.inEveryState();
        test.whenNobodyIsThere();
        test.whenAllIsFull();
        test.whenThereIsAFault();
        test.whenNoImageIsKept();
        test.whenWeightsWouldAllBe0();
        test.whenMoreThanThreeAreThere();
        test.questionsChangeNothing();
        test.checks.end();
    }

    // ---- the states

    private static UmbrellaVote empty() {
        return new UmbrellaVote();
    }

    /** Some of all: A, C, E are there, the others not. */
    private static UmbrellaVote some() {
        UmbrellaVote x = Votes.of("A21s C71c E44ch", "0.!7~A-2.9");
        x.table(7, true);
        x.set(0, 3);
        x.set(1, 4);
        x.seen(1, 0);
        x.image(0);
        x.seen(2, 5);
        Votes.stand(x, "A52c E31s");
        x.weight(3, 8);
        return x;
    }

    /** Nothing more can be had: six people, 40 signs, 6 sights, both images, all weight on one place. */
    private static UmbrellaVote full() {
        UmbrellaVote x = Votes.of("A00s B10s C20c D30c E40sh F99c", "0.1.2.3.4.5.6.7.8.9.!0!1!2!3-1-9~A~B~C~F");
        for (int place = 0; place < 10; place++) {
            x.table(place, true);
        }
        x.image(0);
        for (int i = 0; i < 6; i++) {
            x.seen(2, i % 2 + 4);
        }
        Votes.weigh(x, "0000009000");
        x.image(1);
        x.weight(6, 4);
        return x;
    }

    /** As some(), with a sign that can not stand where it does. */
    private static UmbrellaVote faulty() {
        UmbrellaVote x = some();
        Votes.write(x, "-0");
        return x;
    }

    /** As some(), with a sign that must come. */
    private static UmbrellaVote unended() {
        UmbrellaVote x = some();
        Votes.write(x, "!");
        return x;
    }

    // ---- the calls

    private void refused(String name, ToLongFunction<UmbrellaVote> made, long due) {
        calls.add(new Call(name, made, due));
    }

    private void in(String state, Supplier<UmbrellaVote> maker) {
        String before = Votes.everything(maker.get());
        for (Call call : calls) {
            UmbrellaVote x = maker.get();
            checks.due(state + ": " + call.name, call.made.applyAsLong(x), call.due);
            checks.due(state + ": " + call.name + " changes nothing", Votes.everything(x).equals(before));
        }
    }

    private void inEveryState() {
        calls.clear();
        noPlace();
        noPerson();
        outsideOfTheStreet();
        outsideOfThePad();
        outsideOfChances();
        outsideOfSights();
        unknownAheadOfOutside();
        in("empty", RefusalTest::empty);
        in("some", RefusalTest::some);
        in("full", RefusalTest::full);
        in("faulty", RefusalTest::faulty);
        in("unended", RefusalTest::unended);
    }

    private void noPlace() {
        for (int place : NO_PLACE) {
            refused("stand at " + place, x -> x.stand(0, place, 0, 0, true), UNKNOWN);
            refused("table at " + place, x -> x.table(place, true), UNKNOWN);
            refused("no table at " + place, x -> x.table(place, false), UNKNOWN);
            refused("rules " + place, x -> x.rules(place, 0), UNKNOWN);
            refused("opens " + place, x -> x.opens(0, place), UNKNOWN);
            refused("weight " + place, x -> x.weight(place, 3), UNKNOWN);
        }
    }

    private void noPerson() {
        for (int person : NO_PERSON) {
            refused("stand " + person, x -> x.stand(person, 5, 0, 1, true), UNKNOWN);
            refused("leave " + person, x -> x.leave(person), UNKNOWN);
            refused("opens of " + person, x -> x.opens(person, 0), UNKNOWN);
            refused("best " + person, x -> x.best(person), UNKNOWN);
            refused("bestChance " + person, x -> x.bestChance(person, 0), GONE + UNKNOWN);
            refused("coup " + person, x -> x.coup(person), UNKNOWN);
            refused("quick " + person, x -> x.quick(person, 0, 1), UNKNOWN);
            refused("seen 1 of " + person, x -> x.seen(1, person), UNKNOWN);
            refused("seen 2 of " + person, x -> x.seen(2, person), UNKNOWN);
            int of = person == 6 || person == 7 ? person + 2 : person;
            refused("chance " + of, x -> x.chance(of, 0), GONE + UNKNOWN);
        }
    }

    private void outsideOfTheStreet() {
        for (int v : NOT_0_TO_9) {
            refused("stand slow " + v, x -> x.stand(0, 5, v, 1, true), OUTSIDE);
            refused("spread " + v, x -> x.set(0, v), OUTSIDE);
            refused("shade " + v, x -> x.set(1, v), OUTSIDE);
        }
        refused("spread 0", x -> x.set(0, 0), OUTSIDE);
        for (int v : NOT_0_TO_1) {
            refused("stand party " + v, x -> x.stand(0, 5, 0, v, true), OUTSIDE);
            refused("stand party " + v + " of who may not be there", x -> x.stand(1, 5, 0, v, true), OUTSIDE);
            refused("set " + v, x -> x.set(v, 7), OUTSIDE);
            refused("rules what " + v, x -> x.rules(0, v), OUTSIDE);
        }
    }

    private void outsideOfThePad() {
        for (int sign : new int[] {LEAST, -65536 + '.', -256 + '.', -1, 0, 31, 32, 127, 128, 256 + '.', 65536 + '.', MOST}) {
            refused("say " + sign, x -> x.say(sign), OUTSIDE);
        }
        for (int what : new int[] {LEAST, -65536, -1, 6, 7, 8, 9, 80, 81, 83, 93, 256, 65536, MOST}) {
            refused("told " + what, x -> x.told(what), OUTSIDE);
        }
        for (int what = 24; what < 80; what += what % 10 == 9 ? 5 : 1) {
            int told = what;
            refused("told " + what, x -> x.told(told), OUTSIDE);
        }
    }

    private void outsideOfChances() {
        for (int v : NOT_0_TO_9) {
            refused("weight to " + v, x -> x.weight(3, v), OUTSIDE);
        }
        for (int part : NOT_0_TO_1) {
            refused("chance of silk, part " + part, x -> x.chance(6, part), GONE + OUTSIDE);
            refused("chance of cotton, part " + part, x -> x.chance(7, part), GONE + OUTSIDE);
        }
    }

    private void outsideOfSights() {
        for (int how : new int[] {LEAST, -65536, -1, 3, 4, 256, 65536, MOST}) {
            refused("seen how " + how, x -> x.seen(how, 0), OUTSIDE);
        }
        for (int set : new int[] {LEAST, -65536, -64, -1, 64, 65, 128, 65536, MOST}) {
            refused("seen set " + set, x -> x.seen(0, set), OUTSIDE);
        }
        for (int seed : new int[] {LEAST, -65537, -1, 10000, 65537, MOST}) {
            refused("year seed " + seed, x -> x.year(seed, 9, 6), OUTSIDE);
        }
        for (int n : new int[] {LEAST, -65536, -1, 0, 100, 101, 65536, MOST}) {
            refused("year n " + n, x -> x.year(5, n, 6), OUTSIDE);
        }
        for (int of : new int[] {LEAST, -65536, -1, 8, 9, 256, 65536, MOST}) {
            refused("year of " + of, x -> x.year(5, 9, of), OUTSIDE);
        }
        for (int n : NOT_0_TO_1) {
            refused("image " + n, x -> x.image(n), OUTSIDE);
            refused("restore " + n, x -> x.restore(n), OUTSIDE);
        }
    }

    private void unknownAheadOfOutside() {
        refused("stand, person and all else wrong", x -> x.stand(6, -1, 10, 2, true), UNKNOWN);
        refused("stand, person and slow wrong", x -> x.stand(-1, 0, 10, 0, true), UNKNOWN);
        refused("stand, place and slow wrong", x -> x.stand(0, 10, -1, 0, true), UNKNOWN);
        refused("stand, place and party wrong", x -> x.stand(0, -1, 0, 2, true), UNKNOWN);
        refused("rules, both wrong", x -> x.rules(10, 2), UNKNOWN);
        refused("opens, both wrong", x -> x.opens(6, 10), UNKNOWN);
        refused("weight, both wrong", x -> x.weight(-1, 10), UNKNOWN);
        refused("chance, both wrong", x -> x.chance(8, 2), GONE + UNKNOWN);
        refused("bestChance, both wrong", x -> x.bestChance(6, -1), GONE + UNKNOWN);
        refused("quick, all wrong", x -> x.quick(6, 2, 0), UNKNOWN);
    }

    /** A person that can be, but is not there. */
    private void nobodyAt(int person) {
        refused("leave", x -> x.leave(person), UNKNOWN);
        refused("opens", x -> x.opens(person, 0), UNKNOWN);
        refused("opens, no place", x -> x.opens(person, 10), UNKNOWN);
        refused("chance", x -> x.chance(person, 0), GONE + UNKNOWN);
        refused("chance, no part", x -> x.chance(person, 2), GONE + UNKNOWN);
        refused("best", x -> x.best(person), UNKNOWN);
        refused("bestChance", x -> x.bestChance(person, 1), GONE + UNKNOWN);
        refused("bestChance, no part", x -> x.bestChance(person, -1), GONE + UNKNOWN);
        refused("coup", x -> x.coup(person), UNKNOWN);
        refused("quick", x -> x.quick(person, 0, 1), UNKNOWN);
        refused("quick, no fraction", x -> x.quick(person, 2, 1), UNKNOWN);
        for (int what = 0; what < 4; what++) {
            int told = 20 + 10 * person + what;
            refused("told " + told, x -> x.told(told), OUTSIDE);
        }
    }

    private void whenNobodyIsThere() {
        for (int person = 0; person < 6; person++) {
            calls.clear();
            nobodyAt(person);
            in("nobody there, " + person, RefusalTest::empty);
            int goes = person;
            in("all but one there, " + person, () -> {
                UmbrellaVote x = full();
                x.leave(goes);
                return x;
            });
        }
    }

    private void whenAllIsFull() {
        calls.clear();
        for (int sign : new int[] {33, '.', '0', '9', 126}) {
            refused("say " + sign, x -> x.say(sign), FULL);
        }
        refused("say 127, outside ahead of full", x -> x.say(127), OUTSIDE);
        refused("say 32, outside ahead of full", x -> x.say(32), OUTSIDE);
        refused("seen a set", x -> x.seen(0, 0), FULL);
        refused("seen the last set", x -> x.seen(0, 63), FULL);
        refused("seen a person", x -> x.seen(1, 0), FULL);
        refused("seen the last person not", x -> x.seen(2, 5), FULL);
        refused("seen no person, unknown ahead of full", x -> x.seen(1, 6), UNKNOWN);
        refused("seen no person not, unknown ahead of full", x -> x.seen(2, -1), UNKNOWN);
        refused("seen how 3, outside ahead of full", x -> x.seen(3, 0), OUTSIDE);
        refused("seen set 64, outside ahead of full", x -> x.seen(0, 64), OUTSIDE);
        for (int person = 0; person < 6; person++) {
            fractionsOutside(person);
        }
        in("full", RefusalTest::full);
    }

    private void fractionsOutside(int person) {
        for (int part : NOT_0_TO_1) {
            refused("chance, part " + part, x -> x.chance(person, part), GONE + OUTSIDE);
            refused("bestChance, part " + part, x -> x.bestChance(person, part), GONE + OUTSIDE);
        }
        int[][] fractions = {{LEAST, 1}, {-1, 1}, {-1, 100}, {2, 1}, {51, 50}, {101, 100}, {MOST, 100}, {0, 0}, {1, 0}, {0, -1},
            {-1, -1}, {0, 101}, {101, 101}, {0, MOST}, {MOST, MOST}, {LEAST, LEAST}, {0, LEAST}};
        for (int[] by : fractions) {
            refused("quick " + by[0] + " by " + by[1], x -> x.quick(person, by[0], by[1]), OUTSIDE);
        }
    }

    private void whenThereIsAFault() {
        calls.clear();
        for (int n : new int[] {LEAST, -3, -2, -1, 0, 1, 5, 9, 10, 40, 41, MOST}) {
            refused("reign " + n, x -> x.reign(n), NO);
            refused("years " + n, x -> x.years(n), NO);
        }
        in("faulty", RefusalTest::faulty);
        in("unended", RefusalTest::unended);
        calls.clear();
        for (int of : new int[] {LEAST, -65536, -2, -1, 10, 11, 256, 65536, MOST}) {
            refused("years " + of, x -> x.years(of), OUTSIDE);
        }
        for (int parts : new int[] {LEAST, -65536, -3, -2, 41, 42, 256, 65536, MOST}) {
            refused("reign " + parts, x -> x.reign(parts), OUTSIDE);
        }
        in("no fault, no signs", RefusalTest::empty);
        in("no fault", RefusalTest::some);
        in("no fault, full", RefusalTest::full);
    }

    private void whenNoImageIsKept() {
        calls.clear();
        refused("restore 0", x -> x.restore(0), STATE);
        refused("restore 1", x -> x.restore(1), STATE);
        refused("restore 2, outside ahead of state", x -> x.restore(2), OUTSIDE);
        refused("restore -1, outside ahead of state", x -> x.restore(-1), OUTSIDE);
        in("none kept", RefusalTest::empty);
        calls.clear();
        refused("restore 1", x -> x.restore(1), STATE);
        in("the other kept", RefusalTest::some);
    }

    private void whenWeightsWouldAllBe0() {
        calls.clear();
        refused("the last weight away", x -> x.weight(6, 0), OUTSIDE);
        in("full", RefusalTest::full);
    }

    private void whenMoreThanThreeAreThere() {
        calls.clear();
        for (int i : new int[] {LEAST, -2, -1, 0, 1, 999, 1000, MOST}) {
            refused("rests " + i, x -> x.rests(i), FULL);
        }
        in("six", RefusalTest::full);
        in("four", () -> Votes.of("A00s B11c D22s F33ch"));
    }

    /**
     * "(Nothing is done in fact: HOLES of winds, too.)" E at 3 rules by rain over 0 to 4, A at 5 over 5 and 6,
     * C at 7, under the table, over 7 to 9; place 3 has a weight of 8, of 17 in all.
     */
    private void questionsChangeNothing() {
        calls.clear();
        refused("fault", x -> x.fault(), NONE);
        refused("rules", x -> x.rules(9, 0), 4);
        refused("rules, when", x -> x.rules(9, 1), 11);
        refused("opens", x -> x.opens(0, 9), 14);
        refused("never", x -> x.never(), 0);
        refused("reign", x -> x.reign(-1), 4);
        refused("years", x -> x.years(9), 3);
        refused("chance", x -> x.chance(4, 0), 12);
        refused("best", x -> x.best(0), 6);
        refused("bestChance", x -> x.bestChance(0, 1), 34);
        refused("rests", x -> x.rests(-1), 0);
        refused("rests, the first", x -> x.rests(0), NONE);
        refused("coup", x -> x.coup(0), 5);
        refused("quick", x -> x.quick(2, 1, 6), 3);
        refused("fits", x -> x.fits(), 96);
        refused("year", x -> x.year(9, 9, 0), 2);
        in("some", RefusalTest::some);
    }
}
