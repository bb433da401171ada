/** Each promise by answers worked out by hand: ordinary calls, edges, and calls that are refused and change nothing. */
public final class PromiseTest {
    private static final int UNKNOWN = -1, OUTSIDE = -2, STATE = -3, FULL = -4, NO = -5, NONE = -6;
    private static final long GONE = -1000000000000000000L;
    private static final int MOST = Integer.MAX_VALUE, LEAST = Integer.MIN_VALUE;

    private final Checks checks = new Checks();
    private UmbrellaVote x;

    public static void main(String[] args) {
        PromiseTest test = new PromiseTest();
        test.promise1New();
        test.promise2Stand();
        test.promise3Leave();
        test.promise4Table();
        test.promise5Set();
        test.promise6Say();
        test.promise7Wipe();
        test.promise8Fault();
        test.promise9Rules();
        test.promise10Opens();
        test.promise11Never();
        test.promise12Reign();
        test.promise13Years();
        test.promise13Winds();
        test.promise14Weight();
        test.promise15Chance();
        test.promise16And17Best();
        test.promise18Rests();
        test.promise19Coup();
        test.promise20Quick();
        test.promise21Seen();
        test.promise22Forget();
        test.promise23Fits();
        test.promise24Year();
        test.promise25And26Images();
        test.promise27Told();
        test.checks.end();
    }

    private void due(String call, long got, long want) {
        checks.due(call, got, want);
    }

    private void fresh() {
        x = new UmbrellaVote();
    }

    /** A new object with a text on its pad. */
    private void freshWith(String text) {
        fresh();
        write(text);
    }

    private void write(String text) {
        for (int i = 0; i < text.length(); i++) {
            x.say(text.charAt(i));
        }
    }

    private void fault(String text, int want) {
        freshWith(text);
        due("fault of " + text, x.fault(), want);
    }

    /** A silk at 2 and B cotton at 7, both slow 1: A rules by rain over 0 to 4, B by rain over 5 to 9. */
    private void halves() {
        fresh();
        x.stand(0, 2, 1, 0, false);
        x.stand(1, 7, 1, 1, false);
    }

    private void promise1New() {
        fresh();
        due("new: there", x.told(1), 0);
        due("new: signs", x.told(0), 0);
        due("new: spread", x.told(2), 2);
        due("new: shade", x.told(3), 5);
        due("new: tables", x.told(4), 0);
        due("new: sights", x.told(5), 0);
        for (int place = 0; place < 10; place++) {
            due("new: weight of " + place, x.told(10 + place), 1);
            due("new: rules of " + place, x.rules(place, 0), NONE);
        }
        due("new: no image 0", x.restore(0), STATE);
        due("new: no image 1", x.restore(1), STATE);
        UmbrellaVote other = new UmbrellaVote();
        other.stand(0, 0, 0, 0, false);
        due("new: objects are apart", x.told(1), 0);
    }

    private void promise2Stand() {
        fresh();
        due("stand: first", x.stand(5, 9, 9, 1, true), 1);
        due("stand: second", x.stand(0, 0, 0, 0, false), 2);
        due("stand: otherwise", x.stand(5, 3, 4, 0, false), 2);
        due("stand: place", x.told(70), 3);
        due("stand: slow", x.told(71), 4);
        due("stand: party", x.told(72), 0);
        due("stand: hole", x.told(73), 0);
        due("stand: unknown person", x.stand(6, 0, 10, 2, false), UNKNOWN);
        due("stand: unknown person below", x.stand(-1, 0, 0, 0, false), UNKNOWN);
        due("stand: unknown place ahead of outside", x.stand(5, 10, 10, 0, true), UNKNOWN);
        due("stand: unknown place below", x.stand(5, -1, 0, 0, true), UNKNOWN);
        due("stand: slow above", x.stand(5, 0, 10, 1, true), OUTSIDE);
        due("stand: slow below", x.stand(5, 0, -1, 1, true), OUTSIDE);
        due("stand: party above", x.stand(5, 0, 0, 2, true), OUTSIDE);
        due("stand: party below", x.stand(5, 0, 0, -1, true), OUTSIDE);
        due("stand: refused of who is not there", x.stand(1, 0, 10, 0, false), OUTSIDE);
        due("stand: refused changes nobody", x.told(1), 33);
        due("stand: refused changes no place", x.told(70), 3);
        due("stand: refused changes no slow", x.told(71), 4);
        due("stand: refused changes no party", x.told(72), 0);
        due("stand: refused changes no hole", x.told(73), 0);
        for (int person = 1; person < 5; person++) {
            due("stand: all", x.stand(person, person, person, person % 2, false), person + 2);
        }
    }

    private void promise3Leave() {
        halves();
        due("leave: not there", x.leave(2), UNKNOWN);
        due("leave: no such", x.leave(6), UNKNOWN);
        due("leave: below", x.leave(-1), UNKNOWN);
        due("leave: far above", x.leave(32), UNKNOWN);
        due("leave: both still there", x.told(1), 3);
        due("leave: one", x.leave(0), 1);
        due("leave: gone", x.leave(0), UNKNOWN);
        due("leave: rules no more", x.rules(2, 0), 2);
        due("leave: the other", x.leave(1), 0);
        due("leave: nobody", x.rules(2, 0), NONE);
        due("leave: stands again", x.stand(0, 4, 0, 0, false), 1);
    }

    private void promise4Table() {
        halves();
        due("table: on", x.table(2, true), 1);
        due("table: on again", x.table(2, true), 1);
        due("table: 9", x.table(9, true), 1);
        due("table: told", x.told(4), 516);
        due("table: shaded", x.opens(0, 2), 6);
        due("table: another is not", x.opens(1, 7), 1);
        due("table: 10", x.table(10, false), UNKNOWN);
        due("table: -1", x.table(-1, false), UNKNOWN);
        due("table: far", x.table(34, false), UNKNOWN);
        due("table: refused changes nothing", x.told(4), 516);
        due("table: off", x.table(2, false), 1);
        due("table: off again", x.table(2, false), 1);
        due("table: told off", x.told(4), 512);
        due("table: not shaded", x.opens(0, 2), 1);
    }

    private void promise5Set() {
        halves();
        x.table(7, true);
        due("set: spread", x.set(0, 9), 2);
        due("set: spread least", x.set(0, 1), 9);
        due("set: spread 0", x.set(0, 0), OUTSIDE);
        due("set: spread 10", x.set(0, 10), OUTSIDE);
        due("set: spread stays", x.told(2), 1);
        due("set: spread spreads", x.opens(0, 9), 8);
        due("set: shade", x.set(1, 9), 5);
        due("set: shade shades", x.opens(1, 7), 10);
        due("set: shade least", x.set(1, 0), 9);
        due("set: no shade", x.opens(1, 7), 1);
        due("set: shade 10", x.set(1, 10), OUTSIDE);
        due("set: shade -1", x.set(1, -1), OUTSIDE);
        due("set: shade stays", x.told(3), 0);
        due("set: which 2", x.set(2, 5), OUTSIDE);
        due("set: which -1", x.set(-1, 5), OUTSIDE);
    }

    private void promise6Say() {
        fresh();
        due("say: 32", x.say(32), OUTSIDE);
        due("say: 127", x.say(127), OUTSIDE);
        due("say: refused changes nothing", x.told(0), 0);
        due("say: 33", x.say(33), 1);
        due("say: 126", x.say(126), 2);
        for (int i = 3; i <= 40; i++) {
            due("say: sign " + i, x.say('0'), i);
        }
        due("say: full", x.say('0'), FULL);
        due("say: outside ahead of full", x.say(127), OUTSIDE);
        due("say: still", x.told(0), 40);
    }

    private void promise7Wipe() {
        freshWith("!3.");
        x.stand(0, 3, 0, 0, false);
        due("wipe: three", x.wipe(), 3);
        due("wipe: none", x.wipe(), 0);
        due("wipe: told", x.told(0), 0);
        due("wipe: no chronicle", x.years(0), 0);
        due("wipe: signs alone", x.told(1), 1);
        due("wipe: anew", x.say('5'), 1);
        due("wipe: the new sign stands", x.reign(-1), 1);
        due("wipe: and no other", x.reign(2), OUTSIDE);
    }

    private void promise8Fault() {
        fault("", NONE);
        fault("0", NONE);
        fault("9!0!9-1-9.~A~F", NONE);
        fault("!", 1);
        fault("-", 1);
        fault("~", 1);
        fault(".!", 2);
        fault("55~", 3);
        fault("-0", 1);
        fault(".-0", 2);
        fault("~G", 1);
        fault("~@", 1);
        fault("~a", 1);
        fault("~5", 1);
        fault("!!", 1);
        fault("!.", 1);
        fault("!/", 1);
        fault("!:", 1);
        fault("-:", 1);
        fault("--", 1);
        fault("~~", 1);
        fault("A", 0);
        fault("/", 0);
        fault(":", 0);
        fault("0A!", 1);
        fault("!0A", 2);
        fault("x!", 0);
        freshWith("0000000000000000000000000000000000000000");
        due("fault: 40 signs", x.fault(), NONE);
        freshWith("000000000000000000000000000000000000000!");
        due("fault: more than 40 must come", x.fault(), 40);
        due("fault: changes nothing", x.told(0), 40);
    }

    private void promise9Rules() {
        halves();
        x.stand(2, 5, 4, 1, false);
        due("rules: A", x.rules(4, 0), 1);
        due("rules: when", x.rules(4, 1), 5);
        due("rules: B and C wait for one another", x.rules(5, 0), 4);
        due("rules: C", x.rules(5, 1), 4);
        due("rules: B", x.rules(9, 0), 2);
        due("rules: B when", x.rules(9, 1), 5);
        x.stand(2, 5, 5, 1, false);
        due("rules: a regency", x.rules(5, 0), 6);
        due("rules: a regency when", x.rules(5, 1), 5);
        due("rules: no place", x.rules(10, 2), UNKNOWN);
        due("rules: no place below", x.rules(-1, 0), UNKNOWN);
        due("rules: what 2", x.rules(0, 2), OUTSIDE);
        due("rules: what -1", x.rules(0, -1), OUTSIDE);
        x.stand(0, 0, 0, 0, true);
        due("rules: not with a hole", x.rules(0, 0), 6);
        fresh();
        due("rules: nobody", x.rules(0, 0), NONE);
        due("rules: nobody's when", x.rules(0, 1), NONE);
    }

    private void promise10Opens() {
        fresh();
        x.stand(0, 3, 4, 0, false);
        due("opens: at its place", x.opens(0, 3), 4);
        due("opens: to the right", x.opens(0, 9), 16);
        due("opens: to the left", x.opens(0, 0), 10);
        x.set(0, 9);
        x.table(3, true);
        x.set(1, 9);
        x.stand(0, 3, 9, 0, false);
        due("opens: late", x.opens(0, 9), 72);
        x.table(3, false);
        x.table(9, true);
        due("opens: its own table counts", x.opens(0, 9), 63);
        due("opens: who is not there", x.opens(1, 0), UNKNOWN);
        due("opens: no such", x.opens(6, 0), UNKNOWN);
        due("opens: no place", x.opens(0, 10), UNKNOWN);
        due("opens: no place below", x.opens(0, -1), UNKNOWN);
        x.stand(5, 1, 2, 0, false);
        due("opens: the last person", x.opens(5, 0), 11);
        x.stand(0, 3, 0, 0, true);
        due("opens: hole", x.opens(0, 3), NONE);
        due("opens: hole, no place", x.opens(0, 10), UNKNOWN);
    }

    private void promise11Never() {
        fresh();
        due("never: nobody there", x.never(), 0);
        x.stand(3, 4, 0, 0, true);
        due("never: a hole", x.never(), 8);
        x.stand(5, 4, 1, 0, false);
        due("never: the other rules", x.never(), 8);
        x.stand(0, 4, 2, 0, false);
        due("never: slower at the same place", x.never(), 9);
        x.stand(0, 4, 1, 0, false);
        due("never: in a regency it rules", x.never(), 8);
        x.stand(0, 0, 9, 0, false);
        x.weight(0, 0);
        due("never: a place without weight counts", x.never(), 8);
    }

    private void promise12Reign() {
        halves();
        due("reign: no parts", x.reign(-1), NONE);
        due("reign: no parts, 1", x.reign(1), OUTSIDE);
        write("0.!7-2!9");
        due("reign: 0", x.reign(0), NONE);
        due("reign: 1", x.reign(1), 1);
        due("reign: 2", x.reign(2), 1);
        due("reign: 3", x.reign(3), 2);
        due("reign: 4", x.reign(4), NONE);
        due("reign: 5, a dry sprinkler", x.reign(5), NONE);
        due("reign: 6", x.reign(6), OUTSIDE);
        due("reign: -2", x.reign(-2), OUTSIDE);
        due("reign: all", x.reign(-1), NONE);
        write("9");
        due("reign: all with one more", x.reign(-1), 2);
        write("!");
        due("reign: fault", x.reign(-1), NO);
        due("reign: fault ahead of outside", x.reign(99), NO);
        due("reign: fault ahead of outside below", x.reign(-2), NO);
        halves();
        write("4");
        due("reign: rain over 4", x.reign(-1), 1);
        write("5");
        due("reign: rain over 5", x.reign(-1), 2);
        halves();
        write("0!5");
        due("reign: a dry sprinkler changes nothing", x.reign(-1), 1);
        halves();
        x.stand(2, 7, 1, 0, false);
        x.stand(3, 7, 3, 0, false);
        x.table(7, true);
        write("!7");
        due("reign: a sprinkler's regency under a table", x.reign(-1), 6);
        x.stand(1, 7, 1, 0, true);
        due("reign: a hole under a sprinkler", x.reign(-1), 4);
    }

    private void promise13Years() {
        halves();
        x.stand(2, 7, 1, 0, false);
        // Nobody one year, A two, B and C one, nobody four, B and C one.
        write(".0..9.-49.");
        due("years: A", x.years(0), 2);
        due("years: B", x.years(1), 2);
        due("years: C", x.years(2), 2);
        due("years: D is not there", x.years(3), 0);
        due("years: silk", x.years(6), 4);
        due("years: cotton", x.years(7), 2);
        due("years: nobody", x.years(8), 5);
        due("years: reigns", x.years(9), 3);
        due("years: 10", x.years(10), OUTSIDE);
        due("years: -1", x.years(-1), OUTSIDE);
        x.say('~');
        due("years: fault", x.years(0), NO);
        due("years: fault ahead of outside", x.years(10), NO);
        halves();
        write("0.1.!2.9");
        due("years: the same set is no new reign", x.years(9), 2);
        due("years: three", x.years(0), 3);
        due("years: none yet", x.years(1), 0);
        halves();
        write("0-90.");
        due("years: the same set behind a drought", x.years(9), 2);
        due("years: nine dry ones", x.years(8), 9);
        due("years: the drought's are not A's", x.years(0), 1);
        fresh();
        write("5.-1~A!3.");
        due("years: nobody there", x.years(8), 3);
        due("years: nobody's reigns", x.years(9), 0);
    }

    private void promise13Winds() {
        halves();
        x.stand(2, 7, 1, 0, false);
        write("9.~B.~C.0.~A.9.");
        due("winds: B", x.years(1), 1);
        due("winds: C goes on", x.years(2), 2);
        due("winds: A", x.years(0), 1);
        due("winds: nobody", x.years(8), 3);
        due("winds: reigns", x.years(9), 3);
        due("winds: behind the first", x.reign(3), 4);
        due("winds: behind the second", x.reign(5), NONE);
        due("winds: no umbrella is left", x.reign(-1), NONE);
        due("winds: nothing is done in fact", x.told(23), 0);
        due("winds: A opens", x.opens(0, 2), 1);
        halves();
        write("~F0~F~B9.");
        due("winds: of who is not there nothing", x.years(0), 1);
        due("winds: the broken one rules by no rain", x.reign(-1), 1);
        due("winds: a wind makes no reign", x.years(9), 1);
        halves();
        write("9~B!7.");
        due("winds: nor by a sprinkler", x.years(1), 0);
    }

    private void promise14Weight() {
        halves();
        due("weight: was 1", x.weight(0, 9), 1);
        due("weight: was 9", x.weight(0, 0), 9);
        due("weight: was 0", x.weight(0, 0), 0);
        due("weight: told", x.told(10), 0);
        due("weight: 10", x.weight(1, 10), OUTSIDE);
        due("weight: -1", x.weight(1, -1), OUTSIDE);
        due("weight: place 10", x.weight(10, 10), UNKNOWN);
        due("weight: place -1", x.weight(-1, 1), UNKNOWN);
        for (int place = 1; place < 9; place++) {
            due("weight: away " + place, x.weight(place, 0), 1);
        }
        due("weight: the last may not go", x.weight(9, 0), OUTSIDE);
        due("weight: the last is still there", x.told(19), 1);
        due("weight: rules still", x.rules(0, 0), 1);
        due("weight: but has no chance", x.chance(0, 0), 0);
        due("weight: the last may change", x.weight(9, 2), 1);
        due("weight: another in its stead", x.weight(0, 3), 0);
        due("weight: now it may go", x.weight(9, 0), 2);
        due("weight: far numbers", x.weight(0, MOST), OUTSIDE);
        due("weight: far numbers below", x.weight(0, LEAST), OUTSIDE);
        due("weight: stays", x.told(10), 3);
    }

    private void promise15Chance() {
        fresh();
        due("chance: a party of nobody", x.chance(6, 0), 0);
        due("chance: a party of nobody, by", x.chance(7, 1), 1);
        halves();
        due("chance: A", x.chance(0, 0), 1);
        due("chance: A by", x.chance(0, 1), 2);
        due("chance: cotton", x.chance(7, 0), 1);
        due("chance: cotton by", x.chance(7, 1), 2);
        x.weight(0, 3);
        // Weights 12 in all, 7 over A's half.
        due("chance: A weighed", x.chance(0, 0), 7);
        due("chance: A weighed by", x.chance(0, 1), 12);
        due("chance: silk", x.chance(6, 0), 7);
        due("chance: cotton weighed", x.chance(7, 0), 5);
        x.stand(2, 2, 1, 1, false);
        due("chance: shared by two", x.chance(0, 0), 7);
        due("chance: shared by two, by", x.chance(0, 1), 24);
        x.stand(3, 2, 1, 1, false);
        due("chance: shared by three", x.chance(0, 0), 7);
        due("chance: shared by three, by", x.chance(0, 1), 36);
        // Cotton: two of three in 7, all in 5: 14/3 + 5 of 12.
        due("chance: party of a regency", x.chance(7, 0), 29);
        due("chance: party of a regency by", x.chance(7, 1), 36);
        due("chance: who is not there", x.chance(4, 2), GONE + UNKNOWN);
        due("chance: 8", x.chance(8, 0), GONE + UNKNOWN);
        due("chance: -1", x.chance(-1, 0), GONE + UNKNOWN);
        due("chance: part 2", x.chance(0, 2), GONE + OUTSIDE);
        due("chance: part -1", x.chance(7, -1), GONE + OUTSIDE);
        x.stand(0, 0, 0, 0, true);
        due("chance: hole", x.chance(0, 0), 0);
        due("chance: hole by", x.chance(0, 1), 1);
        due("chance: silk has none", x.chance(6, 1), 1);
        due("chance: cotton has all", x.chance(7, 0), 1);
        due("chance: cotton has all, by", x.chance(7, 1), 1);
        fresh();
        for (int person = 0; person < 6; person++) {
            x.stand(person, 5, 0, 0, false);
        }
        due("chance: six", x.chance(5, 0), 1);
        due("chance: six by", x.chance(5, 1), 6);
        due("chance: silk of six", x.chance(6, 0), 1);
        due("chance: none is cotton", x.chance(7, 0), 0);
        x.stand(5, 5, 1, 0, false);
        due("chance: five by", x.chance(0, 1), 5);
    }

    private void promise16And17Best() {
        halves();
        // Next to B, on the side with more places, A rules over all of that side.
        due("best: A", x.best(0), 6);
        due("best: A's chance", x.bestChance(0, 0), 7);
        due("best: A's chance by", x.bestChance(0, 1), 10);
        due("best: B", x.best(1), 3);
        due("best: B's chance", x.bestChance(1, 0), 7);
        due("best: nothing is done", x.told(20), 2);
        due("best: who is not there", x.best(2), UNKNOWN);
        due("best: no such", x.best(6), UNKNOWN);
        due("best: -1", x.best(-1), UNKNOWN);
        due("bestChance: who is not there", x.bestChance(2, 2), GONE + UNKNOWN);
        due("bestChance: no such", x.bestChance(-1, 0), GONE + UNKNOWN);
        due("bestChance: part 2", x.bestChance(0, 2), GONE + OUTSIDE);
        due("bestChance: part -1", x.bestChance(0, -1), GONE + OUTSIDE);
        x.table(6, true);
        due("best: not under a table", x.best(0), 5);
        due("best: at 5 it shares one", x.bestChance(0, 0), 13);
        due("best: at 5 it shares one, by", x.bestChance(0, 1), 20);
        x.stand(0, 9, 0, 0, true);
        due("best: a hole, the first place", x.best(0), 0);
        due("best: a hole, no chance", x.bestChance(0, 0), 0);
        due("best: a hole, no chance by", x.bestChance(0, 1), 1);
        due("best: alone in fact", x.best(1), 0);
        due("best: alone in fact, all", x.bestChance(1, 0), 1);
    }

    private void promise18Rests() {
        fresh();
        due("rests: nobody, one", x.rests(-1), 1);
        due("rests: nobody, 0", x.rests(0), 0);
        due("rests: nobody, no more", x.rests(1), NONE);
        x.stand(4, 0, 0, 0, false);
        due("rests: alone anywhere", x.rests(-1), 10);
        due("rests: alone, the last", x.rests(9), 9);
        due("rests: alone, no more", x.rests(10), NONE);
        due("rests: no such row", x.rests(-2), NONE);
        due("rests: far", x.rests(MOST), NONE);
        due("rests: far below", x.rests(LEAST), NONE);
        x.stand(4, 0, 0, 0, true);
        due("rests: a hole anywhere", x.rests(-1), 10);
        x.stand(4, 0, 0, 0, false);
        x.stand(5, 0, 0, 0, false);
        due("rests: two in the middle", x.rests(-1), 4);
        due("rests: two, 0", x.rests(0), 44);
        due("rests: two, 1", x.rests(1), 45);
        due("rests: two, 2", x.rests(2), 54);
        due("rests: two, 3", x.rests(3), 55);
        x.stand(5, 0, 0, 0, true);
        due("rests: one of two with a hole", x.rests(-1), 100);
        due("rests: one of two with a hole, 37", x.rests(37), 37);
        x.stand(5, 0, 0, 0, false);
        x.weight(0, 9);
        for (int place = 2; place < 10; place++) {
            x.weight(place, 0);
        }
        due("rests: it rains at 0, mostly", x.rests(-1), 1);
        due("rests: both there", x.rests(0), 0);
        x.table(0, true);
        due("rests: not under the table", x.rests(0), 11);
        x.stand(3, 9, 9, 0, true);
        due("rests: a third with a hole, first digit", x.rests(-1), 10);
        due("rests: a third with a hole, 9", x.rests(9), 911);
        x.stand(0, 0, 0, 0, false);
        due("rests: four", x.rests(-1), FULL);
        due("rests: four, 0", x.rests(0), FULL);
        x.leave(3);
        due("rests: three again", x.rests(0), 111);
        due("rests: nothing is done", x.told(20), 0);
        restsOfThree();
    }

    private void restsOfThree() {
        fresh();
        x.stand(1, 0, 0, 0, false);
        x.stand(2, 0, 0, 0, false);
        x.stand(5, 0, 0, 0, false);
        x.weight(4, 5);
        x.weight(9, 4);
        for (int place = 0; place < 9; place++) {
            if (place != 4) {
                x.weight(place, 0);
            }
        }
        // Two share the 5 and one has the 4: to join it is worth 2, to come to the others 3, of 9.
        due("rests: three", x.rests(-1), 3);
        due("rests: three, 0", x.rests(0), 449);
        due("rests: three, 1", x.rests(1), 494);
        due("rests: three, 2", x.rests(2), 944);
        x.stand(1, 0, 9, 0, false);
        // The first is too slow wherever it stands next to others: it takes no rain from them.
        x.weight(9, 0);
        due("rests: a slow first", x.rests(-1), 10);
        due("rests: a slow first, 0", x.rests(0), 44);
        due("rests: a slow first, 9", x.rests(9), 944);
    }

    private void promise19Coup() {
        halves();
        due("coup: A", x.coup(0), 2);
        due("coup: B", x.coup(1), 7);
        x.stand(2, 7, 0, 0, false);
        due("coup: a quicker one is there", x.coup(1), NONE);
        due("coup: the quicker one", x.coup(2), 7);
        x.stand(2, 7, 1, 0, false);
        due("coup: not with another", x.coup(1), NONE);
        x.stand(2, 7, 1, 0, true);
        due("coup: the other has a hole", x.coup(1), 7);
        due("coup: who has a hole", x.coup(2), NONE);
        x.table(7, true);
        due("coup: under a table", x.coup(1), 7);
        due("coup: who is not there", x.coup(3), UNKNOWN);
        due("coup: no such", x.coup(6), UNKNOWN);
        due("coup: -1", x.coup(-1), UNKNOWN);
        fresh();
        x.stand(5, 0, 9, 0, false);
        due("coup: at 0", x.coup(5), 0);
    }

    private void promise20Quick() {
        halves();
        // By rain over 4 A opens 4 seconds behind its slow, B at 7; over 3 A 2 behind its slow, B at 9.
        due("quick: a half", x.quick(0, 1, 2), 2);
        due("quick: half of the place 4", x.quick(0, 9, 20), 3);
        due("quick: a little more than that", x.quick(0, 46, 100), 2);
        due("quick: without the place 4", x.quick(0, 2, 5), 6);
        due("quick: more than can be", x.quick(0, 51, 100), NONE);
        due("quick: 0 by anything", x.quick(0, 0, 100), 9);
        due("quick: all", x.quick(0, 100, 100), NONE);
        due("quick: a above b", x.quick(0, 3, 2), OUTSIDE);
        due("quick: a below", x.quick(0, -1, 2), OUTSIDE);
        due("quick: b 0", x.quick(0, 0, 0), OUTSIDE);
        due("quick: b 101", x.quick(0, 0, 101), OUTSIDE);
        due("quick: who is not there", x.quick(2, 3, 2), UNKNOWN);
        due("quick: no such", x.quick(-1, 0, 1), UNKNOWN);
        due("quick: nothing is done", x.told(21), 1);
        x.stand(1, 2, 0, 1, false);
        due("quick: as quick as can be", x.quick(0, 1, 2), 0);
        due("quick: not quick enough", x.quick(0, 51, 100), NONE);
        x.stand(1, 7, 1, 1, true);
        due("quick: alone", x.quick(0, 100, 100), 9);
        due("quick: a hole", x.quick(1, 1, 100), NONE);
        due("quick: a hole, 0", x.quick(1, 0, 1), 9);
    }

    private void promise21Seen() {
        fresh();
        due("seen: person 6", x.seen(1, 6), UNKNOWN);
        due("seen: person -1", x.seen(2, -1), UNKNOWN);
        due("seen: how 3", x.seen(3, 0), OUTSIDE);
        due("seen: how -1", x.seen(-1, 0), OUTSIDE);
        due("seen: set 64", x.seen(0, 64), OUTSIDE);
        due("seen: set -1", x.seen(0, -1), OUTSIDE);
        due("seen: refused changes nothing", x.told(5), 0);
        due("seen: set 63", x.seen(0, 63), 1);
        due("seen: who is not there", x.seen(1, 5), 2);
        due("seen: not", x.seen(2, 0), 3);
        due("seen: again", x.seen(2, 0), 4);
        due("seen: 5", x.seen(2, 0), 5);
        due("seen: 6", x.seen(0, 0), 6);
        due("seen: full", x.seen(0, 0), FULL);
        due("seen: unknown ahead of full", x.seen(1, 6), UNKNOWN);
        due("seen: outside ahead of full", x.seen(3, 0), OUTSIDE);
        due("seen: set outside ahead of full", x.seen(0, 64), OUTSIDE);
        due("seen: six", x.told(5), 6);
    }

    private void promise22Forget() {
        halves();
        x.seen(1, 0);
        x.seen(0, 2);
        due("forget: two", x.forget(), 2);
        due("forget: none", x.forget(), 0);
        due("forget: all fits", x.fits(), 1023);
        due("forget: told", x.told(5), 0);
        due("forget: anew", x.seen(1, 1), 1);
        due("forget: the new one alone", x.fits(), 992);
    }

    private void promise23Fits() {
        halves();
        due("fits: without sights", x.fits(), 1023);
        x.seen(1, 0);
        due("fits: A", x.fits(), 31);
        x.stand(2, 4, 0, 0, false);
        // C at 4 opens ahead of A over 3 (2 and 3), ahead of B over 5 (2 and 5).
        due("fits: A, with C there", x.fits(), 7);
        x.forget();
        x.seen(2, 0);
        due("fits: not A", x.fits(), 1016);
        x.seen(2, 1);
        due("fits: neither", x.fits(), 56);
        x.weight(4, 0);
        due("fits: without weight too", x.fits(), 56);
        x.forget();
        x.seen(0, 2);
        due("fits: B alone", x.fits(), 960);
        x.stand(3, 7, 1, 0, false);
        due("fits: B is not alone", x.fits(), 0);
        x.forget();
        x.seen(0, 10);
        due("fits: just B and D", x.fits(), 960);
        x.forget();
        x.seen(2, 5);
        due("fits: who is not there never did", x.fits(), 1023);
        x.seen(1, 5);
        due("fits: nor could it", x.fits(), 0);
        fresh();
        x.seen(0, 0);
        due("fits: nobody ruled", x.fits(), 1023);
        x.stand(0, 0, 0, 0, false);
        due("fits: somebody rules", x.fits(), 0);
        x.stand(0, 0, 0, 0, true);
        due("fits: a hole", x.fits(), 1023);
    }

    private void promise24Year() {
        halves();
        // From 0: 74, 5624, 28652, 51790, 17641, 12409, so over the places 4, 4, 2, 0, 1, 9.
        due("year: one", x.year(0, 1, 0), 1);
        due("year: one, the other", x.year(0, 1, 1), 0);
        due("year: one reign so far", x.year(0, 5, 7), 1);
        due("year: six", x.year(0, 6, 0), 5);
        due("year: six, the other", x.year(0, 6, 1), 1);
        due("year: six, reigns", x.year(0, 6, 7), 2);
        due("year: all", x.year(0, 99, 0) + x.year(0, 99, 1), 99);
        due("year: A of all", x.year(0, 99, 0), year(0, 99, 0));
        due("year: B of all", x.year(9999, 99, 1), year(9999, 99, 1));
        due("year: reigns", x.year(9999, 99, 7), year(9999, 99, 7));
        due("year: nobody", x.year(9999, 99, 6), 0);
        due("year: who is not there", x.year(9999, 99, 5), 0);
        due("year: seed 10000", x.year(10000, 1, 0), OUTSIDE);
        due("year: seed -1", x.year(-1, 1, 0), OUTSIDE);
        due("year: n 0", x.year(0, 0, 0), OUTSIDE);
        due("year: n 100", x.year(0, 100, 0), OUTSIDE);
        due("year: of 8", x.year(0, 1, 8), OUTSIDE);
        due("year: of -1", x.year(0, 1, -1), OUTSIDE);
        write("~A~B");
        x.years(0);
        due("year: a chronicle's winds do not blow", x.year(0, 1, 0), 1);
        x.stand(1, 2, 1, 0, false);
        due("year: a regency counts for both", x.year(7, 50, 1), 50);
        due("year: and for the other", x.year(7, 50, 0), 50);
        due("year: one reign", x.year(7, 50, 7), 1);
        x.stand(0, 2, 1, 0, true);
        x.stand(1, 2, 1, 0, true);
        due("year: nobody opens", x.year(7, 50, 6), 50);
        due("year: nobody's reigns", x.year(7, 50, 7), 0);
    }

    /** A year of halves(), told once more: A (0) rules over 0 to 4, B (1) over the others; 7 counts the reigns. */
    private static int year(int seed, int n, int of) {
        long now = seed;
        int before = -1;
        int[] counts = new int[8];
        for (int i = 0; i < n; i++) {
            now = (75 * now + 74) % 65537;
            int who = now % 10 < 5 ? 0 : 1;
            counts[who]++;
            counts[7] += who != before ? 1 : 0;
            before = who;
        }
        return counts[of];
    }

    private void promise25And26Images() {
        halves();
        write("0.");
        x.table(3, true);
        x.set(0, 3);
        x.set(1, 4);
        x.weight(5, 7);
        x.seen(1, 0);
        due("image: 2", x.image(2), OUTSIDE);
        due("image: -1", x.image(-1), OUTSIDE);
        due("restore: none is kept", x.restore(0), STATE);
        due("restore: 2", x.restore(2), OUTSIDE);
        due("restore: -1", x.restore(-1), OUTSIDE);
        due("image: 0", x.image(0), 1);
        due("restore: the other is not kept", x.restore(1), STATE);
        x.leave(1);
        x.stand(0, 9, 9, 1, true);
        x.stand(4, 1, 0, 0, false);
        x.table(3, false);
        x.table(4, true);
        x.set(0, 9);
        x.set(1, 9);
        x.weight(5, 0);
        x.forget();
        x.seen(2, 1);
        x.seen(0, 9);
        write("1.");
        due("image: 1", x.image(1), 1);
        due("restore: 0", x.restore(0), 1);
        due("restore: people", x.told(1), 3);
        due("restore: A's place", x.told(20), 2);
        due("restore: A's slow", x.told(21), 1);
        due("restore: A's party", x.told(22), 0);
        due("restore: A's hole", x.told(23), 0);
        due("restore: B's party", x.told(32), 1);
        due("restore: tables", x.told(4), 8);
        due("restore: spread", x.told(2), 3);
        due("restore: shade", x.told(3), 4);
        due("restore: weight", x.told(15), 7);
        due("restore: sights", x.told(5), 1);
        due("restore: the sight itself", x.fits(), 31);
        due("restore: all but the pad", x.told(0), 4);
        x.stand(0, 5, 5, 1, true);
        x.weight(5, 1);
        due("restore: 0 again", x.restore(0), 1);
        due("restore: the image did not change", x.told(20), 2);
        due("restore: nor its weights", x.told(15), 7);
        due("restore: 1", x.restore(1), 1);
        due("restore: 1's people", x.told(1), 17);
        due("restore: 1's hole", x.told(23), 1);
        due("restore: 1's sights", x.told(5), 2);
        due("restore: 1's weight", x.told(15), 0);
        due("image: 0 anew", x.image(0), 1);
        x.leave(0);
        due("restore: the newer one", x.restore(0), 1);
        due("restore: the newer one's people", x.told(1), 17);
    }

    private void promise27Told() {
        fresh();
        write("x!");
        x.stand(0, 1, 2, 0, false);
        x.stand(5, 9, 8, 1, true);
        x.table(0, true);
        x.table(9, true);
        x.set(0, 7);
        x.set(1, 0);
        x.seen(1, 1);
        x.weight(0, 4);
        x.weight(9, 5);
        int[] due = {2, 33, 7, 0, 513, 1, OUTSIDE, OUTSIDE, OUTSIDE, OUTSIDE, 4, 1, 1, 1, 1, 1, 1, 1, 1, 5, 1, 2, 0, 0};
        for (int what = 0; what < due.length; what++) {
            due("told(" + what + ")", x.told(what), due[what]);
        }
        for (int what = 24; what < 70; what++) {
            due("told(" + what + ")", x.told(what), OUTSIDE);
        }
        due("told: F's place", x.told(70), 9);
        due("told: F's slow", x.told(71), 8);
        due("told: F's party", x.told(72), 1);
        due("told: F's hole", x.told(73), 1);
        for (int what = 74; what < 100; what++) {
            due("told(" + what + ")", x.told(what), OUTSIDE);
        }
        due("told(-1)", x.told(-1), OUTSIDE);
        due("told: far", x.told(MOST), OUTSIDE);
        due("told: far below", x.told(LEAST), OUTSIDE);
        x.leave(5);
        due("told: who went", x.told(70), OUTSIDE);
    }
}
