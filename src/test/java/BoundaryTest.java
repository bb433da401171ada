/**
 * Each sentence of the document that names a boundary, by a test of its own: the sentence stands above its test.
 * What refused calls answer, in which order, and that they change nothing, is looked at in RefusalTest.
 */
public final class BoundaryTest {
    private static final int UNKNOWN = -1, OUTSIDE = -2, STATE = -3, FULL = -4, NO = -5, NONE = -6;
    private static final long GONE = -1000000000000000000L;
    private static final int MOST = Integer.MAX_VALUE, LEAST = Integer.MIN_VALUE;

    /** A rules by rain over 0 to 4, B over 5 to 9. */
    private static final String HALVES = "A21s B71c";
    private static final String ALL_AT_4 = "A40s B40s C40s D40s E40s F40s";
    private static final String SIGNS_40 = "0000000000000000000000000000000000000000";

    private final Checks checks = new Checks();
    private UmbrellaVote x;

    public static void main(String[] args) {
        BoundaryTest test = new BoundaryTest();
        test.streets();
        test.umbrellas();
        test.pads();
        test.faults();
        test.chronicles();
        test.reignsAndYears();
        test.weightsAndChances();
        test.stands();
        test.allRests();
        test.coups();
        test.quicks();
        test.sights();
        test.yearsByDraws();
        test.images();
        test.tellings();
        test.checks.end();
    }

    private void due(String call, long got, long want) {
        checks.due(call, got, want);
    }

    private void with(String people) {
        x = Votes.of(people);
    }

    private void with(String people, String chronicle) {
        x = Votes.of(people, chronicle);
    }

    /** Whether all calls that need somebody answer that nobody is there. */
    private void nobodyIsThere(String when) {
        due(when + ": nobody", x.told(1), 0);
        due(when + ": never", x.never(), 0);
        for (int person = 0; person < 6; person++) {
            due(when + ": no place of " + person, x.told(20 + 10 * person), OUTSIDE);
            due(when + ": opens " + person, x.opens(person, 0), UNKNOWN);
            due(when + ": chance " + person, x.chance(person, 0), GONE + UNKNOWN);
        }
        for (int place = 0; place < 10; place++) {
            due(when + ": rules " + place, x.rules(place, 0), NONE);
            due(when + ": when at " + place, x.rules(place, 1), NONE);
        }
    }

    /** A at a place, with others beside it: A rules by rain over its own place alone. */
    private static String around(int place) {
        String left = place == 0 ? "" : " B" + (place - 1) + "0s";
        String right = place == 9 ? "" : " C" + (place + 1) + "0s";
        return "A" + place + "0s" + left + right;
    }

    // ---- 1 streets

    private void streets() {
        newObject();
        objectsApart();
        placesInARow();
        standing();
        standingOtherwise();
        leaving();
        tables();
        spread();
        shade();
        slow();
        parties();
        callsOfOneObject();
    }

    /** "Nobody is there." "PEOPLE 0 to 5, some of whom are there (none at first)" */
    private void newObject() {
        with("");
        nobodyIsThere("new");
        due("new: no signs", x.wipe(), 0);
        due("new: no sights", x.forget(), 0);
        due("new: no table", x.told(4), 0);
        due("new: no image 0", x.restore(0), STATE);
        due("new: no image 1", x.restore(1), STATE);
    }

    private void objectsApart() {
        with(HALVES, "0");
        x.table(2, true);
        x.seen(0, 1);
        x.weight(0, 9);
        x.image(0);
        x.image(1);
        UmbrellaVote other = new UmbrellaVote();
        x = other;
        newObject();
        due("apart: weight", other.told(10), 1);
    }

    /** "PLACES 0 to 9 in a row"; "SPREAD seconds later for each PLACE between" */
    private void placesInARow() {
        with("A00s F90s");
        for (int place = 0; place < 10; place++) {
            due("from 0 to " + place, x.opens(0, place), 2 * place);
            due("from 9 to " + place, x.opens(5, place), 2 * (9 - place));
            due("stand at " + place, x.stand(2, place, 0, 0, false), 3);
            due("told place " + place, x.told(40), place);
            due("own place " + place, x.opens(2, place), 0);
        }
    }

    /** "PEOPLE 0 to 5 (A to F)"; "how many are" */
    private void standing() {
        with("");
        for (int person = 5; person >= 0; person--) {
            due("stand " + person, x.stand(person, 9 - person, person, person % 2, person == 3), 6 - person);
        }
        due("all are there", x.told(1), 63);
        due("the seventh can not be", x.stand(6, 0, 0, 0, false), UNKNOWN);
        due("still six", x.stand(5, 4, 5, 1, false), 6);
        due("A's place", x.told(20), 9);
        due("F's place", x.told(70), 4);
    }

    /** "(or otherwise, if it was)" */
    private void standingOtherwise() {
        with("A99ch");
        due("otherwise: one", x.stand(0, 0, 0, 0, false), 1);
        due("otherwise: place", x.told(20), 0);
        due("otherwise: slow", x.told(21), 0);
        due("otherwise: party", x.told(22), 0);
        due("otherwise: hole", x.told(23), 0);
        due("otherwise: opens", x.opens(0, 0), 0);
        due("back: one", x.stand(0, 9, 9, 1, true), 1);
        due("back: place", x.told(20), 9);
        due("back: slow", x.told(21), 9);
        due("back: party", x.told(22), 1);
        due("back: hole", x.told(23), 1);
        due("back: opens never", x.opens(0, 9), NONE);
    }

    /** "A PERSON goes: how many are there. UNKNOWN: it was not." */
    private void leaving() {
        with(ALL_AT_4);
        for (int person = 0; person < 6; person++) {
            due("leave " + person, x.leave(person), 5 - person);
            due("left, " + person, x.leave(person), UNKNOWN);
        }
        nobodyIsThere("all left");
        due("stand again", x.stand(0, 4, 0, 0, false), 1);
        due("alone", x.rules(4, 0), 1);
    }

    /** "A PLACE has a TABLE (table true), or not: 1." "at a TABLE SHADE seconds later still" */
    private void tables() {
        with("A00s F90s C40s");
        for (int place = 0; place < 10; place++) {
            due("table " + place, x.table(place, true), 1);
            due("again " + place, x.table(place, true), 1);
            due("told " + place, x.told(4), 1 << place);
            due("A under " + place, x.opens(0, 0), place == 0 ? 5 : 0);
            due("F under " + place, x.opens(5, 9), place == 9 ? 5 : 0);
            due("rain over a table, not over its place, " + place, x.opens(2, 5), place == 4 ? 7 : 2);
            due("no table " + place, x.table(place, false), 1);
            due("nor again " + place, x.table(place, false), 1);
            due("told none " + place, x.told(4), 0);
        }
        for (int place = 0; place < 10; place++) {
            x.table(place, true);
        }
        due("all tables", x.told(4), 1023);
        due("all under tables", x.rules(4, 1), 5);
    }

    /** "SPREAD (1 to 9; 2 at first)"; "which it was" */
    private void spread() {
        with("A00s");
        due("spread at first", x.opens(0, 9), 18);
        int was = 2;
        for (int v = 1; v < 10; v++) {
            due("spread " + v, x.set(0, v), was);
            due("told spread " + v, x.told(2), v);
            due("spread over one, " + v, x.opens(0, 1), v);
            due("spread over all, " + v, x.opens(0, 9), 9 * v);
            due("spread over none, " + v, x.opens(0, 0), 0);
            due("shade stays at " + v, x.told(3), 5);
            was = v;
        }
        due("spread 0", x.set(0, 0), OUTSIDE);
        due("spread 10", x.set(0, 10), OUTSIDE);
        due("spread is still 9", x.set(0, 1), 9);
    }

    /** "SHADE (0 to 9; 5 at first)" */
    private void shade() {
        with("A00s B00s");
        x.table(0, true);
        due("shade at first", x.opens(0, 0), 5);
        int was = 5;
        for (int v = 0; v < 10; v++) {
            due("shade " + v, x.set(1, v), was);
            due("told shade " + v, x.told(3), v);
            due("shaded by " + v, x.opens(0, 0), v);
            due("spread stays at " + v, x.told(2), 2);
            was = v;
        }
        due("shade -1", x.set(1, -1), OUTSIDE);
        due("shade 10", x.set(1, 10), OUTSIDE);
        due("set 2", x.set(2, 5), OUTSIDE);
        due("set -1", x.set(-1, 5), OUTSIDE);
        due("shade is still 9", x.set(1, 0), 9);
    }

    /** "SLOW by seconds (0 to 9)"; the latest of all, 9 places by 9, shade 9, slow 9 */
    private void slow() {
        with("");
        for (int v = 0; v < 10; v++) {
            due("slow " + v, x.stand(0, 0, v, 0, false), 1);
            due("told slow " + v, x.told(21), v);
            due("opens, slow " + v, x.opens(0, 0), v);
        }
        due("slow -1", x.stand(0, 0, -1, 0, false), OUTSIDE);
        due("slow 10", x.stand(0, 0, 10, 0, false), OUTSIDE);
        due("slow is still 9", x.told(21), 9);
        x.set(0, 9);
        x.set(1, 9);
        x.table(0, true);
        due("latest", x.opens(0, 9), 99);
        due("latest of all rules", x.rules(9, 0), 1);
        due("latest of all, when", x.rules(9, 1), 99);
    }

    /** "of a PARTY (0 silk, 1 cotton)" */
    private void parties() {
        with("");
        due("silk", x.stand(0, 0, 0, 0, false), 1);
        due("A is silk", x.told(22), 0);
        due("party -1", x.stand(0, 0, 0, -1, false), OUTSIDE);
        due("cotton", x.stand(5, 0, 0, 1, false), 2);
        due("F is cotton", x.told(72), 1);
        due("party 2", x.stand(5, 0, 0, 2, false), OUTSIDE);
        due("silk rules by half", x.chance(6, 1), 2);
        due("cotton rules by half", x.chance(7, 1), 2);
    }

    /** "An object is used for at most 512 calls after it has been made" */
    private void callsOfOneObject() {
        x = new UmbrellaVote();
        x.stand(0, 4, 3, 0, false);
        x.stand(5, 4, 3, 1, false);
        for (int call = 3; call < 512; call += 3) {
            due("call " + call, x.rests(-1), 4);
            due("call " + (call + 1), x.image(call % 2), 1);
            due("call " + (call + 2), x.restore(call % 2), 1);
        }
        due("call 513 at most", x.rests(3), 55);
    }

    // ---- 1 who opens

    private void umbrellas() {
        holes();
        regencies();
        byOneSecond();
        nobodyOpens();
        opening();
        never();
    }

    /** "who has a HOLE never does"; opens: "NONE: never" */
    private void holes() {
        with("A00sh B99c");
        for (int place = 0; place < 10; place++) {
            due("hole, over " + place, x.opens(0, place), NONE);
            due("the slowest without, over " + place, x.rules(place, 0), 2);
        }
        due("hole: no chance", x.chance(0, 0), 0);
        due("hole: the other has all", x.chance(1, 1), 1);
    }

    /** "Those who OPEN first of all RULE, together, if they are several (a REGENCY, as bits)" */
    private void regencies() {
        with(ALL_AT_4);
        for (int place = 0; place < 10; place++) {
            due("six over " + place, x.rules(place, 0), 63);
        }
        due("six, when", x.rules(4, 1), 0);
        Votes.stand(x, "A41s F41s");
        due("four of six", x.rules(4, 0), 30);
        with("A30s F70s");
        due("from both sides", x.rules(5, 0), 33);
        due("from both sides, when", x.rules(5, 1), 4);
    }

    /** "first of all": by one second, and who comes later in the row of people may be ahead */
    private void byOneSecond() {
        with("A31s F70s");
        due("F is first", x.rules(5, 0), 32);
        due("F is first, when", x.rules(5, 1), 4);
        with("A30s F71s");
        due("A is first", x.rules(5, 0), 1);
        with("A32s C70s F71s");
        due("the middle is first", x.rules(5, 0), 4);
    }

    /** "NONE: nobody OPENS" */
    private void nobodyOpens() {
        with("");
        nobodyIsThere("nobody opens");
        with("A00sh F90ch");
        for (int place = 0; place < 10; place++) {
            due("all holes: rules " + place, x.rules(place, 0), NONE);
            due("all holes: when " + place, x.rules(place, 1), NONE);
        }
        due("all holes: silk", x.chance(6, 0), 0);
        due("all holes: silk by", x.chance(6, 1), 1);
        due("all holes: A by", x.chance(0, 1), 1);
        due("all holes: no what", x.rules(0, 2), OUTSIDE);
    }

    /** "When a PERSON who is there OPENS"; "UNKNOWN: both" */
    private void opening() {
        with("F91s");
        due("opens at 0", x.opens(5, 0), 19);
        due("opens at 9", x.opens(5, 9), 1);
        due("opens at 10", x.opens(5, 10), UNKNOWN);
        due("opens at -1", x.opens(5, -1), UNKNOWN);
        due("opens: E is not there", x.opens(4, 0), UNKNOWN);
        due("opens: no seventh", x.opens(6, 0), UNKNOWN);
        Votes.stand(x, "F91sh");
        due("opens: a hole, but no such place", x.opens(5, 10), UNKNOWN);
    }

    /** "NEVER: who there is and RULES (alone or with others) by no RAIN, as bits" */
    private void never() {
        with("A00s");
        due("never: alone", x.never(), 0);
        with(ALL_AT_4);
        due("never: together with others", x.never(), 0);
        Votes.stand(x, "A41s F49s");
        due("never: a second behind", x.never(), 33);
        with("A00sh B10sh C20sh D30sh E40sh F50sh");
        due("never: all", x.never(), 63);
        with("A89s F00s");
        due("never: too late over 9, too", x.never(), 0);
        x.stand(5, 8, 8, 0, false);
        due("never: a second behind everywhere", x.never(), 1);
        x.stand(0, 9, 9, 0, false);
        due("never: but by rain over 9", x.never(), 0);
        x.weight(9, 0);
        due("never: rain over a place without weight is rain", x.never(), 0);
        with("A09s F18s");
        due("never: but by rain over 0", x.never(), 0);
    }

    // ---- 1 the pad

    private void pads() {
        signsSaid();
        padOf40();
        wiping();
    }

    /** "signs (codes 33 to 126)" */
    private void signsSaid() {
        for (int from = 33; from <= 126; from += 40) {
            with("");
            for (int sign = from; sign < from + 40 && sign <= 126; sign++) {
                due("say " + sign, x.say(sign), sign - from + 1);
            }
        }
        due("say 32", x.say(32), OUTSIDE);
        due("say 127", x.say(127), OUTSIDE);
        due("say the least", x.say(LEAST), OUTSIDE);
        due("say the greatest", x.say(MOST), OUTSIDE);
        due("signs behind refusals", x.told(0), 14);
    }

    /** "a PAD of up to 40 signs"; "how many"; "FULL" */
    private void padOf40() {
        with("A00s", SIGNS_40.substring(1));
        due("39 signs", x.told(0), 39);
        due("the 40th", x.say('.'), 40);
        due("the 41st", x.say('.'), FULL);
        due("40 signs", x.told(0), 40);
        due("no fault in 40", x.fault(), NONE);
        due("the 40th is a year", x.years(0), 1);
        due("and no more", x.reign(41), OUTSIDE);
    }

    /** "Signs go: how many there were." */
    private void wiping() {
        with("A00s", SIGNS_40);
        due("wipe 40", x.wipe(), 40);
        due("wipe none", x.wipe(), 0);
        due("no signs: no fault", x.fault(), NONE);
        due("no signs: no parts", x.reign(1), OUTSIDE);
        due("the first again", x.say('!'), 1);
        due("its fault", x.fault(), 1);
        due("wipe one", x.wipe(), 1);
        due("no fault is left", x.fault(), NONE);
    }

    // ---- 1 the fault

    private void faults() {
        faultOfNoSigns();
        firstSigns();
        secondSigns('!', '0', '9');
        secondSigns('-', '1', '9');
        secondSigns('~', 'A', 'F');
        faultPlaces();
        moreMustCome();
    }

    private void fault(String text, int want) {
        with("", text);
        due("fault of " + text, x.fault(), want);
    }

    /** "(without signs there is none)" */
    private void faultOfNoSigns() {
        fault("", NONE);
        due("no signs: reign", x.reign(-1), NONE);
        due("no signs: behind none", x.reign(0), NONE);
        due("no signs: years", x.years(8), 0);
    }

    /** "PARTS: a digit, ! and a digit, - and a digit 1 to 9, . , ~ and a letter A to F" */
    private void firstSigns() {
        with("");
        for (char sign = 33; sign <= 126; sign++) {
            x.say(sign);
            boolean part = sign >= '0' && sign <= '9' || sign == '.';
            boolean begins = sign == '!' || sign == '-' || sign == '~';
            due("fault of " + sign, x.fault(), part ? NONE : begins ? 1 : 0);
            x.wipe();
        }
    }

    private void secondSigns(char first, char least, char most) {
        with("");
        for (char sign = 33; sign <= 126; sign++) {
            x.say(first);
            x.say(sign);
            due("fault of " + first + sign, x.fault(), sign >= least && sign <= most ? NONE : 1);
            x.wipe();
        }
    }

    /** "the place (from 0 on) of the first sign that can not stand there" */
    private void faultPlaces() {
        fault("A", 0);
        fault("AA", 0);
        fault("0A", 1);
        fault("!0A!", 2);
        fault("~F!", 3);
        fault("~FF", 2);
        fault("!00", NONE);
        fault("-99", NONE);
        fault("-90-0", 4);
        fault("!A!A", 1);
        fault("!!0", 1);
        fault("~~A", 1);
        fault("--1", 1);
        fault("-.", 1);
        with("", SIGNS_40.substring(1));
        x.say('x');
        due("fault of the last of 40", x.fault(), 39);
        with("", "x" + SIGNS_40);
        due("fault of the first of 40", x.fault(), 0);
        with("", SIGNS_40.substring(2) + "-0");
        due("fault of a pair's second, the last of 40", x.fault(), 39);
    }

    /** "or the number of signs, if more must come" */
    private void moreMustCome() {
        fault("!", 1);
        fault("-", 1);
        fault("~", 1);
        fault("0!", 2);
        fault("!0-", 3);
        fault("!0-1~", 5);
        with("", SIGNS_40.substring(1) + "!");
        due("more than 40 must come", x.fault(), 40);
        due("but none can", x.say('0'), FULL);
        with("", SIGNS_40.substring(2) + "!0");
        due("40 are enough", x.fault(), NONE);
        with("", "!");
        x.say('9');
        due("it came", x.fault(), NONE);
    }

    // ---- 1 chronicles

    private void chronicles() {
        rainOverEachPlace();
        sprinklerOverEachPlace();
        sprinklerAsAbove();
        droughts();
        yearGoesBy();
        windsOfEachLetter();
        windsForGood();
        windsOfRegencies();
        windsOfWhoIsNotThere();
        whoOpensFirstRulesInstead();
        nobodyOpensChangesNothing();
        secondsAnew();
    }

    /** The reign behind a text. */
    private void reign(String people, String text, int want) {
        with(people, text);
        due("reign of " + people + " behind " + text, x.reign(-1), want);
    }

    /** Years of a text: those of A to F, of silk, of cotton, of nobody, and the reigns. */
    private void years(String people, String text, int... want) {
        with(people, text);
        for (int of = 0; of < 10; of++) {
            due("years of " + of + " of " + people + " in " + text, x.years(of), want[of]);
        }
    }

    /** "a digit (RAIN begins over that PLACE)" */
    private void rainOverEachPlace() {
        for (int place = 0; place < 10; place++) {
            reign(HALVES, "" + place, place < 5 ? 1 : 2);
            reign("A00s F90s", "" + place, place < 5 ? 1 : 32);
        }
    }

    /** "! and a digit (a sprinkler over that PLACE alone: who stands there OPENS; nobody else does)" */
    private void sprinklerOverEachPlace() {
        for (int place = 0; place < 10; place++) {
            for (int at = 0; at < 10; at++) {
                for (int person = 0; person < 6; person++) {
                    char letter = (char) ('A' + person);
                    reign(letter + "" + at + "0s", "!" + place, at == place ? 1 << person : NONE);
                }
            }
        }
        // Who stands next to it and is quicker opens as little as who stands far away.
        for (int person = 0; person < 6; person++) {
            with("A40s B40s C40s D40s E40s F40s", "!5");
            x.stand(person, 5, 9, 0, false);
            due("the slow one alone, " + person, x.reign(-1), 1 << person);
            due("the slow one's coup, " + person, x.coup(person), 5);
        }
    }

    /** "as above": slow ones later, together if as slow, never with a hole */
    private void sprinklerAsAbove() {
        reign("A41s B41s C42s D40sh E50s", "!4", 3);
        reign("A41sh B41s C42s", "!4", 2);
        reign("A40sh", "!4", NONE);
        reign("A40s F30s", "3!4", 1);
        with("A49s B50s", "!4");
        x.table(4, true);
        due("a sprinkler over a table", x.reign(-1), 1);
    }

    /** "- and a digit 1 to 9 (a drought: nobody RULES from then on, so many years go by)" */
    private void droughts() {
        for (int n = 1; n < 10; n++) {
            years("A00s", "0.-" + n, 1, 0, 0, 0, 0, 0, 1, 0, n, 1);
        }
        reign("A00s", "0-1", NONE);
        years("A00s", "-9-9-9-9-9-9-9-9-9-9-9-9-9-9-9-9-9-9-9-9", 0, 0, 0, 0, 0, 0, 0, 0, 180, 0);
        years("A00s", "0-1.", 0, 0, 0, 0, 0, 0, 0, 0, 2, 1);
        fault("-0", 1);
    }

    /** ". (a year goes by)" */
    private void yearGoesBy() {
        years("A00s", ".", 0, 0, 0, 0, 0, 0, 0, 0, 1, 0);
        years("A00s", "0", 0, 0, 0, 0, 0, 0, 0, 0, 0, 1);
        years("A00s", "0.", 1, 0, 0, 0, 0, 0, 1, 0, 0, 1);
        years("A00s", "........................................", 0, 0, 0, 0, 0, 0, 0, 0, 40, 0);
        years("F09c", "0.......................................", 0, 0, 0, 0, 0, 39, 0, 39, 0, 1);
    }

    /** "~ and a letter A to F" */
    private void windsOfEachLetter() {
        for (int person = 0; person < 6; person++) {
            char letter = (char) ('A' + person);
            reign(ALL_AT_4, "4~" + letter, 63 - (1 << person));
            reign(ALL_AT_4, "~" + letter + "4", 63 - (1 << person));
            reign(letter + "40s", "4~" + letter, NONE);
        }
        fault("~@", 1);
        fault("~G", 1);
    }

    /** "that PERSON has a HOLE from then on, and RULES no more" */
    private void windsForGood() {
        reign("A00s", "~A0", NONE);
        reign("A00s", "~A!0", NONE);
        reign("A00s", "0~A", NONE);
        reign("A00s", "0~A0", NONE);
        reign("A00s", "~A-90", NONE);
        reign("A00s B99s", "0~A0", 2);
        reign("A00sh B99s", "0~A", 2);
        years("A00s", "0.~A.0.", 1, 0, 0, 0, 0, 0, 1, 0, 2, 1);
        reign("A00s B00s C00s D00s E00s F00s", "0~A~B~C~D~E~F0", NONE);
    }

    /** "others of its REGENCY go on" */
    private void windsOfRegencies() {
        reign("A00s B00c", "0~A", 2);
        reign("A00s B00c", "0~B", 1);
        reign("A00s B00c", "0~A~B", NONE);
        years("A00s B00c", "0.~A.~A.~B.", 1, 3, 0, 0, 0, 0, 1, 3, 1, 2);
    }

    /** "of who is not there nothing" */
    private void windsOfWhoIsNotThere() {
        reign("A00s", "0~B", 1);
        reign("A00s", "~F0", 1);
        reign("", "~A0", NONE);
        years("A00s", "0.~B.~F.", 3, 0, 0, 0, 0, 0, 3, 0, 0, 1);
        with("A00s", "~B");
        due("B is still not there", x.told(30), OUTSIDE);
        x.stand(1, 0, 0, 0, false);
        due("nor has it a hole when it comes", x.told(33), 0);
    }

    /** "By a RAIN or a sprinkler who OPENS first RULES from then on, instead of who did" */
    private void whoOpensFirstRulesInstead() {
        reign(HALVES, "09", 2);
        reign(HALVES, "90", 1);
        reign(HALVES, "9!2", 1);
        reign("A20s B30s C70s", "2!37", 4);
        years(HALVES, "0.9.0.", 2, 1, 0, 0, 0, 0, 2, 1, 0, 3);
    }

    /** "one that makes nobody OPEN changes nothing" */
    private void nobodyOpensChangesNothing() {
        reign(HALVES, "0!5", 1);
        reign(HALVES, "9!5", 2);
        reign(HALVES, "!5", NONE);
        reign(HALVES, "0!0", 1);
        reign("A20s B90ch", "2!9", 1);
        reign("A20s B90c", "2~B!9", 1);
        reign("A20sh", "2", NONE);
        years(HALVES, "0.!5.", 2, 0, 0, 0, 0, 0, 2, 0, 0, 1);
        years("", "0.!0.", 0, 0, 0, 0, 0, 0, 0, 0, 2, 0);
    }

    /** "seconds are counted anew": an earlier rain is no help to who would be late */
    private void secondsAnew() {
        reign(HALVES, "4444444444444444444444444444444444444445", 2);
        reign("A09s B99s", "45", 2);
    }

    // ---- 2 reigns and years

    private void reignsAndYears() {
        nobodyAhead();
        behindSoManyParts();
        partsOfTwoSigns();
        fortyParts();
        yearsOfWhom();
        bothPartiesMay();
        reignsCounted();
        faultAhead();
        nothingDone();
    }

    /** "nobody RULING ahead of it" */
    private void nobodyAhead() {
        with(HALVES, "0");
        due("behind no part", x.reign(0), NONE);
        due("behind all", x.reign(-1), 1);
        due("again behind no part", x.reign(0), NONE);
        due("rules by fact, but not in the chronicle", x.rules(0, 0), 1);
        years(HALVES, ".0", 0, 0, 0, 0, 0, 0, 0, 0, 1, 1);
    }

    /** "behind so many PARTS of the CHRONICLE (-1: all)"; "OUTSIDE: -1 to as many as there are" */
    private void behindSoManyParts() {
        with(HALVES, "0.9");
        int[] want = {2, NONE, 1, 1, 2};
        for (int parts = -1; parts <= 3; parts++) {
            due("behind " + parts + " of 3", x.reign(parts), want[parts + 1]);
        }
        due("behind 4 of 3", x.reign(4), OUTSIDE);
        due("behind -2 of 3", x.reign(-2), OUTSIDE);
        due("behind the most", x.reign(MOST), OUTSIDE);
        due("behind the least", x.reign(LEAST), OUTSIDE);
        with(HALVES);
        due("behind none of none", x.reign(0), NONE);
        due("behind all of none", x.reign(-1), NONE);
        due("behind 1 of none", x.reign(1), OUTSIDE);
    }

    private void partsOfTwoSigns() {
        with("A20s B70s C70s", "!2-1!7~B~C");
        int[] want = {NONE, NONE, 1, NONE, 6, 4, NONE};
        for (int parts = -1; parts <= 5; parts++) {
            due("behind " + parts + " of 5 pairs", x.reign(parts), want[parts + 1]);
        }
        due("behind 6 of 5 pairs", x.reign(6), OUTSIDE);
        due("behind 10 signs", x.reign(10), OUTSIDE);
    }

    private void fortyParts() {
        with(HALVES, SIGNS_40.substring(1) + "9");
        due("behind 39 of 40", x.reign(39), 1);
        due("behind 40 of 40", x.reign(40), 2);
        due("behind 41 of 40", x.reign(41), OUTSIDE);
        with(HALVES, SIGNS_40.substring(2) + "!7");
        due("behind 38 of 39", x.reign(38), 1);
        due("behind 39 of 39", x.reign(39), 2);
        due("behind 40 of 39", x.reign(40), OUTSIDE);
    }

    /** "YEARS of a PERSON (0 to 5), of a PARTY (6 silk, 7 cotton), of nobody (8); REIGNS (9). OUTSIDE" */
    private void yearsOfWhom() {
        with(HALVES, ".0.9..-30");
        int[] want = {OUTSIDE, 1, 2, 0, 0, 0, 0, 1, 2, 4, 3, OUTSIDE};
        for (int of = -1; of <= 10; of++) {
            due("years of " + of, x.years(of), want[of + 1]);
        }
        due("years of the most", x.years(MOST), OUTSIDE);
        due("years of the least", x.years(LEAST), OUTSIDE);
        years("F00c", "0.", 0, 0, 0, 0, 0, 1, 0, 1, 0, 1);
        years("", "", 0, 0, 0, 0, 0, 0, 0, 0, 0, 0);
    }

    /** "(of a REGENCY each has them)", "of a PARTY (a PERSON of it RULES; both may)" */
    private void bothPartiesMay() {
        years("A00s B00c", "0.", 1, 1, 0, 0, 0, 0, 1, 1, 0, 1);
        years("A00s B00s", "0.", 1, 1, 0, 0, 0, 0, 1, 0, 0, 1);
        years("A00c B00c C00s D01s E00sh", "0..", 2, 2, 2, 0, 0, 0, 2, 2, 0, 1);
        years("A00c B00c C00c D00c E00c F00c", "0.", 1, 1, 1, 1, 1, 1, 0, 1, 0, 1);
    }

    /** "REIGNS (each time that who RULES, as bits, becomes another set than it was, not nobody)" */
    private void reignsCounted() {
        reigns(HALVES, "", 0);
        reigns(HALVES, "0", 1);
        reigns(HALVES, "000!2.0", 1);
        reigns(HALVES, "09090", 5);
        reigns(HALVES, "0-1", 1);
        reigns(HALVES, "0-10", 2);
        reigns(HALVES, "-1-1", 0);
        reigns(HALVES, "0~A", 1);
        reigns("A00s B00s", "0~A", 2);
        reigns("A00s B00s", "0~A0", 2);
        reigns("A00s B00s", "0~A~B", 2);
        reigns("A00s B00s", "0~C", 1);
        reigns("A00s B00s C91s", "0909", 4);
        reigns(HALVES, "0909090909090909090909090909090909090909", 40);
    }

    private void reigns(String people, String text, int want) {
        with(people, text);
        due("reigns of " + people + " in " + text, x.years(9), want);
    }

    /** "NO (ahead): there is a FAULT" */
    private void faultAhead() {
        for (String text : new String[] {"x", "!", "0!", "-0", "~G", "0.9.x"}) {
            with(HALVES, text);
            due("reign of " + text, x.reign(-1), NO);
            due("reign of " + text + ", ahead of outside", x.reign(99), NO);
            due("reign of " + text + ", ahead of outside below", x.reign(-2), NO);
            due("reign of " + text + ", behind none", x.reign(0), NO);
            due("years of " + text, x.years(8), NO);
            due("years of " + text + ", ahead of outside", x.years(10), NO);
            due("years of " + text + ", ahead of outside below", x.years(-1), NO);
            x.wipe();
            due("reign of none", x.reign(-1), NONE);
            due("years of none, outside", x.years(10), OUTSIDE);
        }
    }

    /** "(Nothing is done in fact: HOLES of winds, too.)" */
    private void nothingDone() {
        with(HALVES, "0.~A~B");
        due("behind the winds", x.reign(-1), NONE);
        due("years of A", x.years(0), 1);
        due("no hole", x.told(23), 0);
        due("A opens", x.opens(0, 2), 1);
        due("A has its chance", x.chance(0, 1), 2);
        due("nobody is never to rule", x.never(), 0);
        due("the text told again", x.years(0), 1);
        due("behind its rain", x.reign(1), 1);
        due("a year by draws", x.year(0, 6, 0), 5);
    }

    // ---- 3 weights, chances

    private void weightsAndChances() {
        weights();
        weightsAllTogether();
        chanceOfNBy();
        chanceOfParties();
        lowestTerms();
        partsOfFractions();
    }

    /** "WEIGHT of a PLACE (0 to 9; 1 each at first)"; "which it was" */
    private void weights() {
        with("");
        for (int place = 0; place < 10; place++) {
            due("weight at first, told, " + place, x.told(10 + place), 1);
            int was = 1;
            for (int v = 0; v < 10; v++) {
                due("weight of " + place + " to " + v, x.weight(place, v), was);
                due("told weight of " + place + ", " + v, x.told(10 + place), v);
                was = v;
            }
            due("weight of " + place + " to 10", x.weight(place, 10), OUTSIDE);
            due("weight of " + place + " to -1", x.weight(place, -1), OUTSIDE);
            due("weight of " + place + " is still 9", x.told(10 + place), 9);
        }
        due("no place 10", x.weight(10, 1), UNKNOWN);
        due("no place -1", x.weight(-1, 1), UNKNOWN);
    }

    /** "OUTSIDE: all together 1 at least" */
    private void weightsAllTogether() {
        for (int last = 0; last < 10; last++) {
            with("A00s");
            for (int place = 0; place < 10; place++) {
                due("weight away", x.weight(place, place == last ? 1 : 0), 1);
            }
            due("the last away", x.weight(last, 0), OUTSIDE);
            due("the last is there", x.told(10 + last), 1);
            due("the last heavier", x.weight(last, 9), 1);
            due("the last still may not go", x.weight(last, 0), OUTSIDE);
            due("0 stays 0", x.weight((last + 1) % 10, 0), 0);
            due("it rains there", x.chance(0, 0), 1);
            due("another comes", x.weight((last + 1) % 10, 1), 0);
            due("the last goes", x.weight(last, 0), 9);
        }
    }

    /** "(of a REGENCY of n each by n)" */
    private void chanceOfNBy() {
        with("");
        for (int n = 1; n <= 6; n++) {
            x.stand(n - 1, 4, 0, 0, false);
            for (int person = 0; person < n; person++) {
                due("chance of " + person + " of " + n, x.chance(person, 0), 1);
                due("chance of " + person + " of " + n + " by", x.chance(person, 1), n);
            }
            due("chance of silk, " + n, x.chance(6, 1), 1);
        }
        // Six by rain over 0 to 4, five of them over 5, where F comes as early, too: all together there.
        Votes.stand(x, "F60s");
        due("five at 4, one at 6: one of five over 0 to 4, of six over 5", x.chance(0, 0), 7);
        due("five at 4, one at 6, by", x.chance(0, 1), 60);
        due("F: a sixth over 5, all over 6 to 9", x.chance(5, 0), 5);
        due("F by", x.chance(5, 1), 12);
    }

    /** "of a PARTY (of a REGENCY by how many of it are of the PARTY)" */
    private void chanceOfParties() {
        with("A40s B40c C40c D40c E40c F40c");
        due("silk, one of six", x.chance(6, 0), 1);
        due("silk, one of six, by", x.chance(6, 1), 6);
        due("cotton, five of six", x.chance(7, 0), 5);
        due("cotton, five of six, by", x.chance(7, 1), 6);
        Votes.stand(x, "F40ch E40sh");
        due("silk, one of four", x.chance(6, 1), 4);
        due("cotton, three of four", x.chance(7, 0), 3);
        with("A00s");
        due("all is silk's", x.chance(6, 0), 1);
        due("all is silk's, by", x.chance(6, 1), 1);
        due("none is cotton's", x.chance(7, 0), 0);
        due("none is cotton's, by", x.chance(7, 1), 1);
        due("of 8", x.chance(8, 0), GONE + UNKNOWN);
        due("of -1", x.chance(-1, 0), GONE + UNKNOWN);
        due("of B, who is not there", x.chance(1, 0), GONE + UNKNOWN);
        with("");
        due("silk of nobody", x.chance(6, 0), 0);
        due("silk of nobody, by", x.chance(6, 1), 1);
        due("cotton of nobody, by", x.chance(7, 1), 1);
    }

    /** "Fractions are told in lowest terms" */
    private void lowestTerms() {
        with(HALVES);
        Votes.weigh(x, "9999999999");
        due("45 of 90", x.chance(0, 0), 1);
        due("45 of 90, by", x.chance(0, 1), 2);
        Votes.weigh(x, "9999899999");
        due("44 of 89", x.chance(0, 0), 44);
        due("44 of 89, by", x.chance(0, 1), 89);
        due("45 of 89", x.chance(1, 0), 45);
        due("45 of 89, by", x.chance(1, 1), 89);
        Votes.weigh(x, "0000100000");
        due("1 of 1", x.chance(0, 0), 1);
        due("1 of 1, by", x.chance(0, 1), 1);
        due("0 of 1", x.chance(1, 0), 0);
        due("0 of 1, by", x.chance(1, 1), 1);
        with("A40s B40s C40s D40s E40s F60s");
        Votes.weigh(x, "9999999998");
        due("a fifth of 45, a sixth of 9, of 89", x.chance(0, 0), 21);
        due("a fifth of 45, a sixth of 9, of 89, by", x.chance(0, 1), 178);
        due("a sixth of 9, all of 35, of 89", x.chance(5, 0), 73);
        due("a sixth of 9, all of 35, of 89, by", x.chance(5, 1), 178);
    }

    /** "by part: 0 the upper, 1 the lower number; refused with GONE and the refusal" */
    private void partsOfFractions() {
        with("A40s B40s");
        due("upper", x.chance(0, 0), 1);
        due("lower", x.chance(0, 1), 2);
        due("part 2", x.chance(0, 2), -1000000000000000002L);
        due("part -1", x.chance(0, -1), -1000000000000000002L);
        due("of who is not there", x.chance(2, 0), -1000000000000000001L);
        due("upper of the best", x.bestChance(0, 0), 1);
        due("lower of the best", x.bestChance(0, 1), 2);
        due("part 2 of the best", x.bestChance(0, 2), -1000000000000000002L);
        due("part -1 of the best", x.bestChance(0, -1), -1000000000000000002L);
        due("the best of who is not there", x.bestChance(2, 0), -1000000000000000001L);
    }

    // ---- 3 where to stand

    private void stands() {
        firstOfEqual();
        greatestChance();
        atThePlacesThereAre();
        othersAsTheyAre();
    }

    private void best(String people, String weights, int person, int place, int upper, int lower) {
        with(people);
        Votes.weigh(x, weights);
        String name = "best of " + person + " of " + people + " by " + weights;
        due(name, x.best(person), place);
        due(name + ", upper", x.bestChance(person, 0), upper);
        due(name + ", lower", x.bestChance(person, 1), lower);
    }

    /** "the greatest CHANCE, the first" */
    private void firstOfEqual() {
        best("A90s", "1111111111", 0, 0, 1, 1);
        best("A99sh", "1111111111", 0, 0, 0, 1);
        best("A90sh B00s", "1111111111", 0, 0, 0, 1);
        best("A99s B40s", "0000100000", 0, 0, 0, 1);
        // On both sides of the middle alike: the first of two.
        best("A90s B40s", "0101010100", 0, 3, 1, 2);
        best("F00s", "0000000009", 5, 0, 1, 1);
    }

    private void greatestChance() {
        best("A00s B90s", "0000000001", 0, 9, 1, 2);
        best("A90s B00s", "1000000000", 0, 0, 1, 2);
        best("A01s B00s", "1111111111", 0, 1, 9, 10);
        best("A00s B01s", "1111111111", 0, 0, 1, 1);
        // From 4 on A is at 8 and 9 a second ahead of B; at 3 a second behind it over both.
        best("A90s B89s", "9999999999", 0, 4, 1, 1);
    }

    /** There is no place beside 0 and 9 without a table, where one could open sooner. */
    private void atThePlacesThereAre() {
        for (int end = 0; end < 10; end += 9) {
            with("A40s B" + end + "0s");
            Votes.weigh(x, end == 0 ? "1000000000" : "0000000001");
            for (int place = 0; place < 10; place++) {
                x.table(place, true);
            }
            due("best under tables at the end " + end, x.best(0), end);
            due("best under tables, upper", x.bestChance(0, 0), 1);
            due("best under tables, lower", x.bestChance(0, 1), 2);
            due("rests under tables", x.rests(-1), 1);
            due("rests under tables at the end " + end, x.rests(0), 11 * end);
        }
    }

    /** "others as they are": where they stand, how slow they are, under which tables; the PERSON as it is, too */
    private void othersAsTheyAre() {
        best(HALVES, "1111111111", 0, 6, 7, 10);
        due("B is where it was", x.told(30), 7);
        due("A is where it was", x.told(20), 2);
        due("A is as slow", x.told(21), 1);
        x.table(6, true);
        due("not under the table", x.best(0), 5);
        x.table(6, false);
        x.stand(0, 2, 4, 0, false);
        // Slower by three seconds than B: over a place it must be two nearer.
        due("a slow one keeps away", x.best(0), 5);
        due("a slow one's chance", x.bestChance(0, 0), 3);
        due("a slow one's chance, by", x.bestChance(0, 1), 5);
    }

    // ---- 3 rests

    private void allRests() {
        restsOfNobody();
        restsOfSomeAndOfMore();
        restsInOrder();
        restsByDigits();
        noneWouldHaveMore();
    }

    /** "(when nobody is there one, 0)" */
    private void restsOfNobody() {
        with("");
        due("rests of nobody", x.rests(-1), 1);
        due("rests of nobody, 0", x.rests(0), 0);
        due("rests of nobody, 1", x.rests(1), NONE);
        due("rests of nobody, the most", x.rests(MOST), NONE);
        Votes.weigh(x, "0000000001");
        due("rests of nobody, by weights", x.rests(-1), 1);
    }

    /** "all who are there (3 at most)"; "FULL: more than 3 are there" */
    private void restsOfSomeAndOfMore() {
        with("");
        int[] rows = {1, 10, 100, 1000, FULL, FULL, FULL};
        for (int n = 0; n <= 6; n++) {
            due("rests of " + n + " with holes", x.rests(-1), rows[n]);
            due("rests of " + n + ", the first", x.rests(0), n > 3 ? FULL : 0);
            due("rests of " + n + ", no such", x.rests(1000), n > 3 ? FULL : NONE);
            if (n < 6) {
                x.stand(5 - n, n, n, n % 2, true);
            }
        }
        x.leave(0);
        x.leave(2);
        due("rests of four", x.rests(-1), FULL);
        x.leave(5);
        due("rests of three again", x.rests(-1), 1000);
    }

    /** "how many (i = -1), the i-th; NONE", "rising" */
    private void restsInOrder() {
        with("A00sh B00sh C00sh");
        for (int i = 0; i < 1000; i += 37) {
            due("rest " + i + " of 1000", x.rests(i), i);
        }
        due("the last of 1000", x.rests(999), 999);
        due("behind the last of 1000", x.rests(1000), NONE);
        with("D43s F43c");
        int[] want = {4, 44, 45, 54, 55, NONE, NONE};
        for (int i = -1; i < 6; i++) {
            due("rest " + i + " of 4", x.rests(i), want[i + 1]);
        }
        due("rest of the most", x.rests(MOST), NONE);
        due("rest -2", x.rests(-2), NONE);
        due("rest of the least", x.rests(LEAST), NONE);
    }

    /** "by digits as a number (the first PERSON's highest)" */
    private void restsByDigits() {
        // It rains over 6 alone: two with good umbrellas both stand there; with a hole or alone one stands anywhere.
        digits("A00s", 10, 0, 9);
        digits("F00sh", 10, 0, 9);
        digits("A00s F00sh", 100, 0, 99);
        digits("D00s E00s", 1, 66, 66);
        digits("A00s B00s C00sh", 10, 660, 669);
        digits("A00s C00sh F00s", 10, 606, 696);
        digits("F00s E00s A00sh", 10, 66, 966);
        digits("F00s B00s D00s", 1, 666, 666);
        // B is too slow to have any of it: it alone may stand anywhere.
        digits("A00s B09s C00s", 10, 606, 696);
        digits("D00s E09s F00s", 10, 606, 696);
        digits("B09s D00s F00s", 10, 66, 966);
        digits("A00s E00s F09s", 10, 660, 669);
        // A quick one has all by standing four places away at most; the slow one beside it gets nothing.
        digits("C00s F09s", 80, 20, 99);
        digits("E09s F00s", 80, 2, 99);
    }

    private void digits(String people, int many, int first, int last) {
        with(people);
        Votes.weigh(x, "0000001000");
        due("rests of " + people, x.rests(-1), many);
        due("first rest of " + people, x.rests(0), first);
        due("last rest of " + people, x.rests(many - 1), last);
        due("behind the last rest of " + people, x.rests(many), NONE);
    }

    /** "by which none would have more CHANCE at another PLACE" */
    private void noneWouldHaveMore() {
        with("B00s E00s");
        Votes.weigh(x, "1000000001");
        // Over 0 and over 9 one each: a half each, wherever they stand, but none may give way to the other.
        due("rests by both ends", x.rests(-1), 100);
        due("rests by both ends, first", x.rests(0), 0);
        due("rests by both ends, last", x.rests(99), 99);
        Votes.weigh(x, "2000000001");
        due("rests by one heavier end", x.rests(-1), 1);
        due("rests by one heavier end, first", x.rests(0), 0);
        x.table(0, true);
        due("rests by a table at the heavier end", x.rests(0), 11);
        x.set(1, 0);
        due("rests by a table without shade", x.rests(0), 0);
        giveWay();
    }

    /** Three by a weight of 8 over 0: to the third a 4 over 9 is as much as a third of all, wherever it has it. */
    private void giveWay() {
        with("A00s C00s F00s");
        Votes.weigh(x, "8000000004");
        due("rests of all at one end, or two of them", x.rests(-1), 28);
        due("all at one end", x.rests(0), 0);
        for (int place = 1; place < 10; place++) {
            due("F gives way to " + place, x.rests(place), place);
            due("C gives way to " + place, x.rests(place + 9), 10 * place);
            due("A gives way to " + place, x.rests(place + 18), 100 * place);
        }
        x.weight(9, 3);
        due("rests where 3 is less than a third of 11", x.rests(-1), 1);
        due("all at one end again", x.rests(0), 0);
        x.weight(9, 5);
        // Who is not at 9 itself would lose the 5 there to one of the two.
        due("rests where 5 is more than a third of 13, and than a half of 8", x.rests(-1), 3);
        due("F goes to the other end", x.rests(0), 9);
        due("C goes to the other end", x.rests(1), 90);
        due("A goes to the other end", x.rests(2), 900);
    }

    // ---- 3 coups

    private void coups() {
        coupAtEachPlace();
        nobodyElseWithIt();
    }

    /** "the sprinkler over the least PLACE that makes a PERSON RULE" */
    private void coupAtEachPlace() {
        for (int place = 0; place < 10; place++) {
            with("F" + place + "9s");
            due("coup at " + place, x.coup(5), place);
            x.table(place, true);
            due("coup under a table at " + place, x.coup(5), place);
            due("coup of who is not there", x.coup(0), UNKNOWN);
        }
    }

    /** "nobody else with it; NONE" */
    private void nobodyElseWithIt() {
        with("A41s B41s");
        due("coup with another", x.coup(0), NONE);
        due("coup of the other", x.coup(1), NONE);
        Votes.stand(x, "B42s");
        due("coup a second ahead", x.coup(0), 4);
        due("coup a second behind", x.coup(1), NONE);
        Votes.stand(x, "B40s");
        due("coup of the slower", x.coup(0), NONE);
        Votes.stand(x, "B50s");
        due("coup beside a quick one", x.coup(0), 4);
        Votes.stand(x, "B40sh");
        due("coup beside a hole", x.coup(0), 4);
        due("coup of a hole", x.coup(1), NONE);
        Votes.stand(x, "B91sh");
        due("coup of a hole alone", x.coup(1), NONE);
        x.weight(4, 0);
        due("coup over a place without weight", x.coup(0), 4);
    }

    // ---- 3 quick

    private void quicks() {
        fractionsAsked();
        greatestSlow();
        atLeast();
    }

    /** "(b 1 to 100, a 0 to b)" */
    private void fractionsAsked() {
        with("A45s");
        due("0 by 1", x.quick(0, 0, 1), 9);
        due("1 by 1", x.quick(0, 1, 1), 9);
        due("0 by 100", x.quick(0, 0, 100), 9);
        due("100 by 100", x.quick(0, 100, 100), 9);
        due("2 by 1", x.quick(0, 2, 1), OUTSIDE);
        due("101 by 100", x.quick(0, 101, 100), OUTSIDE);
        due("-1 by 1", x.quick(0, -1, 1), OUTSIDE);
        due("-1 by 100", x.quick(0, -1, 100), OUTSIDE);
        due("0 by 0", x.quick(0, 0, 0), OUTSIDE);
        due("0 by -1", x.quick(0, 0, -1), OUTSIDE);
        due("-1 by -1", x.quick(0, -1, -1), OUTSIDE);
        due("0 by 101", x.quick(0, 0, 101), OUTSIDE);
        due("the most by the most", x.quick(0, MOST, MOST), OUTSIDE);
        due("the least by the least", x.quick(0, LEAST, LEAST), OUTSIDE);
        due("1 by 1 of who is not there", x.quick(1, 1, 1), UNKNOWN);
    }

    /** "the greatest SLOW (0 to 9)"; "NONE" */
    private void greatestSlow() {
        for (int slow = 0; slow < 9; slow++) {
            with("A49s B4" + slow + "s");
            due("a half beside slow " + slow, x.quick(0, 1, 2), slow);
            due("all beside slow " + slow, x.quick(0, 1, 1), slow == 0 ? NONE : slow - 1);
            due("A is as slow as it was", x.told(21), 9);
        }
        with("A40s B49s");
        due("a half beside slow 9", x.quick(0, 1, 2), 9);
        due("all beside slow 9", x.quick(0, 1, 1), 8);
        with("A40sh");
        due("a hole, 0 by 100", x.quick(0, 0, 100), 9);
        due("a hole, 1 by 100", x.quick(0, 1, 100), NONE);
    }

    /** "a CHANCE of a by b at least" */
    private void atLeast() {
        with(HALVES);
        due("1 by 2", x.quick(0, 1, 2), 2);
        due("50 by 100", x.quick(0, 50, 100), 2);
        due("51 by 100", x.quick(0, 51, 100), NONE);
        due("49 by 100", x.quick(0, 49, 100), 2);
        due("45 by 100", x.quick(0, 45, 100), 3);
        due("46 by 100", x.quick(0, 46, 100), 2);
        due("44 by 99", x.quick(0, 44, 99), 3);
        Votes.weigh(x, "9999999999");
        due("heavy, 50 by 100", x.quick(0, 50, 100), 2);
        due("heavy, 51 by 100", x.quick(0, 51, 100), NONE);
        x.leave(1);
        due("heavy, alone, 100 by 100", x.quick(0, 100, 100), 9);
    }

    // ---- 4 sights

    private void sights() {
        sixSights();
        sightsOfSets();
        sightsOfPeople();
        howsOfSights();
        sightsGo();
        fitsOfAllPlaces();
    }

    /** "SIGHTS, 6 at most"; "how many"; "FULL" */
    private void sixSights() {
        with(HALVES);
        for (int i = 1; i <= 6; i++) {
            due("sight " + i, x.seen(i % 3, 1), i);
        }
        due("sight 7, a set", x.seen(0, 1), FULL);
        due("sight 7, a person", x.seen(1, 1), FULL);
        due("sight 7, not", x.seen(2, 1), FULL);
        due("six sights", x.told(5), 6);
        // The sixth counts as the first does.
        with(HALVES);
        for (int i = 1; i <= 5; i++) {
            x.seen(1, 0);
        }
        due("five sights of A", x.fits(), 31);
        x.seen(1, 1);
        due("the sixth of B", x.fits(), 0);
    }

    /** "of a set, as bits"; "OUTSIDE: the set 0 to 63" */
    private void sightsOfSets() {
        for (int set = 0; set < 64; set++) {
            with("");
            for (int person = 0; person < 6; person++) {
                if ((set >> person) % 2 == 1) {
                    x.stand(person, 4, 0, 0, false);
                }
            }
            due("set " + set, x.seen(0, set), 1);
            due("just those, " + set, x.fits(), 1023);
            x.forget();
            x.seen(0, set ^ 1);
            due("A too many or too few, " + set, x.fits(), 0);
            x.forget();
            x.seen(0, set ^ 32);
            due("F too many or too few, " + set, x.fits(), 0);
        }
        due("set 64", x.seen(0, 64), OUTSIDE);
        due("set -1", x.seen(0, -1), OUTSIDE);
    }

    /** "UNKNOWN: the PERSON is not 0 to 5 (it need not be there)" */
    private void sightsOfPeople() {
        for (int person = 0; person < 6; person++) {
            with("");
            due("was, " + person, x.seen(1, person), 1);
            due("who is not there was not", x.fits(), 0);
            x.stand(person, 9, 9, 0, false);
            due("who came was", x.fits(), 1023);
            x.forget();
            due("was not, " + person, x.seen(2, person), 1);
            due("who came was, not was not", x.fits(), 0);
            x.leave(person);
            due("who went was not", x.fits(), 1023);
        }
        due("was, -1", x.seen(1, -1), UNKNOWN);
        due("was, 6", x.seen(1, 6), UNKNOWN);
        due("was not, -1", x.seen(2, -1), UNKNOWN);
        due("was not, 6", x.seen(2, 6), UNKNOWN);
    }

    /** "OUTSIDE: how" */
    private void howsOfSights() {
        with(HALVES);
        due("how -1", x.seen(-1, 0), OUTSIDE);
        due("how 3", x.seen(3, 0), OUTSIDE);
        due("how of the most", x.seen(MOST, 5), OUTSIDE);
        due("how of the least", x.seen(LEAST, 5), OUTSIDE);
        // No PERSON is asked for where how is none, so that there is no unknown one.
        due("how 3 of 6", x.seen(3, 6), OUTSIDE);
        due("how -1 of -1", x.seen(-1, -1), OUTSIDE);
        due("none was taken", x.forget(), 0);
        due("how 0", x.seen(0, 2), 1);
        due("just B", x.fits(), 992);
        x.forget();
        due("how 1", x.seen(1, 1), 1);
        due("B was", x.fits(), 992);
        x.forget();
        due("how 2", x.seen(2, 1), 1);
        due("B was not", x.fits(), 31);
    }

    /** "SIGHTS go: how many there were." */
    private void sightsGo() {
        with(HALVES);
        due("forget none", x.forget(), 0);
        for (int i = 0; i < 6; i++) {
            x.seen(0, 0);
        }
        due("forget six", x.forget(), 6);
        due("forget none again", x.forget(), 0);
        due("all fits again", x.fits(), 1023);
        due("the first again", x.seen(0, 1), 1);
        due("it alone", x.fits(), 31);
    }

    /** "PLACES over which the RAIN can have begun, as bits 0 to 9 (those of WEIGHT 0, too)" */
    private void fitsOfAllPlaces() {
        with("");
        due("fits of nobody without sights", x.fits(), 1023);
        for (int place = 0; place < 10; place++) {
            with(around(place));
            x.seen(1, 0);
            due("fits of place " + place, x.fits(), 1 << place);
        }
        with("A00s B20s C70s D90s");
        x.seen(0, 1);
        due("fits of bit 0", x.fits(), 1);
        x.forget();
        x.seen(0, 8);
        due("fits of bit 9", x.fits(), 512);
        Votes.weigh(x, "0000100000");
        due("fits of bit 9, without weight", x.fits(), 512);
        x.forget();
        due("fits of all, nearly all without weight", x.fits(), 1023);
        x.seen(0, 3);
        due("fits of bit 1, without weight, a regency", x.fits(), 2);
        x.seen(1, 2);
        due("fits of no place", x.fits(), 0);
    }

    // ---- 4 a year

    private void yearsByDraws() {
        seeds();
        rains();
        yearOfWhom();
        leftOver();
        nobodyInAYear();
        yearReigns();
    }

    /** "a seed (0 to 9999)"; "x, the seed at first, becomes (75 x and 74) left over by 65537" */
    private void seeds() {
        with("A40s B20s C90s");
        // 0 to 74, place 4; 9999 to 749999 and so to 29092, place 2; 1 to 149, place 9.
        due("seed 0", x.year(0, 1, 0), 1);
        due("seed 9999", x.year(9999, 1, 1), 1);
        due("seed 1", x.year(1, 1, 2), 1);
        due("seed -1", x.year(-1, 1, 0), OUTSIDE);
        due("seed 10000", x.year(10000, 1, 0), OUTSIDE);
        due("seed of the most", x.year(MOST, 1, 0), OUTSIDE);
        due("seed of the least", x.year(LEAST, 1, 0), OUTSIDE);
    }

    /** "n RAINS (1 to 99)" */
    private void rains() {
        with("A40s");
        for (int n = 1; n < 100; n++) {
            due("rains " + n, x.year(7, n, 0), n);
        }
        due("rains 0", x.year(7, 0, 0), OUTSIDE);
        due("rains 100", x.year(7, 100, 0), OUTSIDE);
        due("rains -1", x.year(7, -1, 0), OUTSIDE);
        due("rains of the most", x.year(7, MOST, 0), OUTSIDE);
        due("rains of the least", x.year(7, LEAST, 0), OUTSIDE);
    }

    /** "how many times a PERSON RULES (0 to 5), nobody (6), REIGNS (7). OUTSIDE." */
    private void yearOfWhom() {
        with("A21s F71c");
        // From 0 over the places 4, 4, 2, 0, 1, 9.
        int[] want = {OUTSIDE, 5, 0, 0, 0, 0, 1, 0, 2, OUTSIDE, OUTSIDE};
        for (int of = -1; of <= 9; of++) {
            due("year of " + of, x.year(0, 6, of), want[of + 1]);
        }
        due("year of the most", x.year(0, 6, MOST), OUTSIDE);
        due("year of the least", x.year(0, 6, LEAST), OUTSIDE);
    }

    /** "left over by 65537": 872 becomes 65474, place 4; 873 becomes 12, place 2 (and not 65549, place 9) */
    private void leftOver() {
        with("A20s B40s C90s");
        due("ahead of the wrap", x.year(872, 1, 1), 1);
        due("behind the wrap", x.year(873, 1, 0), 1);
        due("behind the wrap, not as without", x.year(873, 1, 2), 0);
        // 12 becomes 974, place 4, and that 73124, so 7587, place 7.
        due("on from the wrap", x.year(873, 2, 1), 1);
        due("on to the next", x.year(873, 3, 2), 1);
        long now = 9999;
        int[] counts = new int[10];
        for (int i = 0; i < 99; i++) {
            now = (75 * now + 74) % 65537;
            counts[(int) (now % 10)]++;
        }
        for (int place = 0; place < 10; place++) {
            with(around(place));
            due("rains over " + place, x.year(9999, 99, 0), counts[place]);
        }
    }

    /** "nobody ruling at first; a RAIN by which nobody OPENS changes nothing, and counts for who RULES still" */
    private void nobodyInAYear() {
        with("");
        due("nobody there, nobody rules", x.year(5, 99, 6), 99);
        due("nobody there, no reign", x.year(5, 99, 7), 0);
        due("nobody there, not A", x.year(5, 99, 0), 0);
        with("A00sh F90ch");
        due("all holes, nobody rules", x.year(5, 99, 6), 99);
        due("all holes, no reign", x.year(5, 99, 7), 0);
        due("all holes, not A", x.year(5, 99, 0), 0);
        with("A00s");
        due("A rules behind the first", x.year(5, 1, 0), 1);
        due("nobody rules behind none", x.year(5, 1, 6), 0);
        due("nobody rules behind none of 99", x.year(5, 99, 6), 0);
    }

    /** "how many REIGNS there are (as above)"; of a REGENCY each RULES */
    private void yearReigns() {
        with("A00s B00c");
        due("one reign of two", x.year(5, 99, 7), 1);
        due("A of two", x.year(5, 99, 0), 99);
        due("B of two", x.year(5, 99, 1), 99);
        with(HALVES);
        due("one reign behind one", x.year(0, 1, 7), 1);
        due("one reign behind five of the same", x.year(0, 5, 7), 1);
        due("two behind six", x.year(0, 6, 7), 2);
        x.weight(4, 0);
        due("weights do not matter to draws", x.year(0, 6, 0), 5);
        with("A00s B20s");
        // Over 4, 4, 2, 0, 1, 9: B, B, B, A, both, B.
        due("a regency is another set", x.year(0, 6, 7), 4);
        due("A of it", x.year(0, 6, 0), 2);
        due("B of it", x.year(0, 6, 1), 5);
    }

    // ---- 4 images

    private void images() {
        imageNumbers();
        allButThePad();
        eachSightIsKept();
        asItWasWhenItWasKept();
    }

    /** "kept in an IMAGE (0, 1): 1. OUTSIDE." "OUTSIDE; STATE: it was not." */
    private void imageNumbers() {
        with(HALVES);
        due("image -1", x.image(-1), OUTSIDE);
        due("image 2", x.image(2), OUTSIDE);
        due("image of the most", x.image(MOST), OUTSIDE);
        due("image of the least", x.image(LEAST), OUTSIDE);
        due("restore -1", x.restore(-1), OUTSIDE);
        due("restore 2", x.restore(2), OUTSIDE);
        due("restore of the most", x.restore(MOST), OUTSIDE);
        due("restore of the least", x.restore(LEAST), OUTSIDE);
        due("none kept in 0", x.restore(0), STATE);
        due("none kept in 1", x.restore(1), STATE);
        due("image 1", x.image(1), 1);
        due("still none in 0", x.restore(0), STATE);
        due("one in 1", x.restore(1), 1);
        due("image 0", x.image(0), 1);
        due("one in 0", x.restore(0), 1);
    }

    /** "All but the PAD" */
    private void allButThePad() {
        with("", "0.");
        due("an image of nobody", x.image(0), 1);
        Votes.stand(x, "A12c B23s C34c D45s E56ch F67s");
        for (int place = 0; place < 10; place++) {
            x.table(place, true);
        }
        Votes.weigh(x, "9876543210");
        x.set(0, 9);
        x.set(1, 0);
        for (int i = 0; i < 6; i++) {
            x.seen(0, 32);
        }
        due("an image of all", x.image(1), 1);
        String all = told();
        int fits = x.fits();
        due("back to nobody", x.restore(0), 1);
        due("the pad is as it is", x.told(0), 2);
        Votes.write(x, "!4");
        nobodyIsThere("of the image");
        due("spread of the image", x.told(2), 2);
        due("shade of the image", x.told(3), 5);
        due("tables of the image", x.told(4), 0);
        due("sights of the image", x.told(5), 0);
        due("weight of the image", x.told(19), 1);
        Votes.stand(x, "A00s B00s C00s D00c E00c F00c");
        x.seen(2, 0);
        x.seen(1, 5);
        due("back to all", x.restore(1), 1);
        checks.due("all of the image", told().equals(all));
        due("sights fit as they did", x.fits(), fits);
        due("the pad is as it is, still", x.wipe(), 4);
        due("back once more", x.restore(1), 1);
        due("no pad comes back", x.told(0), 0);
    }

    /** All that is told of all but the pad. */
    private String told() {
        StringBuilder all = new StringBuilder();
        for (int what = 1; what < 80; what++) {
            all.append(x.told(what)).append(' ');
        }
        return all.toString();
    }

    /** "All but the PAD is kept": of six sights the one that tells, the last as the first */
    private void eachSightIsKept() {
        for (int telling = 0; telling < 6; telling++) {
            with(HALVES);
            for (int i = 0; i < 6; i++) {
                x.seen(i == telling ? 1 : 2, i == telling ? 0 : 5);
            }
            x.image(0);
            x.forget();
            for (int i = 0; i < 6; i++) {
                x.seen(0, 2);
            }
            x.image(1);
            due("other sights", x.fits(), 992);
            x.restore(0);
            due("six sights", x.told(5), 6);
            due("sight " + telling + " of the image", x.fits(), 31);
            x.restore(1);
            due("other sights of the other image", x.fits(), 992);
            x.forget();
            due("a sight more behind the image's", x.restore(0) + x.seen(0, 0), 1 + FULL);
        }
    }

    /** "It is as it was when it was kept" */
    private void asItWasWhenItWasKept() {
        with("A00s");
        x.image(0);
        x.stand(0, 9, 9, 1, true);
        x.image(1);
        x.restore(0);
        due("as in 0", x.told(20), 0);
        x.stand(0, 5, 5, 1, true);
        x.weight(0, 7);
        x.seen(0, 0);
        x.restore(0);
        due("the image did not change with it", x.told(20), 0);
        due("nor its weights", x.told(10), 1);
        due("nor its sights", x.told(5), 0);
        due("1 is still kept", x.restore(1), 1);
        due("as in 1", x.told(20), 9);
        due("kept anew", x.image(0), 1);
        x.leave(0);
        due("nobody", x.told(1), 0);
        due("back to the newer", x.restore(0), 1);
        due("as in the newer 0", x.told(20), 9);
    }

    // ---- 4 told

    private void tellings() {
        toldAll();
        toldOfWhoIsThere();
        toldOfEachPerson();
    }

    /** "0 signs, 1 PEOPLE, 2 SPREAD, 3 SHADE, 4 TABLES, 5 SIGHTS, 10 on WEIGHTS" */
    private void toldAll() {
        with("B50s F60c", "0.9");
        x.set(0, 7);
        x.set(1, 8);
        x.table(0, true);
        x.table(9, true);
        x.seen(1, 1);
        x.seen(1, 2);
        Votes.weigh(x, "0123456789");
        int[] want = {OUTSIDE, 3, 34, 7, 8, 513, 2, OUTSIDE, OUTSIDE, OUTSIDE, OUTSIDE, 0, 1, 2, 3, 4, 5, 6, 7, 8, 9};
        for (int what = -1; what < 20; what++) {
            due("told " + what, x.told(what), want[what + 1]);
        }
        due("told of the most", x.told(MOST), OUTSIDE);
        due("told of the least", x.told(LEAST), OUTSIDE);
    }

    /** "20 and 10 times a PERSON who is there: 0 its PLACE, 1 SLOW, 2 its PARTY, 3 a HOLE (1, 0). OUTSIDE." */
    private void toldOfWhoIsThere() {
        with("A19ch F98s");
        int[] ofA = {1, 9, 1, 1};
        int[] ofF = {9, 8, 0, 0};
        for (int what = 20; what < 100; what++) {
            int person = (what - 20) / 10;
            int part = what % 10;
            int want = part > 3 ? OUTSIDE : person == 0 ? ofA[part] : person == 5 ? ofF[part] : OUTSIDE;
            due("told " + what, x.told(what), want);
        }
        x.leave(5);
        for (int part = 0; part < 4; part++) {
            due("told of F, who went, " + part, x.told(70 + part), OUTSIDE);
        }
    }

    /** "2 its PARTY, 3 a HOLE": either without the other, of each PERSON; told alike by 0 and 1 */
    private void toldOfEachPerson() {
        for (int person = 0; person < 6; person++) {
            for (int kind = 0; kind < 4; kind++) {
                int party = kind % 2;
                boolean hole = kind > 1;
                with("A00s B11c C22sh D33ch E44c F55s");
                x.stand(person, 7, 8, party, hole);
                int at = 20 + 10 * person;
                due("place of " + person, x.told(at), 7);
                due("slow of " + person, x.told(at + 1), 8);
                due("party of " + person + ", kind " + kind, x.told(at + 2), party);
                due("hole of " + person + ", kind " + kind, x.told(at + 3), hole ? 1 : 0);
                due("no fifth of " + person, x.told(at + 4), OUTSIDE);
                due("all are there", x.told(1), 63);
            }
        }
    }
}
