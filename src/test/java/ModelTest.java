import java.util.Random;

/** Long mixed runs of calls, right and wrong ones, in each of which the class and the model must agree. */
public final class ModelTest {
    private static final int OBJECTS = 400, CALLS = 512;
    private static final int[] STRANGE = {Integer.MIN_VALUE, -1000, -7, -2, -1, 6, 7, 10, 64, 100, 1000, Integer.MAX_VALUE};

    private final Checks checks;
    private final Random random;
    private final int run;
    private final int crowd;
    private final UmbrellaVote vote = new UmbrellaVote();
    private final Model model = new Model();

    private ModelTest(Checks checks, int run) {
        this.checks = checks;
        this.run = run;
        random = new Random(run);
        crowd = run % 3 == 0 ? 6 : 3;
    }

    public static void main(String[] args) {
        Checks checks = new Checks();
        for (int run = 0; run < OBJECTS && checks.wrong() < 20; run++) {
            ModelTest test = new ModelTest(checks, run);
            for (int call = 0; call < CALLS && checks.wrong() < 20; call++) {
                test.call(call);
            }
        }
        checks.end();
    }

    /** A number that is allowed, or now and then one that is not, or one near the edge. */
    private int some(int least, int most) {
        int kind = random.nextInt(40);
        if (kind == 0) {
            return STRANGE[random.nextInt(STRANGE.length)];
        }
        if (kind < 3) {
            return random.nextBoolean() ? least - 1 : most + 1;
        }
        return least + random.nextInt(most - least + 1);
    }

    private int person() {
        int name = some(0, crowd - 1);
        return crowd == 3 && name >= 0 && name < 3 ? 2 * name + run % 2 : name;
    }

    private int sign() {
        String signs = "0123456789!!!!----....~~~~ABCDEF";
        return random.nextInt(25) == 0 ? some(33, 126) : signs.charAt(random.nextInt(signs.length()));
    }

    private void due(int call, String name, long got, long want, int... arguments) {
        StringBuilder text = new StringBuilder("run " + run + " call " + call + ": " + name + "(");
        for (int i = 0; i < arguments.length; i++) {
            text.append(i == 0 ? "" : ", ").append(arguments[i]);
        }
        checks.due(text + ")", got, want);
    }

    private void call(int n) {
        int kind = random.nextInt(100);
        if (kind < 30) {
            callStreet(n);
        } else if (kind < 50) {
            callChronicle(n);
        } else if (kind < 75) {
            callChances(n);
        } else {
            callSights(n);
        }
    }

    private void callStreet(int n) {
        int a = person();
        int b = some(0, 9);
        boolean yes = random.nextInt(4) == 0;
        switch (random.nextInt(9)) {
            case 0, 1, 2 -> {
                int slow = some(0, 9);
                int party = some(0, 1);
                due(n, "stand", vote.stand(a, b, slow, party, yes), model.stand(a, b, slow, party, yes), a, b, slow, party, yes ? 1 : 0);
            }
            case 3 -> due(n, "leave", vote.leave(a), model.leave(a), a);
            case 4 -> due(n, "table", vote.table(b, yes), model.table(b, yes), b, yes ? 1 : 0);
            case 5 -> {
                int which = some(0, 1);
                due(n, "set", vote.set(which, b), model.set(which, b), which, b);
            }
            case 6 -> {
                int what = some(0, 1);
                due(n, "rules", vote.rules(b, what), model.rules(b, what), b, what);
            }
            case 7 -> due(n, "opens", vote.opens(a, b), model.opens(a, b), a, b);
            default -> due(n, "never", vote.never(), model.never());
        }
    }

    private void callChronicle(int n) {
        switch (random.nextInt(12)) {
            case 0 -> due(n, "wipe", vote.wipe(), model.wipe());
            case 1 -> due(n, "fault", vote.fault(), model.fault());
            case 2 -> {
                int parts = random.nextInt(3) == 0 ? -1 : some(0, 20);
                due(n, "reign", vote.reign(parts), model.reign(parts), parts);
            }
            case 3, 4 -> {
                int of = some(0, 9);
                due(n, "years", vote.years(of), model.years(of), of);
            }
            case 5 -> writeWhole(n);
            default -> {
                int sign = sign();
                due(n, "say", vote.say(sign), model.say(sign), sign);
            }
        }
    }

    /** A chronicle without a fault, told at once: signs at random seldom stay without one. */
    private void writeWhole(int n) {
        StringBuilder text = new StringBuilder();
        while (text.length() < 39) {
            int digit = random.nextInt(10);
            switch (random.nextInt(8)) {
                case 0, 1 -> text.append('.');
                case 2 -> text.append('!').append(digit);
                case 3 -> text.append('-').append(Math.max(digit, 1));
                case 4 -> text.append('~').append((char) ('A' + random.nextInt(6)));
                default -> text.append(digit);
            }
        }
        UmbrellaVote other = new UmbrellaVote();
        Model otherModel = new Model();
        for (int i = 0; i < 6; i++) {
            int place = random.nextInt(10);
            int slow = random.nextInt(3);
            boolean hole = random.nextInt(6) == 0;
            if (random.nextInt(5) > 0) {
                other.stand(i, place, slow, i % 2, hole);
                otherModel.stand(i, place, slow, i % 2, hole);
            }
        }
        for (char sign : text.toString().toCharArray()) {
            due(n, "say in " + text, other.say(sign), otherModel.say(sign), sign);
        }
        due(n, "fault of " + text, other.fault(), otherModel.fault());
        for (int of = 0; of < 10; of++) {
            due(n, "years of " + text, other.years(of), otherModel.years(of), of);
        }
        for (int parts = -1; parts < 42; parts++) {
            due(n, "reign of " + text, other.reign(parts), otherModel.reign(parts), parts);
        }
    }

    private void callChances(int n) {
        int a = person();
        int part = some(0, 1);
        switch (random.nextInt(16)) {
            case 0, 1, 2 -> {
                int place = some(0, 9);
                int v = random.nextBoolean() ? 0 : some(0, 9);
                due(n, "weight", vote.weight(place, v), model.weight(place, v), place, v);
            }
            case 3, 4 -> due(n, "chance", vote.chance(a, part), model.chance(a, part), a, part);
            case 5, 6 -> {
                int party = some(6, 7);
                due(n, "chance", vote.chance(party, part), model.chance(party, part), party, part);
            }
            case 7, 8 -> due(n, "best", vote.best(a), model.best(a), a);
            case 9, 10 -> due(n, "bestChance", vote.bestChance(a, part), model.bestChance(a, part), a, part);
            case 11 -> callRests(n);
            case 12, 13 -> due(n, "coup", vote.coup(a), model.coup(a), a);
            default -> {
                int b = random.nextBoolean() ? some(1, 100) : some(1, 10);
                int share = b > 0 && b < 101 ? some(0, b) : some(0, 100);
                due(n, "quick", vote.quick(a, share, b), model.quick(a, share, b), a, share, b);
            }
        }
    }

    private void callRests(int n) {
        int i = random.nextBoolean() ? -1 : some(0, random.nextBoolean() ? 3 : 30);
        // The model is slow here: fewer runs ask it.
        if (run % 4 == 1) {
            due(n, "rests", vote.rests(i), model.rests(i), i);
        }
    }

    private void callSights(int n) {
        int image = some(0, 1);
        switch (random.nextInt(16)) {
            case 0, 1, 2 -> {
                int how = some(0, 2);
                int of = how == 0 ? some(0, random.nextBoolean() ? 63 : 3) : some(0, 5);
                due(n, "seen", vote.seen(how, of), model.seen(how, of), how, of);
            }
            case 3 -> due(n, "forget", vote.forget(), model.forget());
            case 4, 5 -> due(n, "fits", vote.fits(), model.fits());
            case 6, 7, 8 -> {
                int seed = some(0, 9999);
                int rains = some(1, 99);
                int of = some(0, 7);
                due(n, "year", vote.year(seed, rains, of), model.year(seed, rains, of), seed, rains, of);
            }
            case 9 -> due(n, "image", vote.image(image), model.image(image), image);
            case 10 -> due(n, "restore", vote.restore(image), model.restore(image), image);
            case 11 -> {
                for (int what = -3; what < 90; what++) {
                    due(n, "told", vote.told(what), model.told(what), what);
                }
            }
            default -> {
                int what = some(0, 80);
                due(n, "told", vote.told(what), model.told(what), what);
            }
        }
    }
}
