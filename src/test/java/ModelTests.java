import java.util.List;
import java.util.Random;

/** Runs by a seeded random choice, each answer compared with the plain model's. */
public final class ModelTests {
    private static final int RUNS = 400;

    private ModelTests() {
    }

    public static void main(String[] args) {
        for (int run = 0; run < RUNS; run++) {
            new ModelTests().run(run);
        }
        Checks.end("ModelTests");
    }

    private void run(int run) {
        Random random = new Random(run);
        ArchivistTricks x = new ArchivistTricks();
        PlainModel model = new PlainModel();
        compare(run, x, model);
        for (int game = 0; game < 3; game++) {
            long seed = random.nextInt(4) == 0 ? random.nextInt(5) - 2 : random.nextLong();
            Checks.due("run " + run + ": deal(" + seed + ")", model.deal(seed), x.deal(seed));
            compare(run, x, model);
            // Some games are given up for the next deal.
            int plays = random.nextInt(5) == 0 ? random.nextInt(42) : 42;
            for (int i = 0; i < plays; i++) {
                gloves(run, x, model, random);
                ending(run, x, model, random);
                move(run, x, model, random);
                compare(run, x, model);
            }
        }
    }

    private void move(int run, ArchivistTricks x, PlainModel model, Random random) {
        int wrong = random.nextInt(42);
        if (model.whyNot(wrong) != 0) {
            Checks.throwing("run " + run + ": play(" + wrong + ")",
                    IllegalStateException.class, () -> x.play(wrong));
        }
        List<Integer> playable = model.playable();
        // Mildew is held back, so that it often comes to the end.
        int card = playable.get(random.nextInt(playable.size()));
        if (card >= 40 && random.nextInt(4) != 0) {
            card = playable.get(0);
        }
        Checks.due("run " + run + ": play(" + card + ")", model.play(card), x.play(card));
    }

    private void gloves(int run, ArchivistTricks x, PlainModel model, Random random) {
        if (random.nextInt(12) != 0) {
            return;
        }
        if (model.turn >= 0 && model.gloves[model.turn] == 0) {
            model.gloves[model.turn] = 1;
            Checks.due("run " + run + ": putOnGloves()", model.turn, x.putOnGloves());
            compare(run, x, model);
        } else {
            Checks.throwing("run " + run + ": putOnGloves()",
                    IllegalStateException.class, () -> x.putOnGloves());
        }
    }

    private void ending(int run, ArchivistTricks x, PlainModel model, Random random) {
        if (model.turn < 0 || !model.pile.isEmpty()) {
            Checks.throwing("run " + run + ": best()",
                    IllegalStateException.class, () -> x.best());
            Checks.throwing("run " + run + ": bestCard()",
                    IllegalStateException.class, () -> x.bestCard());
        } else if (random.nextInt(3) != 0) {
            String at = "run " + run + ", " + model.hands + " led " + model.led
                    + " trumps " + model.trumps + ": ";
            Checks.due(at + "best()", model.best(), x.best());
            Checks.due(at + "bestCard()", model.bestCard(), x.bestCard());
        }
    }

    private void compare(int run, ArchivistTricks x, PlainModel model) {
        String at = "run " + run + ": ";
        Checks.due(at + "isPlaying()", model.turn >= 0, x.isPlaying());
        Checks.due(at + "turn()", model.turn, x.turn());
        Checks.due(at + "led()", model.led, x.led());
        Checks.due(at + "trumps()", model.trumps, x.trumps());
        Checks.due(at + "pile()", model.pile.size(), x.pile());
        Checks.due(at + "choices()", model.playable().size(), x.choices());
        Checks.due(at + "wonByFirst()", model.won[0], x.wonByFirst());
        Checks.due(at + "wonBySecond()", model.won[1], x.wonBySecond());
        for (int a = 0; a < 2; a++) {
            compareArchivist(at, a, x, model);
        }
        for (int card = 0; card < 42; card++) {
            compareCard(at, card, x, model);
        }
    }

    private void compareArchivist(String at, int a, ArchivistTricks x, PlainModel model) {
        Checks.due(at + "cards(" + a + ")", model.hands.get(a).size(), x.cards(a));
        Checks.due(at + "points(" + a + ")", model.points[a], x.points(a));
        Checks.due(at + "tricks(" + a + ")", model.tricks[a], x.tricks(a));
        Checks.due(at + "gloves(" + a + ")", model.gloves[a], x.gloves(a));
        int place = 0;
        for (int card : model.hands.get(a)) {
            Checks.due(at + "cardAt(" + a + ", " + place + ")", card, x.cardAt(a, place));
            place++;
        }
        int past = place;
        Checks.throwing(at + "cardAt(" + a + ", " + past + ")",
                IndexOutOfBoundsException.class, () -> x.cardAt(a, past));
    }

    private void compareCard(String at, int card, ArchivistTricks x, PlainModel model) {
        Checks.due(at + "placeOf(" + card + ")", model.placeOf(card), x.placeOf(card));
        Checks.due(at + "whyNot(" + card + ")", model.whyNot(card), x.whyNot(card));
        if (model.led < 0 || model.led == card) {
            Checks.throwing(at + "wouldTake(" + card + ")",
                    IllegalStateException.class, () -> x.wouldTake(card));
        } else {
            int want = model.leadKeeps(model.led, card) ? 1 - model.turn : model.turn;
            Checks.due(at + "wouldTake(" + card + ")", want, x.wouldTake(card));
        }
    }
}
