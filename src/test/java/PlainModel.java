import java.util.ArrayList;
import java.util.List;
import java.util.TreeSet;

/**
 * The game a second time, written from the document in another form: lists of cards, and a search
 * of every line of play with nothing kept. ModelTests compares the program with it.
 */
final class PlainModel {
    final List<TreeSet<Integer>> hands = List.of(new TreeSet<>(), new TreeSet<>());
    final List<TreeSet<Integer>> taken = List.of(new TreeSet<>(), new TreeSet<>());
    final List<Integer> pile = new ArrayList<>();
    final int[] points = new int[2];
    final int[] tricks = new int[2];
    final int[] gloves = new int[2];
    final int[] won = new int[2];
    int trumps = -1;
    int led = -1;
    int turn = -1;

    int deal(long seed) {
        int[] row = new int[42];
        for (int i = 0; i < 42; i++) {
            row[i] = i;
        }
        long s = seed;
        for (int k = 41; k >= 1; k--) {
            s = s * 6364136223846793005L + 1442695040888963407L;
            int j = (int) Long.remainderUnsigned(s >>> 33, k + 1L);
            int kept = row[j];
            row[j] = row[k];
            row[k] = kept;
        }
        pile.clear();
        for (int a = 0; a < 2; a++) {
            hands.get(a).clear();
            taken.get(a).clear();
            points[a] = 0;
            tricks[a] = 0;
            gloves[a] = 0;
            for (int i = 0; i < 6; i++) {
                hands.get(a).add(row[6 * a + i]);
            }
        }
        for (int i = 13; i < 42; i++) {
            pile.add(row[i]);
        }
        pile.add(row[12]);
        trumps = row[12] >= 40 ? 0 : row[12] / 10;
        led = -1;
        turn = 0;
        return trumps;
    }

    int whyNot(int card) {
        return turn < 0 ? 1 : why(hands.get(turn), card, led, pile.isEmpty());
    }

    private int why(TreeSet<Integer> hand, int card, int lead, boolean empty) {
        if (!hand.contains(card)) {
            return 2;
        }
        if (lead < 0) {
            return card >= 40 && hand.first() < 40 ? 3 : 0;
        }
        if (!empty || lead >= 40) {
            return 0;
        }
        if (holds(hand, lead / 10)) {
            return card / 10 == lead / 10 ? 0 : 4;
        }
        return holds(hand, trumps) && card / 10 != trumps ? 5 : 0;
    }

    private static boolean holds(TreeSet<Integer> hand, int provenance) {
        for (int card : hand) {
            if (card / 10 == provenance) {
                return true;
            }
        }
        return false;
    }

    /** Whether the card that is led keeps the trick. */
    boolean leadKeeps(int lead, int reply) {
        boolean leadMildew = lead >= 40;
        boolean replyMildew = reply >= 40;
        if (leadMildew || replyMildew) {
            return replyMildew;
        }
        if (lead / 10 == reply / 10) {
            return lead % 10 < reply % 10;
        }
        boolean leadTrump = lead / 10 == trumps;
        boolean replyTrump = reply / 10 == trumps;
        return leadTrump == replyTrump || leadTrump;
    }

    static int worth(int card, boolean gloved) {
        return card < 40 ? 10 - card % 10 : gloved ? 0 : -5;
    }

    int play(int card) {
        int player = turn;
        hands.get(player).remove(card);
        if (led < 0) {
            led = card;
            turn = 1 - player;
            return -1;
        }
        int taker = leadKeeps(led, card) ? 1 - player : player;
        points[taker] += worth(led, gloves[taker] == 1) + worth(card, gloves[taker] == 1);
        tricks[taker]++;
        taken.get(taker).add(led);
        taken.get(taker).add(card);
        for (int a = 0; a < 2; a++) {
            if (gloves[a] == 1) {
                gloves[a] = 2;
            }
        }
        led = -1;
        turn = taker;
        for (int i = 0; i < 2 && !pile.isEmpty(); i++) {
            hands.get(i == 0 ? taker : 1 - taker).add(pile.remove(0));
        }
        if (hands.get(0).isEmpty() && hands.get(1).isEmpty()) {
            turn = -1;
            if (points[0] != points[1]) {
                won[points[0] > points[1] ? 0 : 1]++;
            }
        }
        return taker;
    }

    int placeOf(int card) {
        if (trumps < 0) {
            return -1;
        }
        for (int a = 0; a < 2; a++) {
            if (hands.get(a).contains(card)) {
                return a;
            }
            if (taken.get(a).contains(card)) {
                return 4 + a;
            }
        }
        return pile.contains(card) ? 2 : 3;
    }

    List<Integer> playable() {
        List<Integer> found = new ArrayList<>();
        for (int card = 0; card < 42; card++) {
            if (whyNot(card) == 0) {
                found.add(card);
            }
        }
        return found;
    }

    /** The best the archivist 0 can get more than 1 from now on, were this card played now. */
    private int gain(int card, int mover, int lead, boolean worn0, boolean worn1) {
        hands.get(mover).remove(card);
        int value;
        if (lead < 0) {
            value = bestGain(1 - mover, card, worn0, worn1);
        } else {
            int taker = leadKeeps(lead, card) ? 1 - mover : mover;
            boolean gloved = taker == 0 ? worn0 : worn1;
            int got = worth(lead, gloved) + worth(card, gloved);
            value = (taker == 0 ? got : -got) + bestGain(taker, -1, false, false);
        }
        hands.get(mover).add(card);
        return value;
    }

    private int bestGain(int mover, int lead, boolean worn0, boolean worn1) {
        if (hands.get(mover).isEmpty()) {
            return 0;
        }
        int best = mover == 0 ? Integer.MIN_VALUE : Integer.MAX_VALUE;
        for (int card : new ArrayList<>(hands.get(mover))) {
            if (why(hands.get(mover), card, lead, true) == 0) {
                int value = gain(card, mover, lead, worn0, worn1);
                best = mover == 0 ? Math.max(best, value) : Math.min(best, value);
            }
        }
        return best;
    }

    int best() {
        int gain = bestGain(turn, led, gloves[0] == 1, gloves[1] == 1);
        return turn == 0 ? gain : -gain;
    }

    int bestCard() {
        int wanted = best();
        for (int card : playable()) {
            int gain = gain(card, turn, led, gloves[0] == 1, gloves[1] == 1);
            if ((turn == 0 ? gain : -gain) == wanted) {
                return card;
            }
        }
        return -1;
    }
}
