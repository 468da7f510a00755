import java.util.Arrays;

/**
 * A game of tricks for two archivists. ../shared/DOC.md says what each call promises.
 *
 * <p>Sets of cards are bits of a long: the card c is the bit c. Nothing then has to be searched,
 * and no call but the first for the end of a game makes anything.
 */
public final class ArchivistTricks {
    private static final int NONE = -1;
    private static final int CARDS = 42;
    private static final int FIRST_MILDEW = 40;
    private static final int DATES = 10;
    private static final int MILDEW_WORTH = -5;
    private static final int HAND = 6;
    private static final int TURNED_UP = 2 * HAND;

    private static final long ALL_DATED = (1L << FIRST_MILDEW) - 1L;
    private static final long ONE_PROVENANCE = (1L << DATES) - 1L;

    private static final long SEED_FACTOR = 6364136223846793005L;
    private static final long SEED_ADDEND = 1442695040888963407L;
    private static final int SEED_SHIFT = 33;

    private static final int GLOVES_UNUSED = 0;
    private static final int GLOVES_ON = 1;
    private static final int GLOVES_GONE = 2;

    private static final int PLAYABLE = 0;
    private static final int NO_GAME = 1;
    private static final int NOT_HELD = 2;
    private static final int MILDEW_TOO_EARLY = 3;
    private static final int MUST_FOLLOW = 4;
    private static final int MUST_TRUMP = 5;

    private static final int IN_PILE = 2;
    private static final int IS_LED = 3;
    private static final int TAKEN_BY_FIRST = 4;
    private static final int TAKEN_BY_SECOND = 5;

    /** The cards as dealt: the two hands, then the pile in the order in which it is drawn. */
    private final int[] row = new int[CARDS];
    private final Archivist first = new Archivist();
    private final Archivist second = new Archivist();

    /** How many cards of the row have left the pile, or were never in it. */
    private int drawn = CARDS;
    private int trumpProvenance = NONE;
    private int ledCard = NONE;
    private int mover = NONE;
    private int firstWins = 0;
    private int secondWins = 0;

    /** Made when it is first asked for, as its table is large and many objects never need it. */
    private Ending ending = null;
    private boolean endingBegun = false;

    public ArchivistTricks() {
    }

    // ---- the game

    public int deal(long seed) {
        shuffle(seed);
        int turnedUp = row[TURNED_UP];
        putTurnedUpLast();
        first.begin(handFrom(0));
        second.begin(handFrom(HAND));
        drawn = 2 * HAND;
        trumpProvenance = isMildew(turnedUp) ? 0 : turnedUp / DATES;
        ledCard = NONE;
        mover = 0;
        endingBegun = false;
        return trumpProvenance;
    }

    public int play(int card) throws IllegalArgumentException, IllegalStateException {
        if (!isCard(card)) {
            throw new IllegalArgumentException("there is no such card");
        }
        if (reasonAgainst(card) != PLAYABLE) {
            throw new IllegalStateException("the card cannot be played now");
        }
        Archivist player = archivist(mover);
        player.hand &= ~bit(card);
        if (ledCard != NONE) {
            return finishTrick(card);
        }
        ledCard = card;
        mover = 1 - mover;
        return NONE;
    }

    public int putOnGloves() throws IllegalStateException {
        if (mover == NONE) {
            throw new IllegalStateException("there is no game, or it is over");
        }
        Archivist who = archivist(mover);
        if (who.gloves != GLOVES_UNUSED) {
            throw new IllegalStateException("the gloves are on, or gone");
        }
        who.gloves = GLOVES_ON;
        return mover;
    }

    public int whyNot(int card) throws IllegalArgumentException {
        if (!isCard(card)) {
            throw new IllegalArgumentException("there is no such card");
        }
        return reasonAgainst(card);
    }

    // ---- how it stands

    public boolean isPlaying() {
        return mover != NONE;
    }

    public int turn() {
        return mover;
    }

    public int led() {
        return ledCard;
    }

    public int trumps() {
        return trumpProvenance;
    }

    public int pile() {
        return CARDS - drawn;
    }

    public int cards(int archivist) throws IndexOutOfBoundsException {
        if (!isArchivist(archivist)) {
            throw new IndexOutOfBoundsException("there is no such archivist");
        }
        return Long.bitCount(archivist(archivist).hand);
    }

    public int cardAt(int archivist, int place) throws IndexOutOfBoundsException {
        if (!isArchivist(archivist)) {
            throw new IndexOutOfBoundsException("there is no such archivist");
        }
        long hand = archivist(archivist).hand;
        int before = 0;
        for (int card = 0; card < CARDS; card++) {
            if (has(hand, card)) {
                if (before == place) {
                    return card;
                }
                before++;
            }
        }
        throw new IndexOutOfBoundsException("there are not so many cards");
    }

    public int placeOf(int card) throws IllegalArgumentException {
        if (!isCard(card)) {
            throw new IllegalArgumentException("there is no such card");
        }
        if (trumpProvenance == NONE) {
            return NONE;
        }
        if (has(first.hand, card)) {
            return 0;
        }
        if (has(second.hand, card)) {
            return 1;
        }
        if (has(first.taken, card)) {
            return TAKEN_BY_FIRST;
        }
        if (has(second.taken, card)) {
            return TAKEN_BY_SECOND;
        }
        return card == ledCard ? IS_LED : IN_PILE;
    }

    public int points(int archivist) throws IndexOutOfBoundsException {
        if (!isArchivist(archivist)) {
            throw new IndexOutOfBoundsException("there is no such archivist");
        }
        return archivist(archivist).points;
    }

    public int tricks(int archivist) throws IndexOutOfBoundsException {
        if (!isArchivist(archivist)) {
            throw new IndexOutOfBoundsException("there is no such archivist");
        }
        return archivist(archivist).tricks;
    }

    public int gloves(int archivist) throws IndexOutOfBoundsException {
        if (!isArchivist(archivist)) {
            throw new IndexOutOfBoundsException("there is no such archivist");
        }
        return archivist(archivist).gloves;
    }

    public int choices() {
        int count = 0;
        for (int card = 0; card < CARDS; card++) {
            if (reasonAgainst(card) == PLAYABLE) {
                count++;
            }
        }
        return count;
    }

    public int wouldTake(int card) throws IllegalArgumentException, IllegalStateException {
        if (!isCard(card)) {
            throw new IllegalArgumentException("there is no such card");
        }
        if (ledCard == NONE || ledCard == card) {
            throw new IllegalStateException("no card is led, or it is this one");
        }
        return takerBy(card);
    }

    // ---- the end of a game

    public int best() throws IllegalStateException {
        if (!isEnding()) {
            throw new IllegalStateException("the pile is not empty, or no game is on");
        }
        return begunEnding().bestMargin(moversHand(), othersHand(), ledCard, mover, glovesWorn());
    }

    public int bestCard() throws IllegalStateException {
        if (!isEnding()) {
            throw new IllegalStateException("the pile is not empty, or no game is on");
        }
        return begunEnding().lowestBestCard(
                moversHand(), othersHand(), ledCard, mover, glovesWorn());
    }

    public int wonByFirst() {
        return firstWins;
    }

    public int wonBySecond() {
        return secondWins;
    }

    // ---- dealing and drawing

    private void shuffle(long seed) {
        for (int place = 0; place < CARDS; place++) {
            row[place] = place;
        }
        long s = seed;
        for (int k = CARDS - 1; k >= 1; k--) {
            s = s * SEED_FACTOR + SEED_ADDEND;
            exchange(k, (int) ((s >>> SEED_SHIFT) % (k + 1)));
        }
    }

    private void exchange(int place, int other) {
        if (place >= 0 && place < CARDS && other >= 0 && other < CARDS) {
            int card = row[place];
            row[place] = row[other];
            row[other] = card;
        }
    }

    /** The card that is turned up is drawn last: at the row's end the pile is one piece. */
    private void putTurnedUpLast() {
        int turnedUp = row[TURNED_UP];
        System.arraycopy(row, TURNED_UP + 1, row, TURNED_UP, CARDS - TURNED_UP - 1);
        row[CARDS - 1] = turnedUp;
    }

    private long handFrom(int start) {
        long hand = 0L;
        for (int place = 0; place < CARDS; place++) {
            if (place >= start && place < start + HAND) {
                hand |= bit(row[place]);
            }
        }
        return hand;
    }

    private void drawFor(Archivist who) {
        if (drawn >= 0 && drawn < CARDS) {
            who.hand |= bit(row[drawn]);
            drawn++;
        }
    }

    // ---- playing

    private int reasonAgainst(int card) {
        if (mover == NONE) {
            return NO_GAME;
        }
        long hand = moversHand();
        if (!has(hand, card)) {
            return NOT_HELD;
        }
        if (ledCard == NONE) {
            return reasonAgainstLeading(hand, card);
        }
        return drawn < CARDS
                ? PLAYABLE
                : reasonAgainstReplying(hand, card, ledCard, trumpProvenance);
    }

    private int takerBy(int reply) {
        return beats(reply, ledCard, trumpProvenance) ? mover : 1 - mover;
    }

    private int finishTrick(int reply) {
        int takerNumber = takerBy(reply);
        Archivist taker = archivist(takerNumber);
        boolean gloved = taker.gloves == GLOVES_ON;
        taker.points += worth(ledCard, gloved) + worth(reply, gloved);
        taker.tricks++;
        taker.taken |= bit(ledCard) | bit(reply);
        first.loseWornGloves();
        second.loseWornGloves();
        ledCard = NONE;
        drawFor(taker);
        drawFor(archivist(1 - takerNumber));
        mover = takerNumber;
        if ((first.hand | second.hand) == 0L) {
            endGame();
        }
        return takerNumber;
    }

    private void endGame() {
        mover = NONE;
        if (first.points > second.points) {
            firstWins++;
        } else if (second.points > first.points) {
            secondWins++;
        }
    }

    // ---- who has what

    private Archivist archivist(int number) {
        return number == 0 ? first : second;
    }

    private long moversHand() {
        return archivist(mover).hand;
    }

    private long othersHand() {
        return archivist(1 - mover).hand;
    }

    private int glovesWorn() {
        return (first.gloves == GLOVES_ON ? 1 : 0) | (second.gloves == GLOVES_ON ? 2 : 0);
    }

    private boolean isEnding() {
        return mover != NONE && drawn >= CARDS;
    }

    private Ending begunEnding() {
        if (ending == null) {
            ending = new Ending();
        }
        if (!endingBegun) {
            ending.begin(first.hand, second.hand, trumpProvenance);
            endingBegun = true;
        }
        return ending;
    }

    // ---- the rules of the cards

    private static boolean isCard(int card) {
        return card >= 0 && card < CARDS;
    }

    private static boolean isArchivist(int archivist) {
        return archivist == 0 || archivist == 1;
    }

    private static boolean isMildew(int card) {
        return card >= FIRST_MILDEW;
    }

    private static long bit(int card) {
        return 1L << card;
    }

    private static boolean has(long set, int card) {
        return (set >>> card & 1L) != 0L;
    }

    private static long allOf(int provenance) {
        return ONE_PROVENANCE << (provenance * DATES);
    }

    private static int worth(int card, boolean gloved) {
        if (isMildew(card)) {
            return gloved ? 0 : MILDEW_WORTH;
        }
        return DATES - card % DATES;
    }

    private static boolean beats(int reply, int lead, int trump) {
        if (isMildew(reply)) {
            return false;
        }
        if (isMildew(lead)) {
            return true;
        }
        if (reply / DATES == lead / DATES) {
            return reply < lead;
        }
        return reply / DATES == trump;
    }

    private static int reasonAgainstLeading(long hand, int card) {
        return isMildew(card) && (hand & ALL_DATED) != 0L ? MILDEW_TOO_EARLY : PLAYABLE;
    }

    /** Holds only when the pile is empty: before that anything may be played to a lead. */
    private static int reasonAgainstReplying(long hand, int card, int lead, int trump) {
        if (isMildew(lead)) {
            return PLAYABLE;
        }
        long following = hand & allOf(lead / DATES);
        if (following != 0L) {
            return has(following, card) ? PLAYABLE : MUST_FOLLOW;
        }
        long trumping = hand & allOf(trump);
        if (trumping != 0L) {
            return has(trumping, card) ? PLAYABLE : MUST_TRUMP;
        }
        return PLAYABLE;
    }

    /** What one of the two has, has got, and wears. */
    private static final class Archivist {
        long hand = 0L;
        long taken = 0L;
        int points = 0;
        int tricks = 0;
        int gloves = GLOVES_UNUSED;

        void begin(long dealt) {
            hand = dealt;
            taken = 0L;
            points = 0;
            tricks = 0;
            gloves = GLOVES_UNUSED;
        }

        void loseWornGloves() {
            if (gloves == GLOVES_ON) {
                gloves = GLOVES_GONE;
            }
        }
    }

    /**
     * The rest of one game with an empty pile. A margin is how many points more than the other one
     * an archivist gets from some moment on. Different orders of play come to the same hands, so
     * what is known of hands between two tricks, when gloves are of no account any more, is kept
     * until the next game.
     */
    private static final class Ending {
        private static final int UNKNOWN = 1000;
        private static final int BELOW_ALL = -1000;
        private static final int MOST_CARDS = 2 * HAND;

        private final int[] margins = new int[2 << (2 * HAND)];
        private long firstAll = 0L;
        private long secondAll = 0L;
        private int trump = 0;

        void begin(long firstHand, long secondHand, int trumpProvenance) {
            firstAll = firstHand;
            secondAll = secondHand;
            trump = trumpProvenance;
            Arrays.fill(margins, UNKNOWN);
        }

        int bestMargin(long mine, long theirs, int lead, int mover, int worn) {
            return margin(mine, theirs, lead, mover, worn, MOST_CARDS);
        }

        int lowestBestCard(long mine, long theirs, int lead, int mover, int worn) {
            int bestMargin = BELOW_ALL;
            int bestOne = NONE;
            for (int card = 0; card < CARDS; card++) {
                if (mayPlay(mine, card, lead)) {
                    int margin = marginBy(card, mine, theirs, lead, mover, worn, MOST_CARDS);
                    if (margin > bestMargin) {
                        bestMargin = margin;
                        bestOne = card;
                    }
                }
            }
            return bestOne;
        }

        /** left is how many cards may still be played: what keeps the recursion low. */
        private int margin(long mine, long theirs, int lead, int mover, int worn, int left) {
            if (mine == 0L || left <= 0) {
                return 0;
            }
            int best = BELOW_ALL;
            for (int card = 0; card < CARDS; card++) {
                if (mayPlay(mine, card, lead)) {
                    best = Math.max(best, marginBy(card, mine, theirs, lead, mover, worn, left));
                }
            }
            return best;
        }

        private int marginBy(
                int card, long mine, long theirs, int lead, int mover, int worn, int left) {
            long kept = mine & ~bit(card);
            if (lead == NONE) {
                return -margin(theirs, kept, card, 1 - mover, worn, left - 1);
            }
            if (beats(card, lead, trump)) {
                return trickWorth(lead, card, mover, worn) + rest(kept, theirs, mover, left - 1);
            }
            int other = 1 - mover;
            return -trickWorth(lead, card, other, worn) - rest(theirs, kept, other, left - 1);
        }

        private int rest(long leaders, long others, int leader, int left) {
            int state = leader == 0
                    ? stateOf(leaders, others, leader)
                    : stateOf(others, leaders, leader);
            if (state < 0 || state >= margins.length) {
                return 0;
            }
            int known = margins[state];
            if (known != UNKNOWN) {
                return known;
            }
            int found = margin(leaders, others, NONE, leader, 0, left);
            margins[state] = found;
            return found;
        }

        private boolean mayPlay(long hand, int card, int lead) {
            if (!has(hand, card)) {
                return false;
            }
            int reason = lead == NONE
                    ? reasonAgainstLeading(hand, card)
                    : reasonAgainstReplying(hand, card, lead, trump);
            return reason == PLAYABLE;
        }

        private int stateOf(long firstHand, long secondHand, int leader) {
            int firstKept = keptOf(firstHand, firstAll);
            int secondKept = keptOf(secondHand, secondAll);
            return (leader << (2 * HAND)) | (firstKept << HAND) | secondKept;
        }

        /** Which of at most six cards are still there, a bit for each in their order. */
        private static int keptOf(long hand, long all) {
            int kept = 0;
            long unseen = all;
            for (int place = 0; place < HAND; place++) {
                long lowest = unseen & -unseen;
                if ((hand & lowest) != 0L) {
                    kept |= 1 << place;
                }
                unseen &= ~lowest;
            }
            return kept;
        }

        private static int trickWorth(int lead, int reply, int taker, int worn) {
            boolean gloved = (worn >> taker & 1) != 0;
            return worth(lead, gloved) + worth(reply, gloved);
        }
    }
}
