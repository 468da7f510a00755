/** Games that the tests play, each by its seed and its moves: a card, or GLOVES ahead of one. */
final class Game {
    private static final int GLOVES = -2;

    /** The archivist 0 wins, 110 to 100, with 8 tricks to 13; provenance 0 is trumps. */
    static final Game OF_27 = new Game(27L,
            2, 4, 9, 8, 12, 5, 1, 19, 18, 22, 13, 21, 27, 24, 23, 16, 3, 6, 25, 17, 20, 7,
            28, 26, 10, 29, 30, 31, 14, 15, 11, 0, 32, 33, 36, 34, 35, 38, 37, 40, 39, 41);

    /** The archivist 1 wins, 145 to 65, and has to lead mildew; provenance 1 is trumps. */
    static final Game OF_18 = new Game(18L,
            4, 18, 0, 8, 19, 9, 16, 12, 15, 21, 1, 26, 2, 11, 20, 6, 30, 13, 23, 17, 7, 24,
            31, 22, 33, 5, 32, 3, 34, 10, 25, 14, 35, 37, 36, 38, 39, 27, 40, 28, 29, 41);

    /** Mildew is led to a trump and another card; provenance 0 is trumps. */
    static final Game OF_28 = new Game(28L,
            30, 33, 28, 31, 19, 29, 16, 25, 15, 38, 11, 36, 23, 26, 18, 39, 10, 24, 9, 22, 6, 20,
            7, 35, 32, 21, 27, 17, 34, 14, 37, 8, 13, 5, 2, 4, 0, 3, 41, 12, 1, 40);

    /** Nobody wins: both have 105; provenance 3 is trumps. */
    static final Game OF_53 = new Game(53L,
            2, 0, 4, 1, 3, 8, 6, 17, 10, 21, 9, 26, 14, 11, 7, 12, 25, 15, 28, 18, 30, 19,
            32, 16, 22, 20, 23, 5, 24, 34, 13, 31, 27, 35, 36, 33, 29, 37, 40, 38, 39, 41);

    /** Mildew is turned up, so provenance 0 is trumps; the last trick is of mildew alone. */
    static final Game OF_68 = new Game(68L,
            39, 33, 20, 32, 16, 38, 22, 30, 23, 36, 21, 28, 12, 27, 34, 24, 14, 19, 31, 18,
            10, 35, 9, 17, 13, 15, 26, 29, 37, 11, 25, 8, 6, 7, 5, 3, 1, 4, 0, 2, 40, 41);

    /** The archivist 0 wins by one point, 108 to 107, as gloves once saved 5. */
    static final Game OF_49 = new Game(49L,
            20, 22, 0, 17, 25, 7, 8, 26, 33, 3, 36, 29, GLOVES, 19, 30, 13, 11, 18, 38, 31, 10, 27,
            9, 16, 15, 21, 2, 6, 1, 34, 32, 39, 35, 14, 12, 28, 23, 4, 24, GLOVES, 5, 40, 41, 37);

    /** The archivist 1 wins by one point, 108 to 107. */
    static final Game OF_9 = new Game(9L,
            3, 14, 11, 0, 6, 1, 26, 16, 13, 25, 15, 9, 10, 2, 33, 28, GLOVES, 21, 22, 36, 8, 27,
            31, 4, 24, 19, 39, 29, 38, 23, 30, 7, 34, 37, 18, 32, 5, 12, 17, 35, 40, GLOVES, 20,
            41);

    /** Up to the last reply with cards in the pile; provenance 3 is trumps. */
    static final Game OF_5 = new Game(5L,
            6, 30, 7, 29, 36, 24, 20, 17, 9, 1, 22, 23, 31, 37, 16, 13, 15, 14, 25, 27, 10, 32,
            33, 2, 21, 4, 0, 38, 19);

    /** Up to a lead of one card of mildew; provenance 2 is trumps. */
    static final Game OF_98 = new Game(98L,
            34, 33, 38, 28, 1, 21, 20, 40, 2, 37, 22, 25, 29, 5, 14, 26, 27, 16, 19, 35, 31, 0,
            15, 18, 11, 3, 4, 9, 39, 32, 17, 10, 13, 12, 23, 24, 7, 6, 30, 36);

    /** Up to a lead of a trump to one who has none; provenance 2 is trumps. */
    static final Game OF_11 = new Game(11L,
            9, 14, 37, 4, 12, 25, 2, 26, 10, 6, 18, 3, 38, 7, 29, 28, 35, 15, 36, 34, 30, 1,
            19, 11, 8, 22, 0, 13, 39, 27, 17, 24, 23, 21, 16, 33, 20);

    /** Up to mildew that is led to a trump and another card; provenance 1 is trumps. */
    static final Game OF_87 = new Game(87L,
            27, 7, 9, 0, 36, 23, 16, 20, 19, 32, 31, 8, 11, 22, 35, 4, 14, 38, 29, 1, 6, 12,
            18, 5, 33, 30, 21, 26, 37, 15, 17, 10, 24, 25, 39, 34, 3, 2, 40);

    /** Up to a reply by which gloves tell; provenance 1 is trumps. */
    static final Game OF_16 = new Game(16L,
            1, 12, 18, 33, 22, 4, 37, 13, 32, 34, 38, 11, 21, 30, 9, 17, 23, 27, 6, 7, 15, 25,
            31, 28, 35, 2, 29, 20, 3, 5, 19, 10, 14, 39, 36);

    /** Up to a lead by which two cards are best, and a lower one is not; provenance 2 is trumps. */
    static final Game OF_37 = new Game(37L,
            14, 25, 15, 10, 17, 31, 11, 34, 4, 37, 5, 39, 2, 7, 8, 41, 21, 26, 3, 38, 32, 24,
            27, 16, 18, 23, 35, 29, 9, 36, 22, 28, 19, 12, 20, 13);

    /** Up to a lead by which the highest dated card alone is best; provenance 0 is trumps. */
    static final Game OF_42 = new Game(42L,
            38, 15, 0, 6, 23, 39, 35, 31, 4, 25, 13, 37, 26, 10, 3, 1, 11, 7, 14, 19, 8, 32,
            29, 36, 33, 20, 17, 27, 28, 21, 30, 2);

    /** Up to a lead by which all that may be led are the same; provenance 0 is trumps. */
    static final Game OF_89 = new Game(89L,
            34, 32, 29, 3, 12, 22, 2, 33, 37, 9, 15, 7, 28, 6, 4, 36, 19, 24, 39, 11, 21, 0,
            1, 30, 13, 8, 20, 26, 10, 16, 27, 5);

    final long seed;
    final int[] moves;

    private Game(long seed, int... moves) {
        this.seed = seed;
        this.moves = moves;
    }

    /** A new object on which this game was dealt and its first moves were made. */
    ArchivistTricks after(int count) {
        ArchivistTricks x = new ArchivistTricks();
        x.deal(seed);
        playOn(x, 0, count);
        return x;
    }

    void playOn(ArchivistTricks x, int from, int to) {
        for (int i = from; i < to; i++) {
            move(x, i);
        }
    }

    /** Deals this game and plays all of it. */
    void playWhole(ArchivistTricks x) {
        x.deal(seed);
        playOn(x, 0, moves.length);
    }

    private void move(ArchivistTricks x, int i) {
        if (moves[i] == GLOVES) {
            x.putOnGloves();
        } else {
            x.play(moves[i]);
        }
    }
}
