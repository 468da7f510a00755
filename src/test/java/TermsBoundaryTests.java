import java.math.BigInteger;

/**
 * The sentences under "Terms", one after the other: each boundary that one of them names has a
 * test of its own. The answers come from the document, worked out by hand or by
 * PlainModel; none is taken from the program.
 */
public final class TermsBoundaryTests {
    private static final Class<IllegalStateException> NOT_NOW = IllegalStateException.class;

    private TermsBoundaryTests() {
    }

    public static void main(String[] args) {
        provenancesEndAtTens();
        olderDatesAtBothEnds();
        mildewBeginsAt40();
        worthOfOldestAndNewest();
        theRowIsChangedWithOverflow();
        theFirstTwelvePlaces();
        theTurnedUpCardTellsTrumps();
        thePileInItsOrder();
        theTurnedUpCardIsDrawnLast();
        archivist0LeadsEveryGame();
        mildewIsLedOnlyWhenNothingElseIsLeft();
        anyCardWhileTwoAreInThePile();
        followingBeginsWithTheEmptyPile();
        followingATrump();
        aTrumpIfNothingFollows();
        anythingIfNoTrumpEither();
        anythingToMildew();
        theOlderOfTwoTrumps();
        aTrumpIfThereIsJustOne();
        withoutTrumpsTheOneLed();
        aDatedCardTakesMildew();
        theLedOneOfTwoMildewCards();
        onlyTheTakersGlovesHelp();
        theTakerDrawsFirst();
        whoTakesLeads();
        overWhenNobodyHasACard();
        onePairOfGlovesAGame();
        glovesOnlyOnOnesTurn();
        wornUntilThatTrickIsTaken();
        bothWearGlovesInOneTrick();
        Checks.end("TermsBoundaryTests");
    }

    /** The first trick of the game of this seed: who takes it, and what it is worth. */
    private static void first(long seed, int lead, int reply, int taker, int points) {
        String what = "deal(" + seed + "), " + lead + " and " + reply;
        ArchivistTricks x = new ArchivistTricks();
        x.deal(seed);
        Checks.due(what + ": 0 has the lead", 0, x.placeOf(lead));
        Checks.due(what + ": 1 has the reply", 1, x.placeOf(reply));
        Checks.due(what + ": play(" + lead + ")", -1, x.play(lead));
        Checks.due(what + ": wouldTake(" + reply + ")", taker, x.wouldTake(reply));
        Checks.due(what + ": play(" + reply + ")", taker, x.play(reply));
        Checks.due(what + ": points of the taker", points, x.points(taker));
        Checks.due(what + ": points of the other one", 0, x.points(1 - taker));
        Checks.due(what + ": placeOf(" + lead + ")", 4 + taker, x.placeOf(lead));
        Checks.due(what + ": placeOf(" + reply + ")", 4 + taker, x.placeOf(reply));
    }

    /** What whyNot() answers for each card of the one whose turn it is: card, answer, card .. */
    private static void reasons(String what, ArchivistTricks x, int... want) {
        Checks.due(what + ": cards", want.length / 2, x.cards(x.turn()));
        int playable = 0;
        for (int i = 0; i < want.length; i += 2) {
            int card = want[i];
            Checks.due(what + ": whyNot(" + card + ")", want[i + 1], x.whyNot(card));
            if (want[i + 1] == 0) {
                playable++;
            } else {
                Standing.refused(what + ": play(" + card + ")", NOT_NOW, x, () -> x.play(card));
            }
        }
        Checks.due(what + ": choices()", playable, x.choices());
    }

    private static void hand(String what, ArchivistTricks x, int archivist, int... want) {
        Checks.due(what + ": cards(" + archivist + ")", want.length, x.cards(archivist));
        for (int place = 0; place < want.length; place++) {
            Checks.due(what + ": cardAt(" + archivist + ", " + place + ")",
                    want[place], x.cardAt(archivist, place));
        }
    }

    // ---- Cards

    /** "The card c, 0 to 39, is of the provenance c / 10": neighbours across a ten. */
    private static void provenancesEndAtTens() {
        first(25L, 9, 10, 0, 11);
        first(130L, 10, 9, 0, 11);
        first(62L, 29, 30, 0, 11);
        first(28L, 30, 29, 0, 11);
        // Here one of the two neighbours is a trump.
        first(0L, 9, 10, 0, 11);
        first(287L, 10, 9, 1, 11);
        first(219L, 19, 20, 0, 11);
        first(87L, 20, 19, 1, 11);
        first(117L, 29, 30, 0, 11);
        first(205L, 30, 29, 1, 11);
    }

    /** "the date c modulo 10, 0 being the oldest": neighbours, and the two ends. */
    private static void olderDatesAtBothEnds() {
        first(749L, 0, 1, 0, 19);
        first(22L, 1, 0, 1, 19);
        first(52L, 8, 9, 0, 3);
        first(283L, 9, 8, 1, 3);
        first(172L, 0, 9, 0, 11);
        first(167L, 9, 0, 1, 11);
    }

    /** "the cards 40 and 41 are mildew", and 39 is not. */
    private static void mildewBeginsAt40() {
        ArchivistTricks x = new ArchivistTricks();
        x.deal(61L);
        Checks.due("39 may be led", 0, x.whyNot(39));
        first(372L, 39, 40, 0, -4);
        first(94L, 39, 41, 0, -4);
        ArchivistTricks y = Game.OF_18.after(36);
        reasons("39 and both of mildew to lead", y, 39, 0, 40, 3, 41, 3);
    }

    /** "A dated card is worth 10 less its date, mildew -5." */
    private static void worthOfOldestAndNewest() {
        first(73L, 0, 39, 1, 11);
        first(73L, 38, 39, 0, 3);
        first(454L, 0, 40, 0, 5);
        first(77L, 9, 40, 0, -4);
        first(151L, 29, 41, 0, -4);
        ArchivistTricks x = Game.OF_68.after(40);
        int before = x.points(1);
        Game.OF_68.playOn(x, 40, 42);
        Checks.due("two of mildew", before - 10, x.points(1));
    }

    // ---- Dealing

    /** The row as the document words it, with numbers of any size and the overflow by hand. */
    private static int[] rowOf(long seed) {
        BigInteger factor = new BigInteger("6364136223846793005");
        BigInteger addend = new BigInteger("1442695040888963407");
        BigInteger wrap = BigInteger.ONE.shiftLeft(64);
        int[] row = new int[42];
        for (int place = 0; place < 42; place++) {
            row[place] = place;
        }
        BigInteger s = BigInteger.valueOf(seed).mod(wrap);
        for (int k = 41; k >= 1; k--) {
            s = s.multiply(factor).add(addend).mod(wrap);
            int other = s.shiftRight(33).mod(BigInteger.valueOf(k + 1)).intValue();
            int card = row[k];
            row[k] = row[other];
            row[other] = card;
        }
        return row;
    }

    /** "the seed s, a long, becomes s times .. (with overflow)": the ends of long, and zero. */
    private static void theRowIsChangedWithOverflow() {
        long[] seeds = {
            0L, 1L, -1L, 2L, -2L, Long.MAX_VALUE, Long.MIN_VALUE, Long.MAX_VALUE - 1L,
            Long.MIN_VALUE + 1L, Integer.MAX_VALUE, Integer.MIN_VALUE, 1L << 31, 1L << 32,
            1L << 33, 1L << 62, -(1L << 33), 6364136223846793005L, -1442695040888963407L};
        for (long seed : seeds) {
            dealtAsTheRow(seed);
        }
        for (long seed = 1L; seed < 200L; seed++) {
            dealtAsTheRow(seed * 0x9E3779B97F4A7C15L);
        }
    }

    private static void dealtAsTheRow(long seed) {
        int[] row = rowOf(seed);
        ArchivistTricks x = new ArchivistTricks();
        int trumps = row[12] >= 40 ? 0 : row[12] / 10;
        Checks.due("deal(" + seed + ")", trumps, x.deal(seed));
        for (int place = 0; place < 42; place++) {
            int want = place < 6 ? 0 : place < 12 ? 1 : 2;
            Checks.due("deal(" + seed + "): placeOf(" + row[place] + ")",
                    want, x.placeOf(row[place]));
        }
    }

    /** "The first six cards of the row are for the archivist 0, the next six for 1." */
    private static void theFirstTwelvePlaces() {
        ArchivistTricks x = new ArchivistTricks();
        x.deal(18L);
        hand("deal(18)", x, 0, 4, 8, 12, 15, 25, 37);
        hand("deal(18)", x, 1, 18, 19, 26, 30, 31, 36);
        Checks.due("deal(18): the place 12 is of the pile", 2, x.placeOf(14));
        Checks.due("deal(18): the place 13 is of the pile", 2, x.placeOf(0));
        Checks.due("deal(18): the place 41 is of the pile", 2, x.placeOf(29));
        x.deal(-1L);
        hand("deal(-1)", x, 0, 0, 5, 7, 9, 16, 24);
        hand("deal(-1)", x, 1, 6, 11, 15, 26, 27, 31);
    }

    /** "the card at the place 12 is turned up: its provenance is trumps (0, if it is mildew)". */
    private static void theTurnedUpCardTellsTrumps() {
        // Seed, card at the place 12, trumps.
        long[][] turnedUp = {
            {27, 0, 0}, {38, 9, 0}, {30, 10, 1}, {1, 19, 1}, {33, 20, 2}, {26, 29, 2},
            {64, 30, 3}, {5, 39, 3}, {65, 40, 0}, {7, 41, 0}};
        for (long[] one : turnedUp) {
            ArchivistTricks x = new ArchivistTricks();
            Checks.due("turned up " + one[1] + ": deal(" + one[0] + ")", one[2], x.deal(one[0]));
            Checks.due("turned up " + one[1] + ": trumps()", one[2], x.trumps());
            Checks.due("turned up " + one[1] + ": placeOf()", 2, x.placeOf((int) one[1]));
        }
        // When mildew is turned up, a card of the provenance 0 takes as a trump does.
        first(1220L, 10, 9, 1, 11);
        first(816L, 30, 9, 1, 11);
        first(7L, 9, 10, 0, 11);
    }

    /** "The pile is the cards at the places 13 to 41, drawn in this order, and then .." */
    private static void thePileInItsOrder() {
        for (long seed : new long[] {0L, 18L, 68L, -1L, Long.MAX_VALUE, Long.MIN_VALUE}) {
            drawnInOrder(seed);
        }
    }

    private static void drawnInOrder(long seed) {
        int[] row = rowOf(seed);
        int[] pile = new int[30];
        System.arraycopy(row, 13, pile, 0, 29);
        pile[29] = row[12];
        ArchivistTricks x = new ArchivistTricks();
        x.deal(seed);
        for (int drawn = 0; drawn < 30; drawn += 2) {
            x.play(x.cardAt(x.turn(), 0));
            int taker = x.play(x.cardAt(x.turn(), 0));
            String what = "deal(" + seed + "), trick " + (drawn / 2);
            Checks.due(what + ": the taker's", taker, x.placeOf(pile[drawn]));
            Checks.due(what + ": the other one's", 1 - taker, x.placeOf(pile[drawn + 1]));
            for (int i = drawn + 2; i < 30; i++) {
                Checks.due(what + ": still in the pile", 2, x.placeOf(pile[i]));
            }
            Checks.due(what + ": pile()", 28 - drawn, x.pile());
        }
    }

    /** ".. and then the one that is turned up." */
    private static void theTurnedUpCardIsDrawnLast() {
        ArchivistTricks x = Game.OF_18.after(29);
        Checks.due("29 is drawn last but one", 2, x.placeOf(29));
        Checks.due("14 was turned up", 2, x.placeOf(14));
        Checks.due("the archivist 0 takes", 0, x.play(10));
        Checks.due("he draws 29", 0, x.placeOf(29));
        Checks.due("the other one draws 14", 1, x.placeOf(14));
        ArchivistTricks y = Game.OF_27.after(29);
        Checks.due("0 was turned up", 2, y.placeOf(0));
        Checks.due("the archivist 1 takes", 1, y.play(15));
        Checks.due("he draws 11", 1, y.placeOf(11));
        Checks.due("the other one draws 0", 0, y.placeOf(0));
    }

    /** "The archivist 0 leads": also after a game whose last trick 1 took, or a lead of 0's. */
    private static void archivist0LeadsEveryGame() {
        ArchivistTricks x = new ArchivistTricks();
        x.deal(18L);
        Checks.due("the first game: turn()", 0, x.turn());
        x.play(4);
        Checks.due("1 is to reply", 1, x.turn());
        x.deal(18L);
        Checks.due("dealt when 1 is to reply: turn()", 0, x.turn());
        Game.OF_18.playOn(x, 0, 2);
        Checks.due("1 is to lead", 1, x.turn());
        Game.OF_68.playWhole(x);
        x.deal(18L);
        Checks.due("1 took the last trick: turn()", 0, x.turn());
    }

    // ---- Tricks

    /** "Mildew may be led only by somebody who has nothing else." */
    private static void mildewIsLedOnlyWhenNothingElseIsLeft() {
        ArchivistTricks x = Game.OF_18.after(14);
        reasons("five dated cards besides", x, 20, 0, 30, 0, 31, 0, 35, 0, 36, 0, 41, 3);
        Game.OF_18.playOn(x, 14, 26);
        reasons("both of mildew", x, 32, 0, 34, 0, 35, 0, 36, 0, 40, 3, 41, 3);
        Game.OF_18.playOn(x, 26, 36);
        reasons("one dated card besides", x, 39, 0, 40, 3, 41, 3);
        Game.OF_18.playOn(x, 36, 38);
        reasons("nothing but both of mildew", x, 40, 0, 41, 0);
        Checks.due("the higher one is led", -1, x.play(41));
        Checks.due("it is led", 41, x.led());
        ArchivistTricks y = Game.OF_98.after(38);
        reasons("a dated card and one of mildew", y, 30, 0, 41, 3);
        Game.OF_98.playOn(y, 38, 40);
        reasons("nothing but one of mildew", y, 41, 0);
        Checks.due("it is led", -1, y.play(41));
    }

    /** "As long as the pile is not empty, any card may be played to a .. lead." */
    private static void anyCardWhileTwoAreInThePile() {
        ArchivistTricks x = Game.OF_5.after(29);
        Checks.due("two are in the pile", 2, x.pile());
        // 19 is led, 3 is trumps: 18 would follow, 35 is a trump.
        reasons("two in the pile", x, 3, 0, 5, 0, 18, 0, 26, 0, 35, 0, 41, 0);
        Checks.due("mildew instead of 18", 0, x.play(41));
        ArchivistTricks y = Game.OF_18.after(1);
        reasons("thirty in the pile", y, 18, 0, 19, 0, 26, 0, 30, 0, 31, 0, 36, 0);
    }

    /** "when it is empty, one has to play a card of the provenance that is led, if there is one" */
    private static void followingBeginsWithTheEmptyPile() {
        ArchivistTricks x = Game.OF_98.after(31);
        Checks.due("the pile is empty", 0, x.pile());
        // 17 is led, 2 is trumps.
        reasons("to 17", x, 6, 4, 10, 0, 13, 0, 24, 4, 30, 4, 41, 4);
        Game.OF_98.playOn(x, 31, 37);
        // 7 is led: one card follows, and it has to be this one.
        reasons("to 7", x, 6, 0, 30, 4, 41, 4);
        ArchivistTricks y = Game.OF_27.after(37);
        reasons("mildew does not follow", y, 38, 0, 40, 4, 41, 4);
    }

    /** A trump that is led is a provenance that is led, too. */
    private static void followingATrump() {
        ArchivistTricks x = Game.OF_87.after(31);
        // 17 is led, 1 is trumps.
        reasons("to the trump 17", x, 2, 4, 10, 0, 24, 4, 39, 4, 40, 4, 41, 4);
        ArchivistTricks y = Game.OF_28.after(37);
        reasons("to the trump 0", y, 1, 0, 3, 0, 12, 4);
    }

    /** "otherwise a trump, if there is one" */
    private static void aTrumpIfNothingFollows() {
        ArchivistTricks x = Game.OF_11.after(31);
        // 17 is led, 2 is trumps.
        reasons("two trumps", x, 23, 0, 24, 0, 32, 5, 33, 5, 40, 5, 41, 5);
        ArchivistTricks y = Game.OF_18.after(31);
        // 25 is led, 1 is trumps.
        reasons("one trump", y, 14, 0, 35, 5, 36, 5, 39, 5, 40, 5, 41, 5);
        ArchivistTricks z = Game.OF_98.after(35);
        // 23 is led, 2 is trumps: as a trump is led, not to follow is 4.
        reasons("a trump to a trump", z, 6, 4, 24, 0, 30, 4, 41, 4);
    }

    /** "otherwise anything" */
    private static void anythingIfNoTrumpEither() {
        ArchivistTricks x = Game.OF_11.after(35);
        // 16 is led, 2 is trumps.
        reasons("neither 1 nor 2", x, 32, 0, 33, 0, 40, 0, 41, 0);
        Game.OF_11.playOn(x, 35, 37);
        reasons("to the trump 20", x, 32, 0, 40, 0, 41, 0);
        ArchivistTricks y = Game.OF_27.after(39);
        reasons("nothing but mildew", y, 40, 0, 41, 0);
    }

    /** "to mildew that is led anything may be played" */
    private static void anythingToMildew() {
        ArchivistTricks x = Game.OF_87.after(39);
        // 40 is led, 1 is trumps; 28 is no trump.
        reasons("a trump and another card to 40", x, 13, 0, 28, 0);
        Checks.due("28 takes", 0, x.play(28));
        ArchivistTricks y = Game.OF_28.after(39);
        reasons("a trump and another card to 41", y, 1, 0, 12, 0);
        ArchivistTricks z = Game.OF_68.after(41);
        reasons("mildew to mildew", z, 41, 0);
    }

    /** "Of two dated cards of the same provenance the older one takes": trumps, too. */
    private static void theOlderOfTwoTrumps() {
        first(470L, 30, 31, 0, 19);
        first(82L, 31, 30, 1, 19);
        first(73L, 38, 39, 0, 3);
        first(6L, 39, 38, 1, 3);
    }

    /** "of two others a trump does, if there is just one": the newest takes the oldest. */
    private static void aTrumpIfThereIsJustOne() {
        first(73L, 0, 39, 1, 11);
        first(22L, 39, 0, 0, 11);
        first(24L, 20, 9, 1, 11);
        first(445L, 9, 20, 0, 11);
        first(166L, 29, 10, 1, 11);
    }

    /** "and otherwise the one that was led": the newest keeps the trick against the oldest. */
    private static void withoutTrumpsTheOneLed() {
        first(25L, 9, 10, 0, 11);
        first(62L, 29, 30, 0, 11);
        ArchivistTricks x = Game.OF_18.after(36);
        // 1 leads 39; 27 is of another provenance, 1 is trumps.
        x.play(39);
        Checks.due("39 keeps it against 27", 1, x.play(27));
    }

    /** "A dated card takes mildew": the newest, and led or not. */
    private static void aDatedCardTakesMildew() {
        first(61L, 39, 40, 0, -4);
        first(372L, 39, 40, 0, -4);
        ArchivistTricks x = Game.OF_18.after(39);
        Checks.due("29 takes 40 that was led", 0, x.play(29));
        ArchivistTricks y = Game.OF_49.after(43);
        // 37 is no trump; mildew was led by 1.
        Checks.due("37 takes 41 that was led", 0, y.play(37));
        ArchivistTricks z = Game.OF_18.after(41);
        Checks.due("29 keeps it against 41", 0, z.play(41));
    }

    /** "of two cards of mildew the one that was led takes the other" */
    private static void theLedOneOfTwoMildewCards() {
        ArchivistTricks x = Game.OF_68.after(41);
        Checks.due("40 was led: wouldTake(41)", 1, x.wouldTake(41));
        Checks.due("40 was led: play(41)", 1, x.play(41));
        ArchivistTricks y = Game.OF_98.after(40);
        y.play(41);
        Checks.due("41 was led: wouldTake(40)", 0, y.wouldTake(40));
        ArchivistTricks z = Game.OF_28.after(39);
        Checks.due("41 was led by 0: wouldTake(40)", 0, z.wouldTake(40));
    }

    /** "Who takes the trick gets what both cards are worth; but with gloves on mildew .." */
    private static void onlyTheTakersGlovesHelp() {
        lastTrickOf68(false, false, -10);
        lastTrickOf68(true, false, 0);
        lastTrickOf68(false, true, -10);
        lastTrickOf68(true, true, 0);
        ArchivistTricks x = Game.OF_18.after(39);
        x.putOnGloves();
        x.play(28);
        Checks.due("40 for nothing, 28 for 2: points(0)", 72 + 2, x.points(0));
        ArchivistTricks y = Game.OF_18.after(38);
        y.putOnGloves();
        y.play(40);
        y.play(28);
        Checks.due("the leader's gloves do not help: points(0)", 72 + 2 - 5, y.points(0));
        Checks.due("and gain him nothing: points(1)", 145, y.points(1));
        ArchivistTricks z = Game.OF_27.after(30);
        z.putOnGloves();
        z.play(11);
        Checks.due("gloves without mildew change nothing", 0, z.play(0));
        Checks.due("11 and 0: points(0)", 76 + 9 + 10, z.points(0));
    }

    private static void lastTrickOf68(boolean leaders, boolean others, int worth) {
        ArchivistTricks x = Game.OF_68.after(40);
        int before = x.points(1);
        if (leaders) {
            x.putOnGloves();
        }
        x.play(40);
        if (others) {
            x.putOnGloves();
        }
        x.play(41);
        String what = "gloves " + leaders + ", " + others;
        Checks.due(what + ": points(1)", before + worth, x.points(1));
        Checks.due(what + ": points(0)", 14, x.points(0));
    }

    /** "Then, as long as the pile is not empty, he draws a card from it, and then the other." */
    private static void theTakerDrawsFirst() {
        ArchivistTricks x = Game.OF_18.after(2);
        Checks.due("1 took and draws the first", 1, x.placeOf(0));
        Checks.due("0 draws the second", 0, x.placeOf(9));
        Game.OF_18.playOn(x, 2, 30);
        Checks.due("six each", 6, x.cards(0));
        Checks.due("six each", 6, x.cards(1));
        Game.OF_18.playOn(x, 30, 32);
        hand("nothing is left to draw", x, 0, 27, 28, 29, 37, 38);
        hand("nothing is left to draw", x, 1, 35, 36, 39, 40, 41);
    }

    /** "and he leads" */
    private static void whoTakesLeads() {
        ArchivistTricks x = new ArchivistTricks();
        x.deal(27L);
        for (int i = 0; i < 42; i += 2) {
            x.play(Game.OF_27.moves[i]);
            int taker = x.play(Game.OF_27.moves[i + 1]);
            Checks.due("after " + (i + 2) + ": turn()", i == 40 ? -1 : taker, x.turn());
            Checks.due("after " + (i + 2) + ": led()", -1, x.led());
        }
    }

    /** "The game is over when nobody has a card": not while one of them has one. */
    private static void overWhenNobodyHasACard() {
        ArchivistTricks x = Game.OF_27.after(40);
        Checks.due("one each: isPlaying()", true, x.isPlaying());
        x.play(39);
        Checks.due("1 has none: isPlaying()", true, x.isPlaying());
        Checks.due("1 has none: turn()", 0, x.turn());
        Checks.due("1 has none: cards(1)", 0, x.cards(1));
        x.play(41);
        Checks.due("nobody has one: isPlaying()", false, x.isPlaying());
        Checks.due("nobody has one: turn()", -1, x.turn());
    }

    // ---- Gloves

    /** "Each has one pair of gloves": not a second one in this game, but one in the next. */
    private static void onePairOfGlovesAGame() {
        ArchivistTricks x = Game.OF_18.after(0);
        Checks.due("the pair of 0", 0, x.putOnGloves());
        Standing.refused("on already", NOT_NOW, x, () -> x.putOnGloves());
        x.play(4);
        Checks.due("the pair of 1", 1, x.putOnGloves());
        Standing.refused("on already", NOT_NOW, x, () -> x.putOnGloves());
        x.play(18);
        Standing.refused("the pair of 1 is gone", NOT_NOW, x, () -> x.putOnGloves());
        x.play(0);
        Standing.refused("the pair of 0 is gone", NOT_NOW, x, () -> x.putOnGloves());
        Game.OF_18.playOn(x, 3, 41);
        Standing.refused("gone to the end", NOT_NOW, x, () -> x.putOnGloves());
        x.deal(18L);
        Checks.due("a pair for the next game", 0, x.putOnGloves());
        x.play(4);
        Checks.due("a pair for the next game", 1, x.putOnGloves());
    }

    /** "which can be put on when it is one's turn, ahead of playing" */
    private static void glovesOnlyOnOnesTurn() {
        ArchivistTricks x = Game.OF_18.after(1);
        Checks.due("0 has led: gloves are 1's now", 1, x.putOnGloves());
        Checks.due("0 has led: gloves(0)", 0, x.gloves(0));
        Standing.refused("they are not 0's then", NOT_NOW, x, () -> x.putOnGloves());
        ArchivistTricks y = Game.OF_18.after(2);
        Checks.due("1 leads: gloves are his", 1, y.putOnGloves());
        Checks.due("1 leads: gloves(0)", 0, y.gloves(0));
        ArchivistTricks z = Game.OF_18.after(41);
        Checks.due("ahead of the last card", 1, z.putOnGloves());
        z.play(41);
        Standing.refused("behind the last card", NOT_NOW, z, () -> z.putOnGloves());
    }

    /** "they are worn until that trick is taken, by whomever, and are gone then" */
    private static void wornUntilThatTrickIsTaken() {
        ArchivistTricks x = Game.OF_18.after(0);
        x.putOnGloves();
        x.play(4);
        Checks.due("one card is played: gloves(0)", 1, x.gloves(0));
        x.play(18);
        Checks.due("the other one took it: gloves(0)", 2, x.gloves(0));
        ArchivistTricks y = Game.OF_18.after(2);
        y.putOnGloves();
        y.play(0);
        Checks.due("one card is played: gloves(1)", 1, y.gloves(1));
        y.play(8);
        Checks.due("he took it himself: gloves(1)", 2, y.gloves(1));
        Checks.due("never put on: gloves(0)", 0, y.gloves(0));
        ArchivistTricks z = Game.OF_18.after(39);
        z.putOnGloves();
        z.play(28);
        z.play(29);
        z.play(41);
        Checks.due("mildew costs in the next trick: points(0)", 72 + 2 + 1 - 5, z.points(0));
        Checks.due("gone when it is over: gloves(0)", 2, z.gloves(0));
    }

    private static void bothWearGlovesInOneTrick() {
        ArchivistTricks x = Game.OF_68.after(40);
        Checks.due("1 puts his on", 1, x.putOnGloves());
        x.play(40);
        Checks.due("0 puts his on", 0, x.putOnGloves());
        Checks.due("both are on: gloves(0)", 1, x.gloves(0));
        Checks.due("both are on: gloves(1)", 1, x.gloves(1));
        x.play(41);
        Checks.due("both are gone: gloves(0)", 2, x.gloves(0));
        Checks.due("both are gone: gloves(1)", 2, x.gloves(1));
    }
}
