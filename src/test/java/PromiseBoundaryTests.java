/**
 * The promises 1 to 22, one after the other: each boundary that a sentence of theirs names has a
 * test of its own. The answers come from the document, worked out by hand or by
 * PlainModel; none is taken from the program.
 */
public final class PromiseBoundaryTests {
    private static final Class<IllegalArgumentException> NO_CARD = IllegalArgumentException.class;
    private static final Class<IllegalStateException> NOT_NOW = IllegalStateException.class;
    private static final Class<IndexOutOfBoundsException> NOBODY = IndexOutOfBoundsException.class;

    /** Just outside, far outside, and such as a shift or a cast would bring back inside. */
    private static final int[] NO_CARDS = {
        -1, 42, 43, 63, 64, 104, 106, 128, -22, -64, 256, 1 << 16, Integer.MIN_VALUE,
        Integer.MIN_VALUE + 40, Integer.MAX_VALUE};
    private static final int[] NOBODIES = {
        -1, 2, 3, -2, 32, 64, 256, 1 << 16, Integer.MIN_VALUE, Integer.MAX_VALUE};

    private PromiseBoundaryTests() {
    }

    public static void main(String[] args) {
        noGameAtFirst();
        objectsDoNotShare();
        dealAtAnyTime();
        dealGivesUpAtAnyMove();
        dealKeepsGamesWon();
        playNoSuchCard();
        playRefusedForEachReason();
        playAnswersWhoTakes();
        glovesWithoutAGame();
        glovesOnOrGone();
        whyNotNoSuchCard();
        whyNotWithoutAGame();
        whyNotTheFirstThatApplies();
        isPlayingFromDealToTheLastCard();
        turnOfEachMove();
        ledFromLeadToReply();
        trumpsSinceTheFirstDeal();
        pileDownToNothing();
        cardsFromSixToNone();
        cardsOfNobody();
        cardAtBothEnds();
        cardAtNoSuchPlace();
        cardAtByRisingNumbers();
        placeOfEachKind();
        placeOfNoSuchCard();
        pointsFromNothing();
        pointsBelowZero();
        tricksFromNoneToTwentyOne();
        pointsAndTricksOfNobody();
        glovesOfEachKind();
        glovesOfNobody();
        choicesFromNoneToSix();
        wouldTakeWhoeverHasIt();
        wouldTakeRefused();
        wouldTakeNoSuchCard();
        bestWithAnEmptyPileOnly();
        bestWithoutAGame();
        bestAboveAtAndBelowZero();
        bestWithNoMoreGloves();
        bestWithGlovesThatAreOn();
        bestCardOfSeveral();
        bestOfEachGame();
        wonByOnePoint();
        wonByPointsNotByTricks();
        wonByNobody();
        wonOnlyWhenOver();
        wonSoFar();
        upToTheLastCall();
        Checks.end("PromiseBoundaryTests");
    }

    /** Objects at every kind of moment: new, in each part of a game, and when it is over. */
    private static ArchivistTricks[] atEveryKindOfMoment() {
        ArchivistTricks gloved = Game.OF_18.after(38);
        gloved.putOnGloves();
        return new ArchivistTricks[] {
            new ArchivistTricks(), Game.OF_18.after(0), Game.OF_18.after(1), Game.OF_18.after(2),
            Game.OF_18.after(29), Game.OF_18.after(30), Game.OF_18.after(31), gloved,
            Game.OF_18.after(39), Game.OF_18.after(41), Game.OF_18.after(42)};
    }

    // ---- Promise 1: a new object

    private static void noGameAtFirst() {
        ArchivistTricks x = new ArchivistTricks();
        Checks.due("new: isPlaying()", false, x.isPlaying());
        Checks.due("new: turn()", -1, x.turn());
        Checks.due("new: led()", -1, x.led());
        Checks.due("new: trumps()", -1, x.trumps());
        Checks.due("new: pile()", 0, x.pile());
        Checks.due("new: choices()", 0, x.choices());
        Checks.due("new: wonByFirst()", 0, x.wonByFirst());
        Checks.due("new: wonBySecond()", 0, x.wonBySecond());
        for (int a = 0; a < 2; a++) {
            int archivist = a;
            Checks.due("new: cards(" + a + ")", 0, x.cards(a));
            Checks.due("new: points(" + a + ")", 0, x.points(a));
            Checks.due("new: tricks(" + a + ")", 0, x.tricks(a));
            Checks.due("new: gloves(" + a + ")", 0, x.gloves(a));
            Standing.refused("new: cardAt(" + a + ", 0)", NOBODY, x, () -> x.cardAt(archivist, 0));
        }
        for (int card : new int[] {0, 39, 40, 41}) {
            Standing.refused("new: play(" + card + ")", NOT_NOW, x, () -> x.play(card));
            Standing.refused("new: wouldTake(" + card + ")", NOT_NOW, x, () -> x.wouldTake(card));
        }
        Standing.refused("new: putOnGloves()", NOT_NOW, x, () -> x.putOnGloves());
        Standing.refused("new: best()", NOT_NOW, x, () -> x.best());
        Standing.refused("new: bestCard()", NOT_NOW, x, () -> x.bestCard());
        Checks.due("refused calls do not hinder a game: deal(18)", 1, x.deal(18L));
    }

    private static void objectsDoNotShare() {
        ArchivistTricks x = Game.OF_18.after(42);
        ArchivistTricks y = new ArchivistTricks();
        Checks.due("a second object: isPlaying()", false, y.isPlaying());
        Checks.due("a second object: trumps()", -1, y.trumps());
        Checks.due("a second object: wonBySecond()", 0, y.wonBySecond());
        y.deal(68L);
        Game.OF_68.playOn(y, 0, 30);
        Checks.due("the second object: best()", 23, y.best());
        Checks.due("the first object: isPlaying()", false, x.isPlaying());
        Checks.due("the first object: trumps()", 1, x.trumps());
        ArchivistTricks z = Game.OF_18.after(30);
        Checks.due("a third object: best()", -26, z.best());
        Checks.due("the second object again: best()", 23, y.best());
    }

    // ---- Promise 2: deal

    /** "seed: any number", at any time, is answered by the trumps. */
    private static void dealAtAnyTime() {
        for (ArchivistTricks x : atEveryKindOfMoment()) {
            Checks.due("deal(18)", 1, x.deal(18L));
            String dealt = Standing.of(x);
            Checks.due("deal(largest)", 0, x.deal(Long.MAX_VALUE));
            Checks.due("deal(smallest)", 3, x.deal(Long.MIN_VALUE));
            Checks.due("deal(0)", 0, x.deal(0L));
            Checks.due("deal(-1)", 1, x.deal(-1L));
            Checks.due("deal(18) again", 1, x.deal(18L));
            Checks.judge(dealt.equals(Standing.of(x)), "deal(18) is not the same again");
        }
    }

    /** "one that is not over is given up": nothing of it is left, and nobody wins it. */
    private static void dealGivesUpAtAnyMove() {
        String fresh = Standing.of(Game.OF_27.after(0));
        for (int moves = 0; moves < Game.OF_49.moves.length; moves++) {
            ArchivistTricks x = Game.OF_49.after(moves);
            x.deal(27L);
            String given = Standing.of(x);
            Checks.judge(fresh.equals(given), "given up after " + moves + ": " + given);
        }
    }

    private static void dealKeepsGamesWon() {
        ArchivistTricks x = Game.OF_27.after(42);
        Checks.due("over: wonByFirst()", 1, x.wonByFirst());
        x.deal(18L);
        Checks.due("dealt anew: wonByFirst()", 1, x.wonByFirst());
        Game.OF_18.playOn(x, 0, 42);
        x.deal(0L);
        Checks.due("dealt anew: wonByFirst()", 1, x.wonByFirst());
        Checks.due("dealt anew: wonBySecond()", 1, x.wonBySecond());
    }

    // ---- Promise 3: play

    /** "Throws IllegalArgumentException if there is no such card": whatever else is wrong. */
    private static void playNoSuchCard() {
        for (ArchivistTricks x : atEveryKindOfMoment()) {
            for (int card : NO_CARDS) {
                Standing.refused("play(" + card + ")", NO_CARD, x, () -> x.play(card));
            }
        }
    }

    /** "Throws IllegalStateException if whyNot() is not 0": 1, 2, 3, 4, 5 each. */
    private static void playRefusedForEachReason() {
        notPlayed("no game", 1, new ArchivistTricks(), 0);
        notPlayed("over", 1, Game.OF_18.after(42), 41);
        notPlayed("the other one's", 2, Game.OF_18.after(0), 18);
        notPlayed("in the pile", 2, Game.OF_18.after(0), 0);
        notPlayed("led", 2, Game.OF_18.after(1), 4);
        notPlayed("taken", 2, Game.OF_18.after(2), 18);
        notPlayed("mildew to lead", 3, Game.OF_18.after(36), 41);
        notPlayed("not of the provenance led", 4, Game.OF_98.after(31), 6);
        notPlayed("not a trump", 5, Game.OF_11.after(31), 33);
        ArchivistTricks x = Game.OF_98.after(31);
        x.putOnGloves();
        notPlayed("gloves stay on", 4, x, 41);
        Checks.due("still on", 1, x.gloves(0));
        Checks.due("then played", 0, x.play(10));
    }

    private static void notPlayed(String what, int reason, ArchivistTricks x, int card) {
        Standing.told(what + ": whyNot(" + card + ")", reason, x, () -> x.whyNot(card));
        Standing.refused(what + ": play(" + card + ")", NOT_NOW, x, () -> x.play(card));
    }

    /** "Returns the archivist who takes the trick by that; -1 if the trick has one card now." */
    private static void playAnswersWhoTakes() {
        ArchivistTricks x = new ArchivistTricks();
        x.deal(68L);
        int[] takers = {1, 1, 1, 1, 1, 1, 1, 1, 1, 1, 1, 1, 1, 1, 1, 0, 0, 1, 1, 1, 1};
        for (int trick = 0; trick < 21; trick++) {
            String what = "trick " + trick + " of deal(68)";
            Checks.due(what + ": one card", -1, x.play(Game.OF_68.moves[2 * trick]));
            Checks.due(what + ": two", takers[trick], x.play(Game.OF_68.moves[2 * trick + 1]));
        }
    }

    // ---- Promise 4: putOnGloves

    /** "Throws IllegalStateException if there is no game, it is over" */
    private static void glovesWithoutAGame() {
        ArchivistTricks x = new ArchivistTricks();
        Standing.refused("no game: putOnGloves()", NOT_NOW, x, () -> x.putOnGloves());
        ArchivistTricks y = Game.OF_18.after(42);
        Standing.refused("over: putOnGloves()", NOT_NOW, y, () -> y.putOnGloves());
        Checks.due("over: gloves(0)", 0, y.gloves(0));
        Checks.due("over: gloves(1)", 0, y.gloves(1));
        y.deal(18L);
        Checks.due("dealt again: putOnGloves()", 0, y.putOnGloves());
    }

    /** ".. or the gloves are on, or gone": those of the one whose turn it is. */
    private static void glovesOnOrGone() {
        ArchivistTricks x = Game.OF_18.after(30);
        Checks.due("0 leads: putOnGloves()", 0, x.putOnGloves());
        Standing.refused("on: putOnGloves()", NOT_NOW, x, () -> x.putOnGloves());
        x.play(25);
        Checks.due("on with the other one only: putOnGloves()", 1, x.putOnGloves());
        x.play(14);
        Standing.refused("gone: putOnGloves()", NOT_NOW, x, () -> x.putOnGloves());
        ArchivistTricks y = Game.OF_18.after(0);
        y.putOnGloves();
        Game.OF_18.playOn(y, 0, 2);
        Checks.due("gone with the other one only: putOnGloves()", 1, y.putOnGloves());
    }

    // ---- Promise 5: whyNot

    private static void whyNotNoSuchCard() {
        for (ArchivistTricks x : atEveryKindOfMoment()) {
            for (int card : NO_CARDS) {
                Standing.refused("whyNot(" + card + ")", NO_CARD, x, () -> x.whyNot(card));
            }
        }
    }

    /** "1: there is no game, or it is over": of each of the 42. */
    private static void whyNotWithoutAGame() {
        ArchivistTricks x = new ArchivistTricks();
        ArchivistTricks y = Game.OF_18.after(42);
        for (int card = 0; card < 42; card++) {
            Checks.due("no game: whyNot(" + card + ")", 1, x.whyNot(card));
            Checks.due("over: whyNot(" + card + ")", 1, y.whyNot(card));
        }
        Checks.due("one card is left: whyNot(41)", 0, Game.OF_18.after(41).whyNot(41));
        Checks.due("one card is left: whyNot(29)", 2, Game.OF_18.after(41).whyNot(29));
    }

    /** "Returns the first of these that applies" */
    private static void whyNotTheFirstThatApplies() {
        ArchivistTricks x = Game.OF_18.after(0);
        Checks.due("2, and it would be 3: whyNot(40)", 2, x.whyNot(40));
        Checks.due("2, and it would be 3: whyNot(41)", 2, x.whyNot(41));
        ArchivistTricks y = Game.OF_98.after(31);
        // 17 is led; 0 has 6 10 13 24 30 41, 1 has 7 8 12 23 36; 2 is trumps.
        Checks.due("2, and it would be 4: whyNot(36)", 2, y.whyNot(36));
        Checks.due("2, and it would follow: whyNot(12)", 2, y.whyNot(12));
        Checks.due("2, the one led: whyNot(17)", 2, y.whyNot(17));
        Checks.due("4, though it is a trump: whyNot(24)", 4, y.whyNot(24));
        Checks.due("4, though it is mildew: whyNot(41)", 4, y.whyNot(41));
        ArchivistTricks z = Game.OF_11.after(31);
        // 17 is led; 0 has 23 24 32 33 40 41, 1 has 5 16 20 21 31; 2 is trumps.
        Checks.due("2, and it would be 5: whyNot(31)", 2, z.whyNot(31));
        Checks.due("2, and it would be a trump: whyNot(20)", 2, z.whyNot(20));
        Checks.due("2, and it would follow: whyNot(16)", 2, z.whyNot(16));
        Checks.due("5, and not 3: whyNot(40)", 5, z.whyNot(40));
        Checks.due("0: whyNot(24)", 0, z.whyNot(24));
    }

    // ---- Promises 6 to 10

    private static void isPlayingFromDealToTheLastCard() {
        ArchivistTricks x = new ArchivistTricks();
        for (int game = 0; game < 2; game++) {
            Checks.due("ahead of deal: isPlaying()", false, x.isPlaying());
            x.deal(18L);
            for (int i = 0; i < 42; i++) {
                Checks.due("after " + i + ": isPlaying()", true, x.isPlaying());
                x.play(Game.OF_18.moves[i]);
            }
            Checks.due("over: isPlaying()", false, x.isPlaying());
        }
    }

    private static void turnOfEachMove() {
        // Who plays each card of that game, as the one who took the trick before leads.
        int[] movers = {
            0, 1, 1, 0, 1, 0, 1, 0, 0, 1, 0, 1, 0, 1, 1, 0, 1, 0, 0, 1, 1,
            0, 1, 0, 1, 0, 1, 0, 1, 0, 0, 1, 1, 0, 1, 0, 1, 0, 1, 0, 0, 1};
        ArchivistTricks x = new ArchivistTricks();
        Checks.due("new: turn()", -1, x.turn());
        x.deal(18L);
        for (int i = 0; i < 42; i++) {
            Checks.due("after " + i + ": turn()", movers[i], x.turn());
            x.play(Game.OF_18.moves[i]);
        }
        Checks.due("over: turn()", -1, x.turn());
    }

    /** "The card that is led; -1 if none is": the card 0 is one, too. */
    private static void ledFromLeadToReply() {
        ArchivistTricks x = Game.OF_18.after(0);
        for (int i = 0; i < 42; i++) {
            int want = i % 2 == 0 ? -1 : Game.OF_18.moves[i - 1];
            Checks.due("after " + i + ": led()", want, x.led());
            x.play(Game.OF_18.moves[i]);
        }
        Checks.due("over: led()", -1, x.led());
        Checks.due("0 is led", 0, Game.OF_18.after(3).led());
        Checks.due("40 is led", 40, Game.OF_18.after(39).led());
        ArchivistTricks y = Game.OF_18.after(3);
        y.deal(18L);
        Checks.due("given up: led()", -1, y.led());
    }

    /** "-1 if no game was dealt": a game that is over was dealt. */
    private static void trumpsSinceTheFirstDeal() {
        ArchivistTricks x = new ArchivistTricks();
        Checks.due("new: trumps()", -1, x.trumps());
        x.deal(53L);
        Checks.due("53: trumps()", 3, x.trumps());
        Game.OF_53.playOn(x, 0, 41);
        Checks.due("one card is left: trumps()", 3, x.trumps());
        Game.OF_53.playOn(x, 41, 42);
        Checks.due("over: trumps()", 3, x.trumps());
        x.deal(68L);
        Checks.due("68: trumps()", 0, x.trumps());
    }

    private static void pileDownToNothing() {
        ArchivistTricks x = new ArchivistTricks();
        Checks.due("new: pile()", 0, x.pile());
        x.deal(18L);
        for (int i = 0; i < 42; i++) {
            int want = i < 30 ? 30 - i / 2 * 2 : 0;
            Checks.due("after " + i + ": pile()", want, x.pile());
            x.play(Game.OF_18.moves[i]);
        }
        Checks.due("over: pile()", 0, x.pile());
        x.deal(18L);
        Checks.due("dealt again: pile()", 30, x.pile());
    }

    // ---- Promises 11 and 12: cards, cardAt

    private static void cardsFromSixToNone() {
        ArchivistTricks x = Game.OF_18.after(0);
        for (int i = 0; i < 42; i++) {
            int full = i < 30 ? 6 : 6 - (i - 30) / 2;
            int mover = x.turn();
            Checks.due("after " + i + ": cards of the mover", full, x.cards(mover));
            Checks.due("after " + i + ": cards of the other one",
                    full - i % 2, x.cards(1 - mover));
            x.play(Game.OF_18.moves[i]);
        }
        Checks.due("over: cards(0)", 0, x.cards(0));
        Checks.due("over: cards(1)", 0, x.cards(1));
    }

    private static void cardsOfNobody() {
        for (ArchivistTricks x : atEveryKindOfMoment()) {
            for (int wrong : NOBODIES) {
                Standing.refused("cards(" + wrong + ")", NOBODY, x, () -> x.cards(wrong));
            }
        }
    }

    /** "place: from 0": the first, the last, and one behind, as the hand gets smaller. */
    private static void cardAtBothEnds() {
        ArchivistTricks x = Game.OF_18.after(0);
        Checks.due("the first of 0", 4, x.cardAt(0, 0));
        Checks.due("the last of 0", 37, x.cardAt(0, 5));
        Checks.due("the first of 1", 18, x.cardAt(1, 0));
        Checks.due("the last of 1", 36, x.cardAt(1, 5));
        ends("six", x, 0, 6);
        x.play(4);
        ends("five, as one is led", x, 0, 5);
        Checks.due("the next is the first", 8, x.cardAt(0, 0));
        ArchivistTricks y = Game.OF_18.after(40);
        ends("one", y, 0, 1);
        Checks.due("the only one", 29, y.cardAt(0, 0));
        y.play(29);
        ends("none", y, 0, 0);
        ends("one of mildew", y, 1, 1);
        Checks.due("the only one is mildew", 41, y.cardAt(1, 0));
        y.play(41);
        ends("over", y, 1, 0);
    }

    private static void ends(String what, ArchivistTricks x, int archivist, int count) {
        for (int place = 0; place < count; place++) {
            Checks.due(what + ": has what it tells",
                    archivist, x.placeOf(x.cardAt(archivist, place)));
        }
        Standing.refused(what + ": cardAt(.., " + count + ")", NOBODY, x,
                () -> x.cardAt(archivist, count));
    }

    /** "Throws .. if there is no such archivist, or not so many cards" */
    private static void cardAtNoSuchPlace() {
        int[] wrongPlaces = {
            -1, -2, 6, 7, 41, 42, 64, 256, Integer.MIN_VALUE, Integer.MAX_VALUE};
        for (ArchivistTricks x : atEveryKindOfMoment()) {
            for (int a = 0; a < 2; a++) {
                int archivist = a;
                for (int place : wrongPlaces) {
                    Standing.refused("cardAt(" + a + ", " + place + ")", NOBODY, x,
                            () -> x.cardAt(archivist, place));
                }
            }
            for (int wrong : NOBODIES) {
                Standing.refused("cardAt(" + wrong + ", 0)", NOBODY, x, () -> x.cardAt(wrong, 0));
                Standing.refused("cardAt(" + wrong + ", -1)", NOBODY, x,
                        () -> x.cardAt(wrong, -1));
            }
        }
    }

    /** "by rising numbers of cards": the new one among the old ones, mildew last. */
    private static void cardAtByRisingNumbers() {
        for (int moves = 0; moves < 42; moves++) {
            ArchivistTricks x = Game.OF_18.after(moves);
            for (int a = 0; a < 2; a++) {
                for (int place = 1; place < x.cards(a); place++) {
                    Checks.judge(x.cardAt(a, place - 1) < x.cardAt(a, place),
                            "after " + moves + ": cardAt(" + a + ", " + place + ") does not rise");
                }
            }
        }
        ArchivistTricks y = Game.OF_18.after(2);
        Checks.due("0 was drawn and is the first", 0, y.cardAt(1, 0));
        Checks.due("9 was drawn and is the second", 9, y.cardAt(0, 1));
        Checks.due("mildew is the last", 41, Game.OF_18.after(38).cardAt(1, 1));
    }

    // ---- Promise 13: placeOf

    private static void placeOfEachKind() {
        ArchivistTricks x = new ArchivistTricks();
        counted("new", x, 42, 0, 0, 0, 0, 0, 0);
        x.deal(18L);
        counted("dealt", x, 0, 6, 6, 30, 0, 0, 0);
        x.play(4);
        counted("one is led", x, 0, 5, 6, 30, 1, 0, 0);
        Checks.due("it is led", 3, x.placeOf(4));
        x.play(18);
        counted("1 took the trick", x, 0, 6, 6, 28, 0, 0, 2);
        Checks.due("taken by 1", 5, x.placeOf(4));
        Checks.due("taken by 1", 5, x.placeOf(18));
        Game.OF_18.playOn(x, 2, 8);
        counted("0 took the fourth", x, 0, 6, 6, 22, 0, 2, 6);
        Checks.due("taken by 0", 4, x.placeOf(16));
        Game.OF_18.playOn(x, 8, 29);
        counted("two in the pile", x, 0, 6, 5, 2, 1, 8, 20);
        Checks.due("turned up, and in the pile", 2, x.placeOf(14));
        Game.OF_18.playOn(x, 29, 30);
        counted("none in the pile", x, 0, 6, 6, 0, 0, 10, 20);
        Game.OF_18.playOn(x, 30, 42);
        counted("over", x, 0, 0, 0, 0, 0, 14, 28);
        x.deal(18L);
        counted("dealt again", x, 0, 6, 6, 30, 0, 0, 0);
    }

    /** How many of the 42 cards are said to be at -1, 0, 1, .. 5. */
    private static void counted(String what, ArchivistTricks x, int... want) {
        int[] got = new int[7];
        for (int card = 0; card < 42; card++) {
            got[x.placeOf(card) + 1]++;
        }
        for (int place = 0; place < 7; place++) {
            Checks.due(what + ": cards at " + (place - 1), want[place], got[place]);
        }
    }

    private static void placeOfNoSuchCard() {
        for (ArchivistTricks x : atEveryKindOfMoment()) {
            for (int card : NO_CARDS) {
                Standing.refused("placeOf(" + card + ")", NO_CARD, x, () -> x.placeOf(card));
            }
        }
    }

    // ---- Promises 14 to 16: points, tricks, gloves

    /** "What an archivist has got so far in this game": not ahead of it, nor of another one. */
    private static void pointsFromNothing() {
        ArchivistTricks x = Game.OF_18.after(1);
        Checks.due("one card is played: points(0)", 0, x.points(0));
        Checks.due("one card is played: points(1)", 0, x.points(1));
        x.play(18);
        Checks.due("4 and 18: points(0)", 0, x.points(0));
        Checks.due("4 and 18: points(1)", 6 + 2, x.points(1));
        Game.OF_18.playOn(x, 2, 42);
        Checks.due("over: points(0)", 65, x.points(0));
        Checks.due("over: points(1)", 145, x.points(1));
        x.deal(18L);
        Checks.due("another game: points(0)", 0, x.points(0));
        Checks.due("another game: points(1)", 0, x.points(1));
    }

    /** "perhaps below 0" */
    private static void pointsBelowZero() {
        ArchivistTricks x = new ArchivistTricks();
        x.deal(61L);
        x.play(39);
        x.play(40);
        Checks.due("39 and 40: points(0)", -4, x.points(0));
        Checks.due("39 and 40: points(1)", 0, x.points(1));
        x.deal(454L);
        x.play(0);
        x.play(40);
        Checks.due("0 and 40: points(0)", 5, x.points(0));
        ArchivistTricks y = new ArchivistTricks();
        y.deal(61L);
        y.putOnGloves();
        y.play(39);
        y.play(40);
        Checks.due("39 and 40 with gloves: points(0)", 1, y.points(0));
    }

    private static void tricksFromNoneToTwentyOne() {
        ArchivistTricks x = Game.OF_18.after(0);
        for (int i = 0; i < 42; i++) {
            Checks.due("after " + i + ": tricks of both", i / 2, x.tricks(0) + x.tricks(1));
            x.play(Game.OF_18.moves[i]);
        }
        Checks.due("over: tricks(0)", 7, x.tricks(0));
        Checks.due("over: tricks(1)", 14, x.tricks(1));
        x.deal(18L);
        Checks.due("another game: tricks(0)", 0, x.tricks(0));
        Checks.due("another game: tricks(1)", 0, x.tricks(1));
    }

    private static void pointsAndTricksOfNobody() {
        for (ArchivistTricks x : atEveryKindOfMoment()) {
            for (int wrong : NOBODIES) {
                Standing.refused("points(" + wrong + ")", NOBODY, x, () -> x.points(wrong));
                Standing.refused("tricks(" + wrong + ")", NOBODY, x, () -> x.tricks(wrong));
            }
        }
    }

    private static void glovesOfEachKind() {
        ArchivistTricks x = Game.OF_18.after(0);
        Checks.due("not put on yet: gloves(0)", 0, x.gloves(0));
        x.putOnGloves();
        Checks.due("on: gloves(0)", 1, x.gloves(0));
        Checks.due("not put on yet: gloves(1)", 0, x.gloves(1));
        Game.OF_18.playOn(x, 0, 2);
        Checks.due("gone: gloves(0)", 2, x.gloves(0));
        Game.OF_18.playOn(x, 2, 41);
        x.putOnGloves();
        Checks.due("on at the last card: gloves(1)", 1, x.gloves(1));
        x.play(41);
        Checks.due("gone at the last card: gloves(1)", 2, x.gloves(1));
        Checks.due("gone when it is over: gloves(0)", 2, x.gloves(0));
        x.deal(18L);
        Checks.due("another game: gloves(0)", 0, x.gloves(0));
        Checks.due("another game: gloves(1)", 0, x.gloves(1));
        x.putOnGloves();
        x.deal(18L);
        Checks.due("given up while they are on: gloves(0)", 0, x.gloves(0));
    }

    private static void glovesOfNobody() {
        for (ArchivistTricks x : atEveryKindOfMoment()) {
            for (int wrong : NOBODIES) {
                Standing.refused("gloves(" + wrong + ")", NOBODY, x, () -> x.gloves(wrong));
            }
        }
    }

    // ---- Promise 17: choices

    private static void choicesFromNoneToSix() {
        Checks.due("no game: choices()", 0, new ArchivistTricks().choices());
        Checks.due("six to lead: choices()", 6, Game.OF_18.after(0).choices());
        Checks.due("six to reply: choices()", 6, Game.OF_18.after(1).choices());
        Checks.due("mildew cannot be led: choices()", 5, Game.OF_18.after(14).choices());
        Checks.due("nor can both: choices()", 1, Game.OF_18.after(36).choices());
        Checks.due("nothing but both: choices()", 2, Game.OF_18.after(38).choices());
        Checks.due("two in the pile: choices()", 6, Game.OF_5.after(29).choices());
        Checks.due("two to follow: choices()", 2, Game.OF_98.after(31).choices());
        Checks.due("one to follow: choices()", 1, Game.OF_87.after(31).choices());
        Checks.due("two trumps: choices()", 2, Game.OF_11.after(31).choices());
        Checks.due("one trump: choices()", 1, Game.OF_18.after(31).choices());
        Checks.due("neither: choices()", 4, Game.OF_11.after(35).choices());
        Checks.due("to mildew: choices()", 2, Game.OF_87.after(39).choices());
        Checks.due("the last card: choices()", 1, Game.OF_18.after(41).choices());
        Checks.due("over: choices()", 0, Game.OF_18.after(42).choices());
    }

    // ---- Promise 18: wouldTake

    /** "card: 0 to 41, whoever has it": the mover, the other one, the pile, or who took it. */
    private static void wouldTakeWhoeverHasIt() {
        ArchivistTricks x = Game.OF_18.after(29);
        // 1 led 34, 1 is trumps, two are in the pile.
        int[] takenByReply = {
            10, 11, 12, 13, 14, 15, 16, 17, 18, 19, 30, 31, 32, 33};
        for (int card = 0; card < 42; card++) {
            int asked = card;
            int want = 1;
            for (int one : takenByReply) {
                want = one == card ? 0 : want;
            }
            if (card == 34) {
                Standing.refused("it is this one", NOT_NOW, x, () -> x.wouldTake(asked));
            } else {
                Standing.told("to 34: wouldTake(" + card + ")", want, x,
                        () -> x.wouldTake(asked));
            }
        }
        Checks.due("the mover's: placeOf(10)", 0, x.placeOf(10));
        Checks.due("the leader's: placeOf(35)", 1, x.placeOf(35));
        Checks.due("in the pile: placeOf(14)", 2, x.placeOf(14));
        Checks.due("taken by 0: placeOf(16)", 4, x.placeOf(16));
        Checks.due("taken by 1: placeOf(18)", 5, x.placeOf(18));
        ArchivistTricks y = Game.OF_18.after(39);
        for (int card = 0; card < 42; card++) {
            int asked = card;
            if (card != 40) {
                Standing.told("to 40: wouldTake(" + card + ")", card < 40 ? 0 : 1, y,
                        () -> y.wouldTake(asked));
            }
        }
        ArchivistTricks z = Game.OF_98.after(31);
        Checks.due("it may not be played, but it would take: wouldTake(24)", 0, z.wouldTake(24));
    }

    /** "Throws IllegalStateException if no card is led, or it is this one" */
    private static void wouldTakeRefused() {
        for (ArchivistTricks x : atEveryKindOfMoment()) {
            for (int card = 0; card < 42; card++) {
                int asked = card;
                if (x.led() == -1 || x.led() == card) {
                    Standing.refused("wouldTake(" + card + ")", NOT_NOW, x,
                            () -> x.wouldTake(asked));
                }
            }
        }
        ArchivistTricks y = Game.OF_18.after(3);
        Standing.refused("0 is led: wouldTake(0)", NOT_NOW, y, () -> y.wouldTake(0));
        Standing.told("0 is led: wouldTake(1)", 1, y, () -> y.wouldTake(1));
    }

    private static void wouldTakeNoSuchCard() {
        for (ArchivistTricks x : atEveryKindOfMoment()) {
            for (int card : NO_CARDS) {
                Standing.refused("wouldTake(" + card + ")", NO_CARD, x, () -> x.wouldTake(card));
            }
        }
    }

    // ---- Promises 19 and 20: best, bestCard

    /** "Throws IllegalStateException if the pile is not empty": two are left in it, or none. */
    private static void bestWithAnEmptyPileOnly() {
        for (int moves = 0; moves < 30; moves++) {
            ArchivistTricks x = Game.OF_18.after(moves);
            Standing.refused("after " + moves + ": best()", NOT_NOW, x, () -> x.best());
            Standing.refused("after " + moves + ": bestCard()", NOT_NOW, x, () -> x.bestCard());
        }
        ArchivistTricks y = Game.OF_18.after(30);
        Standing.told("none in the pile: best()", -26, y, () -> y.best());
        Standing.told("none in the pile: bestCard()", 28, y, () -> y.bestCard());
    }

    /** ".. there is no game, or it is over" */
    private static void bestWithoutAGame() {
        ArchivistTricks x = new ArchivistTricks();
        Standing.refused("no game: best()", NOT_NOW, x, () -> x.best());
        Standing.refused("no game: bestCard()", NOT_NOW, x, () -> x.bestCard());
        ArchivistTricks y = Game.OF_18.after(41);
        Standing.told("the last card: best()", 4, y, () -> y.best());
        Standing.told("the last card: bestCard()", 41, y, () -> y.bestCard());
        y.play(41);
        Standing.refused("over: best()", NOT_NOW, y, () -> y.best());
        Standing.refused("over: bestCard()", NOT_NOW, y, () -> y.bestCard());
        y.deal(18L);
        Standing.refused("dealt again: best()", NOT_NOW, y, () -> y.best());
        Standing.refused("dealt again: bestCard()", NOT_NOW, y, () -> y.bestCard());
    }

    private static void bestIs(String what, ArchivistTricks x, int points, int card) {
        Standing.told(what + ": best()", points, x, () -> x.best());
        Standing.told(what + ": bestCard()", card, x, () -> x.bestCard());
    }

    /** "Returns the points, perhaps below 0": of the one whose turn it is, leading or not. */
    private static void bestAboveAtAndBelowZero() {
        bestIs("1 leads, above", Game.OF_68.after(30), 23, 0);
        bestIs("0 replies, below", Game.OF_68.after(31), -23, 2);
        bestIs("1 leads, at zero", Game.OF_53.after(34), 0, 36);
        bestIs("0 replies, at zero", Game.OF_53.after(35), 0, 33);
        bestIs("0 leads, below", Game.OF_53.after(32), -4, 29);
        bestIs("1 replies, above", Game.OF_53.after(33), 8, 35);
        // What has been got so far does not count.
        bestIs("0 leads, from now on", Game.OF_18.after(40), -4, 29);
    }

    /** "and nobody puts gloves on any more": though he could, and would gain by it. */
    private static void bestWithNoMoreGloves() {
        ArchivistTricks x = Game.OF_68.after(40);
        Checks.due("he could: gloves(1)", 0, x.gloves(1));
        bestIs("not put on", x, -10, 40);
        x.putOnGloves();
        bestIs("put on", x, 0, 40);
        ArchivistTricks y = Game.OF_18.after(39);
        bestIs("not put on, two tricks", y, -7, 28);
        ArchivistTricks z = Game.OF_16.after(34);
        bestIs("not put on, four tricks", z, -6, 8);
    }

    /** "those that are on are worn until the trick at hand is taken" */
    private static void bestWithGlovesThatAreOn() {
        ArchivistTricks x = Game.OF_18.after(39);
        x.putOnGloves();
        // 28 gets 2 and nothing for 40; 41 costs 5 in the trick behind: 2 + 1 - 5.
        bestIs("not worn in the trick behind", x, -2, 28);
        ArchivistTricks y = Game.OF_16.after(34);
        y.putOnGloves();
        bestIs("the leader's, ahead of his lead", y, -4, 16);
        y.play(36);
        bestIs("the leader's, behind his lead", y, 4, 26);
        y.putOnGloves();
        bestIs("both", y, 4, 26);
        ArchivistTricks z = Game.OF_16.after(35);
        bestIs("nobody's", z, 6, 40);
        z.putOnGloves();
        bestIs("the replying one's, of no use", z, 6, 40);
        ArchivistTricks gone = Game.OF_68.after(38);
        gone.putOnGloves();
        Game.OF_68.playOn(gone, 38, 40);
        bestIs("gone", gone, -10, 40);
    }

    /** "of several the one with the lowest number" */
    private static void bestCardOfSeveral() {
        bestIs("28 and 29 are the same", Game.OF_18.after(39), -7, 28);
        bestIs("40 and 41 are the same", Game.OF_18.after(38), 7, 40);
        // By 6 it would be -25, by 30 and 33 it is 7.
        bestIs("the second of three", Game.OF_37.after(36), 7, 30);
        // By 0 24 26 it is less, by 39 and 40 it is -1.
        bestIs("the fourth of five", Game.OF_16.after(33), -1, 39);
        bestIs("17 18 35 are the same", Game.OF_89.after(32), -29, 17);
        bestIs("the highest that may be led alone", Game.OF_42.after(32), 10, 18);
        bestIs("only one may be played", Game.OF_87.after(31), 27, 10);
        bestIs("1 and 12 are the same", Game.OF_28.after(39), 7, 1);
    }

    /** What was found out for one game is not told of another one. */
    private static void bestOfEachGame() {
        ArchivistTricks x = new ArchivistTricks();
        int[] points = new int[] {-26, 23, -26};
        Game[] games = {Game.OF_18, Game.OF_68, Game.OF_18};
        for (int i = 0; i < 3; i++) {
            x.deal(games[i].seed);
            games[i].playOn(x, 0, 30);
            Checks.due("game " + i + ": best()", points[i], x.best());
            games[i].playOn(x, 30, 36);
            Checks.due("game " + i + ", later: best()", i == 1 ? 23 : 7, x.best());
        }
    }

    // ---- Promises 21 and 22: wonByFirst, wonBySecond

    private static void won(String what, ArchivistTricks x, int first, int second) {
        Checks.due(what + ": wonByFirst()", first, x.wonByFirst());
        Checks.due(what + ": wonBySecond()", second, x.wonBySecond());
    }

    private static void wonByOnePoint() {
        ArchivistTricks x = Game.OF_49.after(44);
        Checks.due("108 to 107: points(0)", 108, x.points(0));
        Checks.due("108 to 107: points(1)", 107, x.points(1));
        won("108 to 107", x, 1, 0);
        ArchivistTricks y = Game.OF_9.after(44);
        Checks.due("107 to 108: points(0)", 107, y.points(0));
        Checks.due("107 to 108: points(1)", 108, y.points(1));
        won("107 to 108", y, 0, 1);
    }

    private static void wonByPointsNotByTricks() {
        ArchivistTricks x = Game.OF_27.after(42);
        Checks.due("110 to 100: tricks(0)", 8, x.tricks(0));
        Checks.due("110 to 100: tricks(1)", 13, x.tricks(1));
        won("8 tricks to 13", x, 1, 0);
        ArchivistTricks y = Game.OF_9.after(44);
        Checks.due("107 to 108: tricks(0)", 11, y.tricks(0));
        Checks.due("107 to 108: tricks(1)", 10, y.tricks(1));
        won("11 tricks to 10", y, 0, 1);
    }

    private static void wonByNobody() {
        ArchivistTricks x = Game.OF_53.after(42);
        Checks.due("105 to 105: points(0)", 105, x.points(0));
        Checks.due("105 to 105: points(1)", 105, x.points(1));
        Checks.due("105 to 105: isPlaying()", false, x.isPlaying());
        won("105 to 105", x, 0, 0);
    }

    /** "How many games were over": not one that is on, nor one that was given up. */
    private static void wonOnlyWhenOver() {
        for (int moves = 0; moves < 42; moves++) {
            ArchivistTricks x = Game.OF_27.after(moves);
            won("after " + moves, x, 0, 0);
            x.deal(27L);
            won("given up after " + moves, x, 0, 0);
        }
        ArchivistTricks y = Game.OF_27.after(41);
        y.play(41);
        won("over", y, 1, 0);
        Standing.refused("over: play(41)", NOT_NOW, y, () -> y.play(41));
        won("over, and asked again", y, 1, 0);
    }

    private static void wonSoFar() {
        ArchivistTricks x = new ArchivistTricks();
        won("new", x, 0, 0);
        Game.OF_27.playWhole(x);
        won("one game", x, 1, 0);
        Game.OF_27.playWhole(x);
        won("two games", x, 2, 0);
        Game.OF_18.playWhole(x);
        won("three games", x, 2, 1);
        Game.OF_53.playWhole(x);
        won("four games", x, 2, 1);
        Game.OF_9.playWhole(x);
        won("five games", x, 2, 2);
        Game.OF_49.playWhole(x);
        won("six games", x, 3, 2);
    }

    /** "at most 512 calls": the 512th is still answered as the first one. */
    private static void upToTheLastCall() {
        ArchivistTricks x = new ArchivistTricks();
        int calls = 0;
        for (int game = 0; game < 11; game++) {
            Game one = game % 2 == 0 ? Game.OF_27 : Game.OF_18;
            one.playWhole(x);
            calls += 1 + one.moves.length;
        }
        while (calls < 510) {
            Checks.due("over: turn()", -1, x.turn());
            calls++;
        }
        won("the 511th and the 512th call", x, 6, 5);
        ArchivistTricks y = new ArchivistTricks();
        for (calls = 0; calls < 511 - 30; calls++) {
            y.deal(calls);
        }
        y.deal(18L);
        Game.OF_18.playOn(y, 0, 29);
        Checks.due("the 512th call: play(10)", 0, y.play(10));
        ArchivistTricks z = Game.OF_18.after(30);
        for (calls = 31; calls < 512; calls++) {
            Checks.due("call " + calls + ": best", calls % 2 == 0 ? -26 : 28,
                    calls % 2 == 0 ? z.best() : z.bestCard());
        }
    }
}
