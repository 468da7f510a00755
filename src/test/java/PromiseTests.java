/**
 * Each promise by written-out answers: what is ordinary, the edges that the document names, and
 * wrong calls. The answers come from the document, worked out by hand or by
 * PlainModel; none is taken from the program.
 */
public final class PromiseTests {
    private static final Class<IllegalArgumentException> NO_CARD = IllegalArgumentException.class;
    private static final Class<IllegalStateException> NOT_NOW = IllegalStateException.class;
    private static final Class<IndexOutOfBoundsException> NOBODY = IndexOutOfBoundsException.class;

    private PromiseTests() {
    }

    public static void main(String[] args) {
        newObject();
        deal();
        dealGivesUp();
        play();
        playRefuses();
        whoTakes();
        drawing();
        gloves();
        glovesAndMildew();
        glovesRefused();
        whyNotBeforeAndAfter();
        whyNotWithPile();
        whyNotAtTheEnd();
        isPlayingTurnAndLed();
        trumps();
        pile();
        cards();
        placeOf();
        pointsAndTricks();
        choices();
        wouldTake();
        wouldTakeRefuses();
        best();
        bestWithGloves();
        bestRefuses();
        won();
        Checks.end("PromiseTests");
    }

    private static void hand(String what, ArchivistTricks x, int archivist, int... want) {
        Checks.due(what + ": cards(" + archivist + ")", want.length, x.cards(archivist));
        for (int place = 0; place < want.length; place++) {
            Checks.due(what + ": cardAt(" + archivist + ", " + place + ")",
                    want[place], x.cardAt(archivist, place));
        }
    }

    private static void newObject() {
        ArchivistTricks x = new ArchivistTricks();
        Checks.due("new: isPlaying()", false, x.isPlaying());
        Checks.due("new: turn()", -1, x.turn());
        Checks.due("new: led()", -1, x.led());
        Checks.due("new: trumps()", -1, x.trumps());
        Checks.due("new: pile()", 0, x.pile());
        Checks.due("new: choices()", 0, x.choices());
        Checks.due("new: wonByFirst()", 0, x.wonByFirst());
        Checks.due("new: wonBySecond()", 0, x.wonBySecond());
        for (int a = 0; a < 2; a++) {
            hand("new", x, a);
            Checks.due("new: points", 0, x.points(a));
            Checks.due("new: tricks", 0, x.tricks(a));
            Checks.due("new: gloves", 0, x.gloves(a));
        }
        for (int card = 0; card < 42; card++) {
            Checks.due("new: placeOf", -1, x.placeOf(card));
            Checks.due("new: whyNot", 1, x.whyNot(card));
        }
        Checks.throwing("new: play(0)", NOT_NOW, () -> x.play(0));
        Checks.throwing("new: putOnGloves()", NOT_NOW, () -> x.putOnGloves());
        Checks.throwing("new: wouldTake(0)", NOT_NOW, () -> x.wouldTake(0));
        Checks.throwing("new: best()", NOT_NOW, () -> x.best());
        Checks.throwing("new: bestCard()", NOT_NOW, () -> x.bestCard());
    }

    private static void deal() {
        ArchivistTricks x = new ArchivistTricks();
        dealt(x, 0L, 0, new int[] {9, 13, 16, 21, 25, 35}, new int[] {0, 6, 10, 14, 30, 38});
        dealt(x, 18L, 1, new int[] {4, 8, 12, 15, 25, 37}, new int[] {18, 19, 26, 30, 31, 36});
        dealt(x, -1L, 1, new int[] {0, 5, 7, 9, 16, 24}, new int[] {6, 11, 15, 26, 27, 31});
        dealt(x, 123456789012345L, 3,
                new int[] {0, 6, 8, 16, 26, 30}, new int[] {1, 3, 5, 9, 28, 29});
        dealt(x, Long.MAX_VALUE, 0,
                new int[] {1, 17, 21, 26, 31, 41}, new int[] {7, 19, 27, 32, 33, 40});
        dealt(x, Long.MIN_VALUE, 3,
                new int[] {10, 12, 13, 17, 24, 28}, new int[] {6, 9, 18, 27, 31, 37});
        // Mildew is turned up.
        dealt(x, 7L, 0, new int[] {9, 15, 21, 27, 29, 36}, new int[] {6, 7, 10, 13, 23, 32});
    }

    private static void dealt(ArchivistTricks x, long seed, int trumps, int[] first, int[] second) {
        String what = "deal(" + seed + ")";
        Checks.due(what, trumps, x.deal(seed));
        Checks.due(what + ": trumps()", trumps, x.trumps());
        hand(what, x, 0, first);
        hand(what, x, 1, second);
        Checks.due(what + ": turn()", 0, x.turn());
        Checks.due(what + ": pile()", 30, x.pile());
    }

    private static void dealGivesUp() {
        ArchivistTricks x = new ArchivistTricks();
        x.deal(18L);
        x.putOnGloves();
        Game.OF_18.playOn(x, 0, 32);
        x.putOnGloves();
        x.play(35);
        Checks.due("a game begins anew", 1, x.deal(18L));
        Checks.due("given up: isPlaying()", true, x.isPlaying());
        Checks.due("given up: turn()", 0, x.turn());
        Checks.due("given up: led()", -1, x.led());
        Checks.due("given up: pile()", 30, x.pile());
        Checks.due("given up: wonByFirst()", 0, x.wonByFirst());
        Checks.due("given up: wonBySecond()", 0, x.wonBySecond());
        for (int a = 0; a < 2; a++) {
            Checks.due("given up: points", 0, x.points(a));
            Checks.due("given up: tricks", 0, x.tricks(a));
            Checks.due("given up: gloves", 0, x.gloves(a));
        }
        for (int card = 0; card < 42; card++) {
            Checks.due("given up: nothing is led or taken", true, x.placeOf(card) <= 2);
        }
        Game.OF_18.playOn(x, 0, 42);
        Checks.due("given up, played again: wonBySecond()", 1, x.wonBySecond());
    }

    private static void play() {
        ArchivistTricks x = new ArchivistTricks();
        x.deal(18L);
        // Who takes each trick of that game.
        int[] takers = {1, 1, 1, 0, 0, 0, 1, 1, 0, 1, 1, 1, 1, 1, 0, 1, 1, 1, 1, 0, 0};
        for (int trick = 0; trick < takers.length; trick++) {
            Checks.due("play to lead", -1, x.play(Game.OF_18.moves[2 * trick]));
            Checks.due("play to take", takers[trick], x.play(Game.OF_18.moves[2 * trick + 1]));
            boolean over = trick == takers.length - 1;
            Checks.due("who takes leads", over ? -1 : takers[trick], x.turn());
        }
        Checks.due("all is played: isPlaying()", false, x.isPlaying());
    }

    private static void playRefuses() {
        ArchivistTricks x = Game.OF_18.after(14);
        for (int card : new int[] {-1, 42, Integer.MIN_VALUE, Integer.MAX_VALUE, 64, 63}) {
            Checks.throwing("play(" + card + ")", NO_CARD, () -> x.play(card));
        }
        Checks.throwing("play what the other one has", NOT_NOW, () -> x.play(23));
        Checks.throwing("play what was taken", NOT_NOW, () -> x.play(4));
        Checks.throwing("play what is in the pile", NOT_NOW, () -> x.play(40));
        Checks.throwing("lead mildew", NOT_NOW, () -> x.play(41));
        hand("refused", x, 0, 6, 23, 25, 27, 37, 38);
        hand("refused", x, 1, 20, 30, 31, 35, 36, 41);
        Checks.due("refused: turn()", 1, x.turn());
        Checks.due("refused: led()", -1, x.led());
        Game.OF_18.playOn(x, 14, 31);
        Checks.throwing("not a trump", NOT_NOW, () -> x.play(35));
        Game.OF_18.playOn(x, 31, 33);
        Checks.throwing("not what is led", NOT_NOW, () -> x.play(27));
        Game.OF_18.playOn(x, 33, 42);
        Checks.throwing("play when it is over", NOT_NOW, () -> x.play(41));
        Checks.throwing("no card when it is over", NO_CARD, () -> x.play(42));
    }

    private static void whoTakes() {
        ArchivistTricks x = Game.OF_18.after(0);
        x.play(4);
        Checks.due("a trump takes another provenance", 1, x.play(18));
        x.play(0);
        Checks.due("the older one takes: it was led", 1, x.play(8));
        x.play(19);
        Checks.due("a trump that was led takes", 1, x.play(9));
        x.play(16);
        Checks.due("the older trump takes", 0, x.play(12));
        Game.OF_18.playOn(x, 8, 20);
        Checks.due("of two without a trump the led one takes", 20, x.play(7) == -1 ? 20 : 0);
        Checks.due("though the other one is of any date", 1, x.play(24));
        Game.OF_18.playOn(x, 22, 38);
        x.play(40);
        Checks.due("a dated card takes mildew that was led", 0, x.play(28));
        x.play(29);
        Checks.due("mildew takes nothing that is dated", 0, x.play(41));
        ArchivistTricks y = Game.OF_68.after(41);
        Checks.due("mildew that was led takes mildew", 1, y.play(41));
    }

    private static void drawing() {
        ArchivistTricks x = Game.OF_18.after(2);
        // 0 and 9 lie on top; the archivist 1 took the trick.
        hand("one trick", x, 0, 8, 9, 12, 15, 25, 37);
        hand("one trick", x, 1, 0, 19, 26, 30, 31, 36);
        Game.OF_18.playOn(x, 2, 8);
        // The archivist 0 took the fourth trick and draws 38, 1 draws 21.
        hand("four tricks", x, 0, 15, 23, 25, 27, 37, 38);
        hand("four tricks", x, 1, 21, 26, 30, 31, 35, 36);
        Game.OF_18.playOn(x, 8, 30);
        // The card that was turned up, 14, is the last.
        hand("the pile is empty", x, 0, 25, 27, 28, 29, 37, 38);
        hand("the pile is empty", x, 1, 14, 35, 36, 39, 40, 41);
        Game.OF_18.playOn(x, 30, 32);
        hand("nothing is drawn", x, 0, 27, 28, 29, 37, 38);
        hand("nothing is drawn", x, 1, 35, 36, 39, 40, 41);
    }

    private static void gloves() {
        ArchivistTricks x = Game.OF_18.after(0);
        Checks.due("the leader puts gloves on", 0, x.putOnGloves());
        Checks.due("on: gloves(0)", 1, x.gloves(0));
        Checks.due("not on: gloves(1)", 0, x.gloves(1));
        Checks.due("gloves change no turn", 0, x.turn());
        x.play(4);
        Checks.due("on till the trick is taken", 1, x.gloves(0));
        x.play(18);
        Checks.due("gone, whoever took it: gloves(0)", 2, x.gloves(0));
        Checks.due("still to use: gloves(1)", 0, x.gloves(1));
        x.play(0);
        Checks.throwing("gloves are gone", NOT_NOW, () -> x.putOnGloves());
        x.play(8);
        x.play(19);
        x.play(9);
        x.play(16);
        x.play(12);
        x.play(15);
        Checks.due("the second one puts gloves on", 1, x.putOnGloves());
        Checks.due("on: gloves(1)", 1, x.gloves(1));
        x.play(21);
        Checks.due("gone: gloves(1)", 2, x.gloves(1));
        ArchivistTricks y = Game.OF_18.after(41);
        Checks.due("gloves at the last card", 1, y.putOnGloves());
        y.play(41);
        Checks.due("gone when it is over", 2, y.gloves(1));
        Checks.due("never put on", 0, y.gloves(0));
        for (int wrong : new int[] {-1, 2, Integer.MIN_VALUE, Integer.MAX_VALUE}) {
            Checks.throwing("gloves(" + wrong + ")", NOBODY, () -> y.gloves(wrong));
        }
    }

    private static void glovesAndMildew() {
        ArchivistTricks x = Game.OF_68.after(40);
        Checks.due("ahead of mildew: points(1)", 206, x.points(1));
        x.putOnGloves();
        Game.OF_68.playOn(x, 40, 42);
        Checks.due("two of mildew with gloves: points(1)", 206, x.points(1));
        ArchivistTricks y = Game.OF_68.after(41);
        Checks.due("the other one's gloves", 0, y.putOnGloves());
        y.play(41);
        Checks.due("the other one's gloves do not help: points(1)", 196, y.points(1));
        Checks.due("they do not go to his account: points(0)", 14, y.points(0));
        ArchivistTricks z = Game.OF_18.after(39);
        z.putOnGloves();
        z.play(28);
        Checks.due("mildew worth nothing, the dated card all: points(0)", 74, z.points(0));
        z.play(29);
        z.play(41);
        Checks.due("mildew costs again: points(0)", 70, z.points(0));
    }

    private static void glovesRefused() {
        ArchivistTricks x = Game.OF_18.after(0);
        x.putOnGloves();
        Checks.throwing("gloves are on", NOT_NOW, () -> x.putOnGloves());
        Checks.due("still on", 1, x.gloves(0));
        Game.OF_18.playOn(x, 0, 42);
        Checks.throwing("gloves when it is over", NOT_NOW, () -> x.putOnGloves());
        Checks.due("refused when it is over: gloves(1)", 0, x.gloves(1));
        x.deal(1L);
        Checks.due("new gloves for a new game", 0, x.putOnGloves());
    }

    private static void whyNotBeforeAndAfter() {
        ArchivistTricks x = new ArchivistTricks();
        for (int card : new int[] {-1, 42, Integer.MIN_VALUE, Integer.MAX_VALUE, 64, -22}) {
            Checks.throwing("whyNot(" + card + ")", NO_CARD, () -> x.whyNot(card));
        }
        ArchivistTricks y = Game.OF_18.after(42);
        for (int card = 0; card < 42; card++) {
            Checks.due("over: whyNot(" + card + ")", 1, y.whyNot(card));
        }
    }

    private static void whyNotWithPile() {
        ArchivistTricks x = Game.OF_18.after(0);
        Checks.due("own: whyNot(4)", 0, x.whyNot(4));
        Checks.due("the other one's: whyNot(18)", 2, x.whyNot(18));
        Checks.due("in the pile: whyNot(0)", 2, x.whyNot(0));
        Checks.due("not held mildew: whyNot(41)", 2, x.whyNot(41));
        x.play(4);
        Checks.due("led: whyNot(4)", 2, x.whyNot(4));
        Game.OF_18.playOn(x, 1, 13);
        Checks.due("mildew as a reply: whyNot(41)", 0, x.whyNot(41));
        x.play(11);
        Checks.due("mildew led: whyNot(41)", 3, x.whyNot(41));
        x.play(20);
        x.play(6);
        Checks.due("one of two of mildew: whyNot(40)", 3, x.whyNot(40));
        Checks.due("one of two of mildew: whyNot(41)", 3, x.whyNot(41));
        Checks.due("beside mildew: whyNot(30)", 0, x.whyNot(30));
        // 0 and 6 could follow the led 9, and 0 is trumps; with a pile nobody has to.
        ArchivistTricks y = new ArchivistTricks();
        y.deal(0L);
        y.play(9);
        Checks.due("need not follow: whyNot(10)", 0, y.whyNot(10));
        Checks.due("may follow: whyNot(6)", 0, y.whyNot(6));
        ArchivistTricks z = Game.OF_18.after(29);
        // 34 is led with the last two cards in the pile; 37 and 38 could follow.
        Checks.due("the last with a pile: whyNot(25)", 0, z.whyNot(25));
    }

    private static void whyNotAtTheEnd() {
        ArchivistTricks x = Game.OF_18.after(31);
        // 25 is led; 14 is the only trump, and nothing of 20 to 29 is there.
        Checks.due("a trump: whyNot(14)", 0, x.whyNot(14));
        Checks.due("no trump: whyNot(35)", 5, x.whyNot(35));
        Checks.due("mildew is no trump: whyNot(40)", 5, x.whyNot(40));
        Checks.due("not held: whyNot(27)", 2, x.whyNot(27));
        x.play(14);
        x.play(35);
        Checks.due("follows: whyNot(37)", 0, x.whyNot(37));
        Checks.due("does not follow: whyNot(27)", 4, x.whyNot(27));
        Game.OF_18.playOn(x, 33, 37);
        Checks.due("neither to follow nor a trump: whyNot(27)", 0, x.whyNot(27));
        Checks.due("neither to follow nor a trump: whyNot(29)", 0, x.whyNot(29));
        x.play(27);
        Checks.due("nothing but mildew: whyNot(40)", 0, x.whyNot(40));
        Checks.due("nothing but mildew: whyNot(41)", 0, x.whyNot(41));
        x.play(40);
        Checks.due("anything to mildew: whyNot(28)", 0, x.whyNot(28));
        Checks.due("anything to mildew: whyNot(29)", 0, x.whyNot(29));
        ArchivistTricks y = Game.OF_68.after(31);
        // 25 is led, provenance 0 is trumps; the archivist 0 has 2 4 5 6 8 41.
        Checks.due("mildew for a trump: whyNot(41)", 5, y.whyNot(41));
        Game.OF_68.playOn(y, 31, 33);
        // 6 is led; the archivist 1 has 0 1 3 7 40.
        Checks.due("mildew to follow trumps: whyNot(40)", 4, y.whyNot(40));
        Checks.due("a trump to follow: whyNot(7)", 0, y.whyNot(7));
        ArchivistTricks w = Game.OF_28.after(39);
        // 41 is led; the archivist 1 has 1 and 12.
        Checks.due("a trump to mildew: whyNot(1)", 0, w.whyNot(1));
        Checks.due("no trump to mildew: whyNot(12)", 0, w.whyNot(12));
        Checks.due("anything to mildew: choices()", 2, w.choices());
        ArchivistTricks z = Game.OF_53.after(31);
        // 13 is led, provenance 3 is trumps; the archivist 0 has 27 29 31 33 38 39.
        Checks.due("no trump: whyNot(27)", 5, z.whyNot(27));
        Checks.due("any trump: whyNot(39)", 0, z.whyNot(39));
    }

    private static void isPlayingTurnAndLed() {
        ArchivistTricks x = Game.OF_18.after(0);
        Checks.due("dealt: isPlaying()", true, x.isPlaying());
        Checks.due("dealt: turn()", 0, x.turn());
        Checks.due("dealt: led()", -1, x.led());
        x.play(4);
        Checks.due("led: turn()", 1, x.turn());
        Checks.due("led: led()", 4, x.led());
        x.play(18);
        Checks.due("taken: turn()", 1, x.turn());
        Checks.due("taken: led()", -1, x.led());
        x.play(0);
        Checks.due("the card 0 is led", 0, x.led());
        Checks.due("the other one replies", 0, x.turn());
        Game.OF_18.playOn(x, 3, 41);
        Checks.due("one card is left: isPlaying()", true, x.isPlaying());
        Checks.due("one card is left: turn()", 1, x.turn());
        x.play(41);
        Checks.due("over: isPlaying()", false, x.isPlaying());
        Checks.due("over: turn()", -1, x.turn());
        Checks.due("over: led()", -1, x.led());
        x.deal(0L);
        Checks.due("dealt again: isPlaying()", true, x.isPlaying());
    }

    private static void trumps() {
        ArchivistTricks x = Game.OF_53.after(0);
        Checks.due("trumps()", 3, x.trumps());
        Game.OF_53.playOn(x, 0, 42);
        Checks.due("over: trumps()", 3, x.trumps());
        x.deal(68L);
        Checks.due("mildew turned up: trumps()", 0, x.trumps());
    }

    private static void pile() {
        ArchivistTricks x = Game.OF_18.after(0);
        for (int i = 0; i < 42; i++) {
            Checks.due("pile() after " + i, Math.max(0, 30 - i / 2 * 2), x.pile());
            x.play(Game.OF_18.moves[i]);
        }
        Checks.due("over: pile()", 0, x.pile());
    }

    private static void cards() {
        ArchivistTricks x = Game.OF_18.after(0);
        x.play(4);
        Checks.due("one is led: cards(0)", 5, x.cards(0));
        Checks.due("one is led: cards(1)", 6, x.cards(1));
        hand("one is led", x, 0, 8, 12, 15, 25, 37);
        Checks.throwing("cardAt(0, 5)", NOBODY, () -> x.cardAt(0, 5));
        Checks.due("cardAt(1, 5)", 36, x.cardAt(1, 5));
        for (int place : new int[] {-1, 6, 42, Integer.MIN_VALUE, Integer.MAX_VALUE}) {
            Checks.throwing("cardAt(1, " + place + ")", NOBODY, () -> x.cardAt(1, place));
        }
        for (int wrong : new int[] {-1, 2, Integer.MIN_VALUE, Integer.MAX_VALUE}) {
            Checks.throwing("cards(" + wrong + ")", NOBODY, () -> x.cards(wrong));
            Checks.throwing("cardAt(" + wrong + ", 0)", NOBODY, () -> x.cardAt(wrong, 0));
        }
        ArchivistTricks y = Game.OF_68.after(40);
        hand("mildew is left", y, 0, 41);
        hand("mildew is left", y, 1, 40);
        Game.OF_68.playOn(y, 40, 42);
        hand("over", y, 0);
        hand("over", y, 1);
        Checks.throwing("over: cardAt(0, 0)", NOBODY, () -> y.cardAt(0, 0));
    }

    private static void placeOf() {
        ArchivistTricks x = Game.OF_18.after(0);
        Checks.due("placeOf(4)", 0, x.placeOf(4));
        Checks.due("placeOf(18)", 1, x.placeOf(18));
        Checks.due("on the pile: placeOf(0)", 2, x.placeOf(0));
        Checks.due("turned up: placeOf(14)", 2, x.placeOf(14));
        x.play(4);
        Checks.due("led: placeOf(4)", 3, x.placeOf(4));
        x.play(18);
        Checks.due("taken by 1: placeOf(4)", 5, x.placeOf(4));
        Checks.due("taken by 1: placeOf(18)", 5, x.placeOf(18));
        Checks.due("drawn by 1: placeOf(0)", 1, x.placeOf(0));
        Checks.due("drawn by 0: placeOf(9)", 0, x.placeOf(9));
        Game.OF_18.playOn(x, 2, 8);
        Checks.due("taken by 0: placeOf(16)", 4, x.placeOf(16));
        Checks.due("taken by 0: placeOf(12)", 4, x.placeOf(12));
        Game.OF_18.playOn(x, 8, 42);
        for (int card = 0; card < 42; card++) {
            Checks.due("over: all is taken", true, x.placeOf(card) >= 4);
        }
        for (int card : new int[] {-1, 42, Integer.MIN_VALUE, Integer.MAX_VALUE, 64}) {
            Checks.throwing("placeOf(" + card + ")", NO_CARD, () -> x.placeOf(card));
            Checks.throwing("new: placeOf(" + card + ")", NO_CARD,
                    () -> new ArchivistTricks().placeOf(card));
        }
    }

    private static void pointsAndTricks() {
        ArchivistTricks x = Game.OF_18.after(1);
        Checks.due("nothing is taken: points(0)", 0, x.points(0));
        x.play(18);
        Checks.due("4 and 18: points(1)", 8, x.points(1));
        Checks.due("4 and 18: points(0)", 0, x.points(0));
        Checks.due("4 and 18: tricks(1)", 1, x.tricks(1));
        Game.OF_18.playOn(x, 2, 4);
        Checks.due("0 and 8 too: points(1)", 20, x.points(1));
        Game.OF_18.playOn(x, 4, 38);
        Checks.due("late: points(0)", 72, x.points(0));
        Checks.due("late: points(1)", 145, x.points(1));
        Game.OF_18.playOn(x, 38, 40);
        Checks.due("mildew and 28: points(0)", 69, x.points(0));
        Game.OF_18.playOn(x, 40, 42);
        Checks.due("over: points(0)", 65, x.points(0));
        Checks.due("over: points(1)", 145, x.points(1));
        Checks.due("over: tricks(0)", 7, x.tricks(0));
        Checks.due("over: tricks(1)", 14, x.tricks(1));
        belowZero();
        for (int wrong : new int[] {-1, 2, Integer.MIN_VALUE, Integer.MAX_VALUE}) {
            Checks.throwing("points(" + wrong + ")", NOBODY, () -> x.points(wrong));
            Checks.throwing("tricks(" + wrong + ")", NOBODY, () -> x.tricks(wrong));
        }
    }

    private static void belowZero() {
        ArchivistTricks x = new ArchivistTricks();
        x.deal(Long.MAX_VALUE);
        x.play(26);
        x.play(40);
        Checks.due("26 and mildew: points(0)", -1, x.points(0));
        Checks.due("26 and mildew: points(1)", 0, x.points(1));
        Checks.due("26 and mildew: tricks(0)", 1, x.tricks(0));
    }

    private static void choices() {
        ArchivistTricks x = Game.OF_18.after(0);
        int[] want = {
            6, 6, 6, 6, 6, 6, 6, 6, 6, 6, 6, 6, 6, 6, 5, 6, 4, 6, 6, 6, 4, 6,
            4, 6, 4, 6, 4, 6, 4, 6, 6, 1, 3, 2, 2, 1, 1, 3, 2, 2, 1, 1};
        for (int i = 0; i < want.length; i++) {
            Checks.due("choices() after " + i, want[i], x.choices());
            x.play(Game.OF_18.moves[i]);
        }
        Checks.due("over: choices()", 0, x.choices());
    }

    private static void wouldTake() {
        ArchivistTricks x = Game.OF_18.after(30);
        x.play(25);
        // Provenance 1 is trumps; the archivist 0 led 25.
        Checks.due("older, taken: wouldTake(24)", 1, x.wouldTake(24));
        Checks.due("oldest, taken: wouldTake(20)", 1, x.wouldTake(20));
        Checks.due("newer, taken: wouldTake(26)", 0, x.wouldTake(26));
        Checks.due("newer, the leader's: wouldTake(27)", 0, x.wouldTake(27));
        Checks.due("a trump: wouldTake(14)", 1, x.wouldTake(14));
        Checks.due("the newest trump: wouldTake(19)", 1, x.wouldTake(19));
        Checks.due("another provenance: wouldTake(0)", 0, x.wouldTake(0));
        Checks.due("another provenance: wouldTake(39)", 0, x.wouldTake(39));
        Checks.due("mildew: wouldTake(40)", 0, x.wouldTake(40));
        Game.OF_18.playOn(x, 31, 38);
        x.play(40);
        Checks.due("mildew led: wouldTake(39)", 0, x.wouldTake(39));
        Checks.due("mildew led: wouldTake(11)", 0, x.wouldTake(11));
        Checks.due("mildew on mildew: wouldTake(41)", 1, x.wouldTake(41));
        ArchivistTricks y = Game.OF_18.after(5);
        // The archivist 1 led the trump 19.
        Checks.due("an older trump in the pile: wouldTake(10)", 0, y.wouldTake(10));
        Checks.due("no trump to a trump: wouldTake(9)", 1, y.wouldTake(9));
        Checks.due("mildew to a trump: wouldTake(41)", 1, y.wouldTake(41));
        Checks.due("it changes nothing: led()", 19, y.led());
        Checks.due("it changes nothing: placeOf(10)", 2, y.placeOf(10));
    }

    private static void wouldTakeRefuses() {
        ArchivistTricks x = Game.OF_18.after(0);
        Checks.throwing("no card is led", NOT_NOW, () -> x.wouldTake(4));
        x.play(4);
        Checks.throwing("it is this one", NOT_NOW, () -> x.wouldTake(4));
        for (int card : new int[] {-1, 42, Integer.MIN_VALUE, Integer.MAX_VALUE, 68}) {
            Checks.throwing("wouldTake(" + card + ")", NO_CARD, () -> x.wouldTake(card));
            Checks.throwing("new: wouldTake(" + card + ")", NO_CARD,
                    () -> new ArchivistTricks().wouldTake(card));
        }
        Game.OF_18.playOn(x, 1, 42);
        Checks.throwing("over: wouldTake(0)", NOT_NOW, () -> x.wouldTake(0));
    }

    private static void bestAfter(
            String what, Game game, int count, int points, int card) {
        ArchivistTricks x = game.after(count);
        Checks.due(what + ": bestCard()", card, x.bestCard());
        Checks.due(what + ": best()", points, x.best());
        Checks.due(what + ": best() again", points, x.best());
        Checks.due(what + ": it changes nothing", count % 2 == 0, x.led() == -1);
        // Asked move by move, the answers fit together.
        for (int i = count; i < 42; i++) {
            int margin = x.best();
            int mover = x.turn();
            int before = x.points(mover) - x.points(1 - mover);
            x.play(x.bestCard());
            int now = x.points(mover) - x.points(1 - mover);
            int rest = x.turn() == -1 ? 0 : x.turn() == mover ? x.best() : -x.best();
            Checks.due(what + ": the best is kept at " + i, margin, now - before + rest);
        }
    }

    private static void best() {
        bestAfter("six each", Game.OF_18, 30, -26, 28);
        bestAfter("one choice", Game.OF_18, 31, 32, 14);
        bestAfter("five each", Game.OF_53, 32, -4, 29);
        bestAfter("six each, mildew on both sides", Game.OF_68, 30, 23, 0);
        bestAfter("a lead to be trumped", Game.OF_53, 31, 20, 38);
        // 1 has 40 and 41, 0 has 28 and 29: both leads are the same, and so are both replies.
        bestAfter("two the same to lead", Game.OF_18, 38, 7, 40);
        bestAfter("two the same to reply", Game.OF_18, 39, -7, 28);
        bestAfter("a trump or not to mildew", Game.OF_28, 39, 7, 1);
        bestAfter("two tricks", Game.OF_68, 38, 8, 0);
        bestAfter("the last but one card", Game.OF_68, 40, -10, 40);
        bestAfter("the last card", Game.OF_68, 41, 10, 41);
        ArchivistTricks x = Game.OF_18.after(31);
        x.best();
        x.deal(68L);
        Game.OF_68.playOn(x, 0, 30);
        Checks.due("another game: best()", 23, x.best());
        Checks.due("another game: bestCard()", 0, x.bestCard());
    }

    private static void bestWithGloves() {
        ArchivistTricks x = Game.OF_68.after(40);
        x.putOnGloves();
        Checks.due("gloved leader of mildew: best()", 0, x.best());
        x.play(40);
        Checks.due("against a gloved taker: best()", 0, x.best());
        ArchivistTricks y = Game.OF_68.after(41);
        y.putOnGloves();
        Checks.due("gloves of one who takes nothing: best()", 10, y.best());
        ArchivistTricks z = Game.OF_18.after(39);
        z.putOnGloves();
        // With 28 he gets 2 and then 1 - 5; the gloves are gone by then.
        Checks.due("gloves for one trick: best()", -2, z.best());
        Checks.due("gloves for one trick: bestCard()", 28, z.bestCard());
        ArchivistTricks w = Game.OF_18.after(38);
        w.putOnGloves();
        Checks.due("the loser's gloves: best()", 7, w.best());
    }

    private static void bestRefuses() {
        ArchivistTricks x = Game.OF_18.after(29);
        Checks.throwing("two in the pile: best()", NOT_NOW, () -> x.best());
        Checks.throwing("two in the pile: bestCard()", NOT_NOW, () -> x.bestCard());
        x.play(10);
        Checks.due("an empty pile: best()", -26, x.best());
        Game.OF_18.playOn(x, 30, 42);
        Checks.throwing("over: best()", NOT_NOW, () -> x.best());
        Checks.throwing("over: bestCard()", NOT_NOW, () -> x.bestCard());
    }

    private static void won() {
        ArchivistTricks x = Game.OF_27.after(41);
        Checks.due("one card is left: wonByFirst()", 0, x.wonByFirst());
        x.play(Game.OF_27.moves[41]);
        Checks.due("110 to 100: wonByFirst()", 1, x.wonByFirst());
        Checks.due("110 to 100: wonBySecond()", 0, x.wonBySecond());
        x.deal(18L);
        Game.OF_18.playOn(x, 0, 42);
        Checks.due("65 to 145: wonByFirst()", 1, x.wonByFirst());
        Checks.due("65 to 145: wonBySecond()", 1, x.wonBySecond());
        x.deal(53L);
        Game.OF_53.playOn(x, 0, 42);
        Checks.due("105 to 105: points(0)", 105, x.points(0));
        Checks.due("105 to 105: points(1)", 105, x.points(1));
        Checks.due("105 to 105: wonByFirst()", 1, x.wonByFirst());
        Checks.due("105 to 105: wonBySecond()", 1, x.wonBySecond());
        x.deal(68L);
        Game.OF_68.playOn(x, 0, 30);
        x.deal(27L);
        Game.OF_27.playOn(x, 0, 42);
        Checks.due("one was given up: wonByFirst()", 2, x.wonByFirst());
        Checks.due("one was given up: wonBySecond()", 1, x.wonBySecond());
        Checks.due("won by points, not by tricks: tricks(0)", 8, x.tricks(0));
    }
}
