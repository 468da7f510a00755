/** All that an object tells of how it stands, as one text, to see whether a call changed it. */
final class Standing {
    private Standing() {
    }

    static String of(ArchivistTricks x) {
        StringBuilder told = new StringBuilder();
        told.append("playing ").append(x.isPlaying()).append(", turn ").append(x.turn());
        told.append(", led ").append(x.led()).append(", trumps ").append(x.trumps());
        told.append(", pile ").append(x.pile()).append(", choices ").append(x.choices());
        told.append(", won ").append(x.wonByFirst()).append(':').append(x.wonBySecond());
        for (int a = 0; a < 2; a++) {
            told.append(", ").append(a).append(" has");
            for (int place = 0; place < x.cards(a); place++) {
                told.append(' ').append(x.cardAt(a, place));
            }
            told.append(" points ").append(x.points(a)).append(" tricks ").append(x.tricks(a));
            told.append(" gloves ").append(x.gloves(a));
        }
        for (int card = 0; card < 42; card++) {
            told.append(", ").append(card).append(": ").append(x.placeOf(card));
            told.append(' ').append(x.whyNot(card));
        }
        if (x.isPlaying() && x.pile() == 0) {
            told.append(", best ").append(x.best()).append(" by ").append(x.bestCard());
        }
        return told.toString();
    }

    /** The call throws this very exception, and all stands as before. */
    static void refused(
            String what, Class<? extends RuntimeException> want, ArchivistTricks x,
            Checks.Call call) {
        String before = of(x);
        Checks.throwing(what, want, call);
        String after = of(x);
        Checks.judge(before.equals(after), what + ": it stood " + before + ", now " + after);
    }

    /** The call answers this, and all stands as before. */
    static void told(String what, long want, ArchivistTricks x, Checks.Call call) {
        String before = of(x);
        Checks.due(what, want, call.answer());
        String after = of(x);
        Checks.judge(before.equals(after), what + ": it stood " + before + ", now " + after);
    }
}
