/**
 * What the tests of single sentences share. Each test names its promise and the sentence of the
 * document that it is for; a broken sentence is told with both, and the others are tested still.
 */
abstract class Sentences {
    static final String NO_ARGUMENT = "throws java.lang.IllegalArgumentException";
    static final String NO_STATE = "throws java.lang.IllegalStateException";
    static final String NO_ELEMENT = "throws java.util.NoSuchElementException";

    /** 17 orders and 58 characters, no fence twice. */
    static final String LONG = "f0;f1;f2;f3;f4;f5;f6;f7;f8;f9;f10;f11;f12;f13;f14;f15;f16;";

    private static final int MOST_TOLD = 10;

    interface Call {
        Object answer();
    }

    interface Checks {
        void run();
    }

    interface Maker {
        FencedBoxes make();
    }

    interface Use {
        Object of(FencedBoxes x);
    }

    private static String now = "";
    private static int check;
    private static int sentences;
    private static int wrong;
    private static int wrongNow;

    /** The promise is told by its number and name, or the part of the terms by its heading. */
    static void sentence(String promise, String words, Checks checks) {
        now = promise + ": \"" + words + "\"";
        check = 0;
        wrongNow = 0;
        sentences++;
        try {
            checks.run();
        } catch (RuntimeException e) {
            tell("behind check " + check + " a call that should answer throws " + e.getClass().getName());
        }
        if (check == 0) {
            tell("nothing is checked");
        }
    }

    static void due(Object want, Call call) {
        same(want, answerOf(call));
    }

    static void same(Object want, Object got) {
        check++;
        if (!want.equals(got)) {
            tell("check " + check + " answered " + got + ", due is " + want);
        }
    }

    /** The call is refused as told, and all that the object holds is as in one without the call. */
    static void changesNothing(Maker maker, Object want, Use use) {
        FencedBoxes x = maker.make();
        due(want, () -> use.of(x));
        same(everything(maker.make()), everything(x));
    }

    static void end() {
        System.out.println(wrong == 0 ? sentences + " sentences hold" : wrong + " answers are not as due");
        if (wrong != 0) {
            System.exit(1);
        }
    }

    /** Of a sentence that is broken in many states the first answers are enough. */
    private static void tell(String what) {
        wrong++;
        wrongNow++;
        if (wrongNow <= MOST_TOLD) {
            System.out.println(now + " " + what);
        }
    }

    static Object answerOf(Call call) {
        try {
            return call.answer();
        } catch (RuntimeException e) {
            return "throws " + e.getClass().getName();
        }
    }

    /** All that a state of the history records, as one text. */
    static String shown(FencedBoxes x) {
        StringBuilder s = new StringBuilder();
        for (int fence = 0; fence < 31; fence++) {
            s.append(x.isDrawn(fence) ? '|' : '.');
        }
        for (int b = 0; b < 12; b++) {
            int box = b;
            Object owner = answerOf(() -> x.ownerOf(box));
            s.append(owner.equals(NO_ELEMENT) ? "-" : owner);
        }
        s.append(" boxes ").append(x.boxesOf(0)).append(' ').append(x.boxesOf(1));
        return s.append(" turn ").append(x.turn()).append(" won ").append(x.won(0)).append(' ').append(x.won(1))
            .append(" even ").append(x.evenGames()).append(" doubles ").append(x.doubleDeals()).toString();
    }

    /** With the text, the history and the snapshot; the object is of no use behind it. */
    private static String everything(FencedBoxes x) {
        StringBuilder s = new StringBuilder(shown(x));
        s.append(answerOf(x::faultPosition)).append(answerOf(x::faultReason)).append(answerOf(x::faultCause));
        for (int n = x.states(); n > 0; n--) {
            s.append(" undo ").append(answerOf(x::undo)).append(' ').append(shown(x));
        }
        s.append(" goBack ").append(answerOf(x::goBack)).append(' ').append(shown(x));
        s.append(" play ").append(answerOf(x::play)).append(' ').append(shown(x));
        return s.append(" text ").append(x.clearText()).toString();
    }

    static FencedBoxes with(int... fences) {
        FencedBoxes x = new FencedBoxes();
        for (int fence : fences) {
            x.draw(fence);
        }
        return x;
    }

    /** As many fences as told are drawn, from the lowest on. */
    static FencedBoxes ascending(int count) {
        FencedBoxes x = new FencedBoxes();
        for (int fence = 0; fence < count; fence++) {
            x.draw(fence);
        }
        return x;
    }

    /** All fences are drawn but these, from the lowest on. */
    static FencedBoxes allBut(int... open) {
        FencedBoxes x = new FencedBoxes();
        drawAllBut(x, open);
        return x;
    }

    static void drawAllBut(FencedBoxes x, int... open) {
        for (int fence = 0; fence < 31; fence++) {
            boolean stays = x.isDrawn(fence);
            for (int one : open) {
                stays |= one == fence;
            }
            if (!stays) {
                x.draw(fence);
            }
        }
    }

    /**
     * A whole game, or its first draws: always the fence that is so many ahead, modulo 31. By 1 it
     * ends with 4 boxes to 8, and the player 1 draws last; by 2 with 12 to 0, and 0; by 8 with 7 to
     * 5, and 1; by 9 with 6 to 6, and 0; by 16 with 6 to 6, and 1; by 17 with 5 to 7, and 0; by 28
     * with 0 to 12, and 1.
     */
    static FencedBoxes strides(FencedBoxes x, int ahead, int draws) {
        for (int n = 0; n < draws; n++) {
            x.draw(ahead * n % 31);
        }
        return x;
    }

    static FencedBoxes over(int ahead) {
        return strides(new FencedBoxes(), ahead, 31);
    }

    static FencedBoxes typed(FencedBoxes x, String text) {
        for (int i = 0; i < text.length(); i++) {
            x.type(text.charAt(i));
        }
        return x;
    }

    /** One chain through all boxes, both of its ends closed by a fence: all can be taken. */
    static FencedBoxes winding() {
        return allBut(17, 18, 19, 7, 24, 23, 22, 8, 27, 28, 29);
    }

    /** Six pairs of boxes, each closed by one fence. */
    static FencedBoxes pairs() {
        return allBut(17, 19, 22, 24, 27, 29);
    }
}
