import java.util.NoSuchElementException;

/** For each promise of the document its ordinary inputs, its edges and its wrong inputs, by hand. */
public final class PromiseTest {
    private static final String NO_ARGUMENT = "IllegalArgumentException";
    private static final String NO_STATE = "IllegalStateException";
    private static final String NO_ELEMENT = "NoSuchElementException";

    private interface Call {
        double answer();
    }

    private static int wrong = 0;

    private static void due(String what, double want, Call call) {
        String got;
        try {
            got = String.valueOf(call.answer());
        } catch (RuntimeException e) {
            got = e.getClass().getSimpleName();
        }
        compare(what, String.valueOf(want), got);
    }

    /**
     * The call throws just this, and what is cheap to ask has not changed behind it: an object is
     * used for at most 512 calls. That nothing at all has changed, ChangesSentencesTest tests.
     */
    private static void refused(FencedBoxes x, String what, String want, Call call) {
        String before = counts(x);
        String got;
        try {
            got = String.valueOf(call.answer());
        } catch (RuntimeException e) {
            got = e.getClass().getSimpleName();
        }
        compare(what, want, got);
        compare(what + ", what has changed", before, counts(x));
    }

    private static void compare(String what, String want, String got) {
        if (!want.equals(got)) {
            wrong++;
            System.out.println(what + " answered " + got + ", due is " + want);
        }
    }

    private static String counts(FencedBoxes x) {
        StringBuilder s = new StringBuilder();
        return s.append(x.drawn()).append(' ').append(x.turn()).append(' ').append(x.boxesOf(0)).append(' ')
            .append(x.boxesOf(1)).append(' ').append(x.won(0)).append(' ').append(x.won(1)).append(' ')
            .append(x.evenGames()).append(' ').append(x.doubleDeals()).append(' ').append(x.states()).append(' ')
            .append(x.safeFences()).append(' ').append(told(x::faultPosition)).toString();
    }

    /** All that can be asked without a change, as one text. */
    private static String face(FencedBoxes x) {
        StringBuilder s = new StringBuilder();
        for (int f = 0; f < 31; f++) {
            int fence = f;
            s.append(x.isDrawn(f)).append(x.whyNot(f)).append(x.isSafe(f)).append(told(() -> x.gives(fence)));
        }
        for (int b = 0; b < 12; b++) {
            int box = b;
            s.append(x.fencesOf(b)).append(told(() -> x.ownerOf(box))).append(told(() -> x.chainOf(box)));
        }
        for (int n = 0; n < 5; n++) {
            s.append(x.boxesWith(n)).append(' ');
        }
        s.append(x.turn()).append(x.isOver()).append(x.drawn()).append(' ').append(x.boxesOf(0)).append(' ')
            .append(x.boxesOf(1)).append(' ').append(x.won(0)).append(' ').append(x.won(1)).append(' ')
            .append(x.evenGames()).append(' ').append(x.doubleDeals()).append(' ').append(x.share()).append(' ')
            .append(x.states()).append(' ').append(told(x::faultPosition)).append(told(x::faultReason))
            .append(told(x::faultCause)).append(told(x::endDifference)).append(told(x::bestFence));
        return s.toString();
    }

    private static String told(Call call) {
        try {
            return call.answer() + " ";
        } catch (RuntimeException e) {
            return e.getClass().getSimpleName() + " ";
        }
    }

    private static FencedBoxes with(int... fences) {
        FencedBoxes x = new FencedBoxes();
        for (int fence : fences) {
            x.draw(fence);
        }
        return x;
    }

    /** As many fences as told are drawn, from the lowest on; with 31 the game is over. */
    private static FencedBoxes whole(int count) {
        FencedBoxes x = new FencedBoxes();
        for (int fence = 0; fence < count; fence++) {
            x.draw(fence);
        }
        return x;
    }

    private static FencedBoxes typed(FencedBoxes x, String text) {
        for (int i = 0; i < text.length(); i++) {
            x.type(text.charAt(i));
        }
        return x;
    }

    private static void aNewObject() {
        FencedBoxes x = new FencedBoxes();
        due("1 drawn", 0, x::drawn);
        due("1 turn", 0, x::turn);
        due("1 boxes with 0", 12, () -> x.boxesWith(0));
        due("1 won 0", 0, () -> x.won(0));
        due("1 won 1", 0, () -> x.won(1));
        due("1 even games", 0, x::evenGames);
        due("1 double deals", 0, x::doubleDeals);
        due("1 states", 0, x::states);
        refused(x, "1 no snapshot", NO_STATE, x::goBack);
        due("1 empty text", 0, x::clearText);
        due("1 two objects", 0, () -> {
            new FencedBoxes().draw(3);
            return new FencedBoxes().drawn();
        });
    }

    private static void draw() {
        FencedBoxes x = new FencedBoxes();
        refused(x, "2 draw -1", NO_ARGUMENT, () -> x.draw(-1));
        refused(x, "2 draw 31", NO_ARGUMENT, () -> x.draw(31));
        refused(x, "2 draw least", NO_ARGUMENT, () -> x.draw(Integer.MIN_VALUE));
        refused(x, "2 draw most", NO_ARGUMENT, () -> x.draw(Integer.MAX_VALUE));
        due("2 the lowest", 0, () -> x.draw(0));
        due("2 the highest", 0, () -> x.draw(30));
        refused(x, "2 drawn", NO_STATE, () -> x.draw(30));
        x.draw(4);
        due("2 the turn goes over", 1, x::turn);
        x.draw(16);
        due("2 one box", 1, () -> x.draw(17));
        due("2 it counts", 1, () -> x.boxesOf(0));
        due("2 the turn stays", 0, x::turn);
        FencedBoxes two = with(0, 1, 4, 5, 16, 18);
        due("2 two boxes", 2, () -> two.draw(17));
        due("2 both count", 2, () -> two.boxesOf(0));
        FencedBoxes over = whole(31);
        refused(over, "2 over", NO_STATE, () -> over.draw(0));
        refused(over, "2 over, no such fence", NO_ARGUMENT, () -> over.draw(31));
    }

    private static void newGame() {
        FencedBoxes x = with(0, 4, 16, 17, 30);
        due("3 returns", 5, x::newGame);
        due("3 no fences", 0, x::drawn);
        due("3 the player 0 begins", 0, x::turn);
        due("3 no boxes of 0", 0, () -> {
            FencedBoxes two = with(0, 1, 4, 5, 16, 18, 17);
            two.newGame();
            return two.boxesOf(0);
        });
        due("3 no boxes of 1", 0, () -> x.boxesOf(1));
        refused(x, "3 no owner", NO_ELEMENT, () -> x.ownerOf(0));
        due("3 counts for none", 0, () -> x.won(0) + x.won(1) + x.evenGames());
        due("3 at once again", 0, x::newGame);
        FencedBoxes over = whole(31);
        due("3 a whole one", 31, over::newGame);
        due("3 is no longer over", 0, () -> over.isOver() ? 1 : 0);
        due("3 what was won stays", 1, () -> over.won(0) + over.won(1) + over.evenGames());
    }

    private static void fencesThatAreDrawn() {
        FencedBoxes x = with(0, 30);
        due("4 the lowest", 1, () -> x.isDrawn(0) ? 1 : 0);
        due("4 the highest", 1, () -> x.isDrawn(30) ? 1 : 0);
        due("4 not drawn", 0, () -> x.isDrawn(1) ? 1 : 0);
        refused(x, "4 -1", NO_ARGUMENT, () -> x.isDrawn(-1) ? 1 : 0);
        refused(x, "4 31", NO_ARGUMENT, () -> x.isDrawn(31) ? 1 : 0);
        due("5 two", 2, x::drawn);
        due("5 none", 0, () -> with().drawn());
        due("5 all", 31, () -> whole(31).drawn());
    }

    private static void fencesOfBoxes() {
        int[][] sides = {{0, 4, 16, 17}, {3, 7, 19, 20}, {5, 9, 22, 23}, {8, 12, 26, 27}, {11, 15, 29, 30}};
        int[] boxes = {0, 3, 5, 8, 11};
        for (int i = 0; i < boxes.length; i++) {
            FencedBoxes x = new FencedBoxes();
            int box = boxes[i];
            for (int n = 0; n < 4; n++) {
                due("6 box " + box + " before", n, () -> x.fencesOf(box));
                x.draw(sides[i][n]);
            }
            due("6 box " + box + " closed", 4, () -> x.fencesOf(box));
            due("7 box " + box, 1, () -> x.ownerOf(box));
        }
        FencedBoxes x = with(0, 16, 17);
        refused(x, "6 -1", NO_ARGUMENT, () -> x.fencesOf(-1));
        refused(x, "6 12", NO_ARGUMENT, () -> x.fencesOf(12));
        refused(x, "7 -1", NO_ARGUMENT, () -> x.ownerOf(-1));
        refused(x, "7 12", NO_ARGUMENT, () -> x.ownerOf(12));
        refused(x, "7 open, three fences", NO_ELEMENT, () -> x.ownerOf(0));
        refused(x, "7 open, no fence", NO_ELEMENT, () -> x.ownerOf(11));
        FencedBoxes other = with(0, 16, 17, 30, 4);
        due("7 the player 0", 0, () -> other.ownerOf(0));
    }

    private static void boxes() {
        FencedBoxes x = with(0, 16, 17, 4, 30, 15, 29, 11);
        due("8 of the player 0", 1, () -> x.boxesOf(0));
        due("8 of the player 1", 1, () -> x.boxesOf(1));
        due("8 two of the player 0", 2, () -> with(0, 1, 4, 5, 16, 18, 17).boxesOf(0));
        due("8 none of the player 1", 0, () -> with(0, 1, 4, 5, 16, 18, 17).boxesOf(1));
        refused(x, "8 -1", NO_ARGUMENT, () -> x.boxesOf(-1));
        refused(x, "8 2", NO_ARGUMENT, () -> x.boxesOf(2));
        due("8 all", 12, () -> whole(31).boxesOf(0) + whole(31).boxesOf(1));
        due("9 0", 6, () -> x.boxesWith(0));
        due("9 1", 4, () -> x.boxesWith(1));
        due("9 2", 0, () -> x.boxesWith(2));
        due("9 3", 0, () -> x.boxesWith(3));
        due("9 4", 2, () -> x.boxesWith(4));
        due("9 2 of another", 2, () -> with(0, 16, 11, 15, 29).boxesWith(2) + with(0, 16).boxesWith(2));
        due("9 3 of another", 1, () -> with(0, 16, 4).boxesWith(3));
        refused(x, "9 -1", NO_ARGUMENT, () -> x.boxesWith(-1));
        refused(x, "9 5", NO_ARGUMENT, () -> x.boxesWith(5));
    }

    private static void turns() {
        due("10 one fence", 1, () -> with(0).turn());
        due("10 two fences", 0, () -> with(0, 1).turn());
        due("10 behind a box", 1, () -> with(0, 16, 17, 4).turn());
        FencedBoxes over = whole(31);
        due("10 over: the last fence closed a box", over.ownerOf(11), over::turn);
        FencedBoxes x = with(7);
        due("11 could be drawn", 0, () -> x.whyNot(0));
        due("11 the highest", 0, () -> x.whyNot(30));
        due("11 drawn", 2, () -> x.whyNot(7));
        refused(x, "11 -1", NO_ARGUMENT, () -> x.whyNot(-1));
        refused(x, "11 31", NO_ARGUMENT, () -> x.whyNot(31));
        due("11 over, though drawn", 1, () -> over.whyNot(7));
        refused(over, "11 over, 31", NO_ARGUMENT, () -> over.whyNot(31));
        due("12 at first", 0, () -> with().isOver() ? 1 : 0);
        due("12 one fence is missing", 0, () -> whole(30).isOver() ? 1 : 0);
        due("12 all drawn", 1, () -> over.isOver() ? 1 : 0);
    }

    private static void taking() {
        due("13 nothing", 0, () -> with(0, 16).canTake());
        due("13 one", 1, () -> with(0, 16, 17).canTake());
        due("13 a row of four boxes", 4, () -> with(0, 1, 2, 3, 4, 5, 6, 7, 16).canTake());
        due("13 of two sides", 4, () -> with(0, 1, 2, 3, 4, 5, 6, 7, 16, 20).canTake());
        due("13 two at once", 2, () -> with(0, 1, 4, 5, 16, 18).canTake());
        due("13 those that are closed don't count", 3, () -> with(0, 1, 2, 3, 4, 5, 6, 7, 16, 17).canTake());
        due("13 the last row and column", 1, () -> with(15, 29, 30).canTake());
        due("13 over", 0, () -> whole(31).canTake());
        due("14 nothing", 0, () -> with(0, 16).canTakeByRounds());
        due("14 one", 1, () -> with(0, 16, 17).canTakeByRounds());
        due("14 of two sides", 4, () -> with(0, 1, 2, 3, 4, 5, 6, 7, 16, 20).canTakeByRounds());
        due("14 meeting in one box", 3, () -> with(0, 1, 2, 4, 5, 6, 16, 19).canTakeByRounds());
        due("14 two at once", 2, () -> with(0, 1, 4, 5, 16, 18).canTakeByRounds());
        due("14 those that are closed don't count", 3,
            () -> with(0, 1, 2, 3, 4, 5, 6, 7, 16, 17).canTakeByRounds());
        due("14 by the fence 0", 1, () -> with(4, 16, 17).canTakeByRounds());
        due("14 the last row and column", 1, () -> with(15, 29, 30).canTakeByRounds());
        due("14 over", 0, () -> whole(31).canTakeByRounds());
        due("15 lowest of two", 4, () -> with(0, 16, 17, 15, 29, 30).takingFence());
        due("15 the lowest of all", 0, () -> with(4, 16, 17).takingFence());
        due("15 a right one", 17, () -> with(0, 4, 16).takingFence());
        FencedBoxes none = with(0, 16);
        refused(none, "15 none", NO_ELEMENT, none::takingFence);
        FencedBoxes over = whole(31);
        refused(over, "15 over", NO_ELEMENT, over::takingFence);
    }

    private static void safeOnes() {
        FencedBoxes x = with(0, 16);
        due("16 beside a box with two", 0, () -> x.isSafe(4) ? 1 : 0);
        due("16 its right one", 0, () -> x.isSafe(17) ? 1 : 0);
        due("16 elsewhere", 1, () -> x.isSafe(30) ? 1 : 0);
        due("16 beside a box with one", 1, () -> with(0).isSafe(4) ? 1 : 0);
        due("16 beside a box with three", 0, () -> with(0, 16, 17).isSafe(4) ? 1 : 0);
        due("16 drawn", 0, () -> x.isSafe(0) ? 1 : 0);
        due("16 beside a closed box", 1, () -> with(0, 4, 16, 17).isSafe(18) ? 1 : 0);
        refused(x, "16 -1", NO_ARGUMENT, () -> x.isSafe(-1) ? 1 : 0);
        refused(x, "16 31", NO_ARGUMENT, () -> x.isSafe(31) ? 1 : 0);
        due("17 at first", 31, () -> with().safeFences());
        due("17 all but four", 27, x::safeFences);
        due("17 over", 0, () -> whole(31).safeFences());
        due("18 at first", 16, () -> with().safeInRow());
        due("18 none", 0, () -> whole(16).safeInRow());
        due("18 a few", 15, () -> with(0).safeInRow());
    }

    private static void giving() {
        FencedBoxes x = with(0, 1, 2, 3, 4, 5, 6, 7);
        due("19 a row of boxes", 4, () -> x.gives(17));
        due("19 nothing", 0, () -> x.gives(30));
        due("19 what could be taken before", 4, () -> with(0, 1, 2, 3, 4, 5, 6, 7, 16).gives(30));
        due("19 without the box that it closes", 3, () -> with(0, 1, 2, 3, 4, 5, 6, 7, 16).gives(17));
        due("19 without both", 0, () -> with(0, 1, 4, 5, 16, 18).gives(17));
        due("19 it draws nothing", 8, x::drawn);
        refused(x, "19 -1", NO_ARGUMENT, () -> x.gives(-1));
        refused(x, "19 31", NO_ARGUMENT, () -> x.gives(31));
        refused(x, "19 drawn", NO_STATE, () -> x.gives(0));
        FencedBoxes over = whole(31);
        refused(over, "19 over", NO_STATE, () -> over.gives(30));
        refused(over, "19 over, 31", NO_ARGUMENT, () -> over.gives(31));
        due("20 at first", 0, () -> with().leastSacrifice());
        due("20 behind the row", 8, x::leastSacrifice);
        due("20 the shorter one", 12, () -> with(0, 1, 2, 3, 4, 5, 6, 7, 8, 9, 10, 11, 26, 28, 30).leastSacrifice());
        due("20 one that takes gives less", 17, () -> with(0, 1, 4, 5, 16, 18).leastSacrifice());
        due("20 though all give twelve", 0, () -> givesTwelve().leastSacrifice());
        due("20 the last one", 30, () -> whole(30).leastSacrifice());
        refused(over, "20 all drawn", NO_ELEMENT, over::leastSacrifice);
    }

    /** One chain through all boxes, from the fence 0 to the fence 30. */
    private static FencedBoxes givesTwelve() {
        return allBut(0, 17, 18, 19, 7, 24, 23, 22, 8, 27, 28, 29, 30);
    }

    private static void chains() {
        FencedBoxes ring = with(0, 1, 16, 18, 8, 9, 21, 23);
        due("21 a ring is one", 1, ring::chains);
        due("21 none", 0, () -> with().chains());
        due("21 one box", 1, () -> with(0, 16).chains());
        due("21 two boxes", 1, () -> with(0, 1, 4, 5).chains());
        due("21 a fence between", 2, () -> with(0, 17, 1).chains());
        due("21 apart", 2, () -> with(0, 16, 15, 30).chains());
        due("21 three rows", 3, () -> whole(16).chains());
        due("21 over", 0, () -> whole(31).chains());
        due("22 of a row", 4, () -> whole(16).chainOf(7));
        due("22 of one", 1, () -> with(15, 30).chainOf(11));
        due("22 round a corner", 3, () -> with(0, 16, 1, 18, 23, 9).chainOf(5));
        due("22 of the ring", 4, () -> ring.chainOf(4));
        refused(ring, "22 -1", NO_ARGUMENT, () -> ring.chainOf(-1));
        refused(ring, "22 12", NO_ARGUMENT, () -> ring.chainOf(12));
        refused(ring, "22 too few fences", NO_ELEMENT, () -> ring.chainOf(2));
        refused(ring, "22 three fences", NO_ELEMENT, () -> with(0, 16, 17).chainOf(0));
        refused(ring, "22 closed", NO_ELEMENT, () -> with(0, 16, 17, 4).chainOf(0));
        due("23 one", 1, ring::rings);
        due("23 none", 0, () -> whole(16).rings());
        due("23 four in a square that is open", 0, () -> with(0, 1, 16, 18, 8, 9, 21, 17).rings());
        FencedBoxes great = with(0, 1, 2, 3, 12, 13, 14, 15, 16, 21, 26, 20, 25, 30, 5, 6, 9, 10, 22, 24);
        due("23 round the middle", 1, great::rings);
        due("22 round the middle", 10, () -> great.chainOf(0));
        due("23 the middle is no chain: three fences", 1, great::chains);
        due("23 two rings", 2, () -> with(0, 1, 16, 18, 8, 9, 21, 23, 2, 3, 20, 10, 11, 25).rings());
        due("24 a ring is not long", 0, ring::longChains);
        due("24 two boxes", 0, () -> with(0, 1, 4, 5).longChains());
        due("24 three boxes", 1, () -> with(0, 1, 2, 4, 5, 6).longChains());
        due("24 three rows", 3, () -> whole(16).longChains());
        due("25 none", 0, () -> with().ruleHoldsFor());
        due("25 one", 1, () -> with(0, 1, 2, 4, 5, 6).ruleHoldsFor());
        due("25 two", 0, () -> with(0, 1, 2, 3, 4, 5, 6, 7, 8, 9, 10, 11).ruleHoldsFor());
        due("25 three", 1, () -> whole(16).ruleHoldsFor());
        due("25 though the player 1 has the turn", 0, () -> with(0).ruleHoldsFor());
    }

    private static void ends() {
        FencedBoxes nine = whole(22);
        refused(nine, "26 nine", NO_ELEMENT, nine::endDifference);
        refused(nine, "27 nine", NO_ELEMENT, nine::endByTrying);
        refused(nine, "28 nine", NO_ELEMENT, nine::bestFence);
        FencedBoxes eight = whole(23);
        due("26 eight", 3, eight::endDifference);
        due("27 eight", 3, eight::endByTrying);
        due("28 eight", 23, eight::bestFence);
        due("26 it draws nothing", 23, eight::drawn);
        due("26 one: two boxes", 2, () -> allBut(17).endDifference());
        due("26 one: one box", 1, () -> allBut(30).endDifference());
        due("28 one", 30, () -> allBut(30).bestFence());
        due("26 a chain of two is given", -2, () -> allBut(1, 16, 17).endDifference());
        due("27 a chain of two is given", -2, () -> allBut(1, 16, 17).endByTrying());
        due("28 by the lowest fence", 1, () -> allBut(1, 16, 17).bestFence());
        due("26 a chain of four is given", -4, () -> allBut(16, 17, 18, 19, 20).endDifference());
        due("27 a chain of four is given", -4, () -> allBut(16, 17, 18, 19, 20).endByTrying());
        FencedBoxes over = whole(31);
        due("26 over", 0, over::endDifference);
        due("27 over", 0, over::endByTrying);
        refused(over, "28 over", NO_ELEMENT, over::bestFence);
        twoBoxesAreLeft();
    }

    /** Two boxes could be taken; who leaves them lets the other one open the chain of four. */
    private static void twoBoxesAreLeft() {
        FencedBoxes x = allBut(1, 17, 26, 27, 28, 29, 30);
        due("26 two can be taken", 2, x::canTake);
        due("26 they are left", 2, x::endDifference);
        due("27 they are left", 2, x::endByTrying);
        due("28 by a fence that closes none", 1, x::bestFence);
    }

    private static FencedBoxes allBut(int... open) {
        FencedBoxes x = new FencedBoxes();
        for (int fence = 0; fence < 31; fence++) {
            boolean draw = true;
            for (int one : open) {
                draw &= one != fence;
            }
            if (draw) {
                x.draw(fence);
            }
        }
        return x;
    }

    private static void accounts() {
        FencedBoxes x = whole(31);
        int winner = x.boxesOf(0) > x.boxesOf(1) ? 0 : 1;
        due("29 as soon as it is over", 1, () -> x.won(winner));
        due("29 the other one", 0, () -> x.won(1 - winner));
        refused(x, "29 -1", NO_ARGUMENT, () -> x.won(-1));
        refused(x, "29 2", NO_ARGUMENT, () -> x.won(2));
        due("29 one fence is missing", 0, () -> whole(30).won(0) + whole(30).won(1));
        x.newGame();
        for (int fence = 0; fence < 31; fence++) {
            x.draw(fence);
        }
        due("29 two games", 2, () -> x.won(winner));
        due("30 none", 0, x::evenGames);
        FencedBoxes even = with(30, 29, 28, 27, 26, 25, 24, 23, 22, 21, 20, 19, 18, 17, 16, 15, 14, 13, 12,
            8, 9, 4, 10, 0, 11, 1, 5, 6, 7, 2);
        due("30 not yet", 0, even::evenGames);
        even.draw(3);
        due("30 six each", 6, () -> even.boxesOf(0));
        due("30 one", 1, even::evenGames);
        due("30 won by none", 0, () -> even.won(0) + even.won(1));
        FencedBoxes first = with(0, 1, 4, 5, 16, 18, 17);
        for (int fence = 0; fence < 31; fence++) {
            if (!first.isDrawn(fence)) {
                first.draw(fence);
            }
        }
        due("29 the player 0 has more", 1, () -> first.boxesOf(0) > 6 ? 1 : 0);
        due("29 the player 0", 1, () -> first.won(0));
        due("29 not the player 1", 0, () -> first.won(1));
        first.undo();
        due("36 won by the player 0 no longer", 0, () -> first.won(0));
        even.undo();
        due("36 even no longer", 0, even::evenGames);
        FencedBoxes deals = with(0, 1, 4, 5, 16, 18, 17);
        due("31 one", 1, deals::doubleDeals);
        deals.newGame();
        due("31 in all games", 1, deals::doubleDeals);
        due("31 single ones don't count", 0, () -> with(0, 4, 16, 17).doubleDeals());
        due("32 none", 0, () -> with().share());
        due("32 one", (double) (1f / 12f), () -> with(0, 4, 16, 17).share());
        due("32 of both players", (double) (2f / 12f), () -> with(0, 4, 16, 17, 30, 15, 29, 11).share());
        due("32 all", 1, x::share);
    }

    private static void snapshots() {
        FencedBoxes x = with(0, 1, 4, 5, 16, 18, 17);
        due("33 returns", 7, x::keep);
        due("33 is no change", 4, x::states);
        String kept = face(x);
        for (int fence = 19; fence < 25; fence++) {
            x.draw(fence);
        }
        due("34 returns", 7, x::goBack);
        compare("34 all is as it was", kept, face(x));
        due("34 is a change", 3, x::undo);
        due("34 and undone", 13, x::drawn);
        due("34 again", 7, x::goBack);
        x.newGame();
        due("33 in place of the one before", 0, x::keep);
        x.draw(3);
        due("34 to the later one", 0, x::goBack);
        due("34 the double deal was kept", 1, x::doubleDeals);
        FencedBoxes none = with(2);
        refused(none, "34 none", NO_STATE, none::goBack);
        FencedBoxes text = typed(with(1), "f2;");
        text.keep();
        text.type('x');
        text.goBack();
        due("34 the text stays", 3, text::faultPosition);
        text.undo();
        due("36 the text stays", 4, text::clearText);
        text.undo();
        due("36 the snapshot stays", 1, text::goBack);
        FencedBoxes games = whole(31);
        games.keep();
        games.newGame();
        for (int fence = 0; fence < 31; fence++) {
            games.draw(fence);
        }
        games.goBack();
        due("34 games go back too", 1, () -> games.won(0) + games.won(1) + games.evenGames());
    }

    private static void histories() {
        FencedBoxes x = new FencedBoxes();
        due("35 empty", 0, x::states);
        refused(x, "36 empty", NO_STATE, x::undo);
        for (int n = 0; n < 6; n++) {
            x.draw(n);
            due("35 after " + n, Math.min(4, n + 1), x::states);
        }
        for (int n = 3; n >= 0; n--) {
            due("36 left", n, x::undo);
            due("36 drawn", n + 2, x::drawn);
        }
        refused(x, "36 empty again", NO_STATE, x::undo);
        x.newGame();
        due("35 a new game", 1, x::states);
        x.undo();
        due("36 the old game", 2, x::drawn);
        FencedBoxes over = whole(30);
        String before = face(over);
        over.draw(30);
        over.undo();
        compare("36 a game that was over", before.replaceAll(" [0-4] ", " "), face(over).replaceAll(" [0-4] ", " "));
        due("36 it is won no longer", 0, () -> over.won(0) + over.won(1) + over.evenGames());
        FencedBoxes closing = with(0, 1, 4, 5, 16, 18, 17);
        closing.undo();
        due("36 the boxes of the player 0", 0, () -> closing.boxesOf(0));
        due("36 the double deal", 0, closing::doubleDeals);
        closing.undo();
        due("36 the turn", 1, closing::turn);
        FencedBoxes asked = with(3);
        asked.keep();
        asked.type('n');
        asked.clearText();
        asked.canTake();
        due("35 no changes", 1, asked::states);
    }

    private static void texts() {
        FencedBoxes x = new FencedBoxes();
        refused(x, "37 31", NO_ARGUMENT, () -> x.type(31));
        refused(x, "37 127", NO_ARGUMENT, () -> x.type(127));
        due("37 32", 1, () -> x.type(32));
        due("37 126", 2, () -> x.type(126));
        for (int n = 3; n <= 60; n++) {
            int length = n;
            due("37 length", length, () -> x.type(';'));
        }
        refused(x, "37 full", NO_STATE, () -> x.type(';'));
        refused(x, "37 full, 127", NO_ARGUMENT, () -> x.type(127));
        due("38 full", 60, x::clearText);
        due("38 empty", 0, x::clearText);
        refused(x, "39 empty", NO_ELEMENT, x::faultPosition);
        refused(x, "40 empty", NO_ELEMENT, x::faultReason);
        refused(x, "41 empty", NO_ELEMENT, x::faultCause);
        FencedBoxes full = typed(new FencedBoxes(), "n;n;n;n;n;n;n;n;n;n;n;n;n;n;n;n;n;n;n;n;n;n;n;n;n;n;n;n;n;n;");
        refused(full, "39 full, no fault", NO_ELEMENT, full::faultPosition);
        due("42 full", 30, full::play);
    }

    private static void fault(String text, int position, int reason, int cause) {
        FencedBoxes x = typed(new FencedBoxes(), text);
        due("39 " + text, position, x::faultPosition);
        due("40 " + text, reason, x::faultReason);
        due("41 " + text, cause, x::faultCause);
        refused(x, "42 " + text, NO_STATE, x::play);
        due("42 the text stays, " + text, text.length(), x::clearText);
    }

    private static void faults() {
        fault(";", 0, 1, 0);
        fault("x", 0, 1, 0);
        fault("f", 0, 1, 1);
        fault("f1", 0, 1, 2);
        fault("f12", 0, 1, 3);
        fault("f;", 0, 1, 1);
        fault("fx;", 0, 1, 1);
        fault("f1x", 0, 1, 2);
        fault("f123;", 0, 1, 3);
        fault("f-1;", 0, 1, 1);
        fault("n", 0, 1, 1);
        fault("nn;", 0, 1, 1);
        fault("n1;", 0, 1, 1);
        fault("N;", 0, 1, 0);
        fault("n; f1;", 2, 1, 0);
        fault("f1;f2", 3, 1, 2);
        fault("f01;f1;", 4, 2, 2);
        fault("f31;", 0, 2, 1);
        fault("f99;", 0, 2, 1);
        fault("f0;f00;x", 3, 2, 2);
        fault("f0;x;f0;", 3, 1, 0);
        fault("n;;", 2, 1, 0);
        FencedBoxes drawnBefore = typed(with(5), "f4;f5;");
        due("39 drawn before", 3, drawnBefore::faultPosition);
        FencedBoxes fine = typed(with(5), "n;f5;n;f5;f30;");
        refused(fine, "39 behind new games", NO_ELEMENT, fine::faultPosition);
        refused(fine, "40 behind new games", NO_ELEMENT, fine::faultReason);
        refused(fine, "41 behind new games", NO_ELEMENT, fine::faultCause);
        FencedBoxes over = typed(whole(30), "f30;f30;");
        due("40 over by the text", 2, over::faultReason);
        due("41 over by the text", 2, over::faultCause);
        due("39 over by the text", 4, over::faultPosition);
        FencedBoxes overAlready = typed(whole(31), "f31;");
        due("41 over, no such fence", 1, overAlready::faultCause);
    }

    private static void playing() {
        FencedBoxes x = typed(new FencedBoxes(), "f0;f4;f16;f17;f30;");
        due("42 five", 5, x::play);
        due("42 drawn", 5, x::drawn);
        due("42 a box", 1, () -> x.ownerOf(0));
        due("42 the turn", 0, x::turn);
        due("42 one change", 1, x::states);
        refused(x, "42 again", NO_STATE, x::play);
        due("42 undone", 0, x::undo);
        due("42 nothing drawn", 0, x::drawn);
        due("42 the text stays", 18, x::clearText);
        due("42 none", 0, x::play);
        due("42 none is a change too", 1, x::states);
        FencedBoxes last = typed(whole(30), "f30;n;f3;");
        due("42 a game ends", 3, last::play);
        due("42 it counts", 1, () -> last.won(0) + last.won(1) + last.evenGames());
        due("42 the next one", 1, last::drawn);
        FencedBoxes deals = typed(with(0, 1, 4, 5, 16, 18), "f17;");
        deals.play();
        due("42 a double deal", 1, deals::doubleDeals);
    }

    public static void main(String[] args) {
        aNewObject();
        draw();
        newGame();
        fencesThatAreDrawn();
        fencesOfBoxes();
        boxes();
        turns();
        taking();
        safeOnes();
        giving();
        chains();
        ends();
        accounts();
        snapshots();
        histories();
        texts();
        faults();
        playing();
        System.out.println(wrong == 0 ? "all promises hold" : wrong + " answers are not as due");
        if (wrong != 0) {
            System.exit(1);
        }
    }
}
