/**
 * What each promise says in short of its call, or of the answer, as 'Returns how many.': each by
 * itself, on the same four objects, whose answers were found by hand.
 */
public final class AnswersSentencesTest extends Sentences {
    private static final String HOW_MANY = "Returns how many.";
    private static final String WHETHER = "Returns whether it is.";
    private static final String THE_PLAYER = "Returns the player.";
    private static final String THE_FENCE = "Returns the fence.";

    /** The player 1 can take the box 0 by the fence 4; the box 1 has one fence. */
    private static FencedBoxes started() {
        return with(0, 16, 17);
    }

    /**
     * The chain 0, 1, 2 and the chain 11 are open; of the others 4, 5, 6 and 7 are the player 0's,
     * 3, 8, 9 and 10 the player 1's, whose turn it is.
     */
    private static FencedBoxes nearEnd() {
        return allBut(0, 17, 18, 2, 15, 30);
    }

    /** The call's answers on a new object, on one that is begun, near its end, and over, all boxes 0's. */
    private static void answers(String promise, String words, Use call, Object... want) {
        sentence(promise, words, () -> {
            Maker[] makers = {FencedBoxes::new, AnswersSentencesTest::started, AnswersSentencesTest::nearEnd,
                () -> over(2)};
            same(makers.length, want.length);
            for (int n = 0; n < makers.length; n++) {
                FencedBoxes x = makers[n].make();
                due(want[n], () -> call.of(x));
                due(want[n], () -> call.of(x));
            }
        });
    }

    private static void fencesAndBoxes() {
        sentence("2 draw", "The player whose turn it is draws a fence.", () -> {
            FencedBoxes x = started();
            due(1, x::turn);
            due(false, () -> x.isDrawn(4));
            x.draw(4);
            due(true, () -> x.isDrawn(4));
            due(4, x::drawn);
            due(1, () -> x.ownerOf(0));
            due(1, x::turn);
            x.draw(30);
            due(5, x::drawn);
            due(0, x::turn);
            x.draw(1);
            x.draw(18);
            due(0, x::turn);
            x.draw(5);
            due(0, () -> x.ownerOf(1));
        });
        answers("4 isDrawn", WHETHER, x -> x.isDrawn(16), false, true, true, true);
        answers("4 isDrawn", "Tells whether a fence is drawn.", x -> x.isDrawn(30), false, false, false, true);
        answers("5 drawn", HOW_MANY, FencedBoxes::drawn, 0, 3, 25, 31);
        answers("6 fencesOf", HOW_MANY, x -> x.fencesOf(0), 0, 3, 2, 4);
        answers("6 fencesOf", "Returns how many fences a box has.", x -> x.fencesOf(1), 0, 1, 2, 4);
        answers("7 ownerOf", THE_PLAYER, x -> x.ownerOf(3), NO_ELEMENT, NO_ELEMENT, 1, 0);
        answers("7 ownerOf", "Returns which player closed a box.", x -> x.ownerOf(4), NO_ELEMENT, NO_ELEMENT, 0, 0);
        answers("8 boxesOf", HOW_MANY, x -> x.boxesOf(1), 0, 0, 4, 0);
        answers("8 boxesOf", "Returns how many boxes a player has closed in this game.", x -> x.boxesOf(0),
            0, 0, 4, 12);
        answers("9 boxesWith", HOW_MANY, x -> x.boxesWith(4), 0, 0, 8, 12);
        answers("9 boxesWith", "Returns how many boxes have a number of fences.", x -> x.boxesWith(2), 0, 0, 4, 0);
        answers("10 turn", THE_PLAYER, FencedBoxes::turn, 0, 1, 1, 0);
        answers("11 whyNot", "Tells why a fence is not drawn.", x -> x.whyNot(16), 0, 2, 2, 1);
        answers("12 isOver", WHETHER, FencedBoxes::isOver, false, false, false, true);
    }

    private static void takingAndGiving() {
        answers("13 canTake", HOW_MANY, FencedBoxes::canTake, 0, 1, 0, 0);
        answers("14 canTakeByRounds", HOW_MANY, FencedBoxes::canTakeByRounds, 0, 1, 0, 0);
        answers("15 takingFence", THE_FENCE, FencedBoxes::takingFence, NO_ELEMENT, 4, NO_ELEMENT, NO_ELEMENT);
        answers("16 isSafe", "Tells whether a fence is safe.", x -> x.isSafe(30), true, true, false, false);
        answers("17 safeFences", HOW_MANY, FencedBoxes::safeFences, 31, 27, 0, 0);
        answers("18 safeInRow", HOW_MANY, FencedBoxes::safeInRow, 16, 14, 0, 0);
        answers("19 gives", "Returns how many boxes.", x -> x.gives(18), 0, 1, 3, NO_STATE);
        answers("20 leastSacrifice", THE_FENCE, FencedBoxes::leastSacrifice, 0, 4, 15, NO_ELEMENT);
    }

    private static void chainsAndEnds() {
        answers("21 chains", HOW_MANY, FencedBoxes::chains, 0, 0, 2, 0);
        answers("22 chainOf", HOW_MANY, x -> x.chainOf(1), NO_ELEMENT, NO_ELEMENT, 3, NO_ELEMENT);
        answers("23 rings", HOW_MANY, FencedBoxes::rings, 0, 0, 0, 0);
        sentence("23 rings", HOW_MANY, () -> due(1, () -> allBut(4, 17, 5, 22).rings()));
        answers("24 longChains", HOW_MANY, FencedBoxes::longChains, 0, 0, 1, 0);
        answers("25 ruleHoldsFor", THE_PLAYER, FencedBoxes::ruleHoldsFor, 0, 0, 1, 0);
        answers("26 endDifference", "Returns the difference, -12 to 12.", FencedBoxes::endDifference,
            NO_ELEMENT, NO_ELEMENT, 2, 0);
        answers("27 endByTrying", "Returns the difference.", FencedBoxes::endByTrying, NO_ELEMENT, NO_ELEMENT, 2, 0);
        answers("28 bestFence", THE_FENCE, FencedBoxes::bestFence, NO_ELEMENT, NO_ELEMENT, 15, NO_ELEMENT);
    }

    private static void accountsAndTexts() {
        answers("29 won", "Returns how many games a player has won.", x -> x.won(0), 0, 0, 0, 1);
        answers("29 won", "Returns how many so far.", x -> x.won(1), 0, 0, 0, 0);
        answers("30 evenGames", "Returns how many so far.", FencedBoxes::evenGames, 0, 0, 0, 0);
        answers("31 doubleDeals", "Returns how many so far, in all games.", FencedBoxes::doubleDeals, 0, 0, 0, 5);
        answers("32 share", "Returns the share.", FencedBoxes::share, 0f, 0f, 0.6666667f, 1f);
        answers("35 states", "Returns how many states the history has.", FencedBoxes::states, 0, 3, 4, 4);
        answers("39 faultPosition", "Returns the position.", x -> faulty(x).faultPosition(), 3, 3, 0, 0);
        answers("40 faultReason", "Tells the reason of the fault of the text.", x -> faulty(x).faultReason(),
            1, 1, 2, 2);
        answers("41 faultCause", "Tells the cause of the fault of the text.", x -> faulty(x).faultCause(),
            3, 3, 2, 2);
    }

    /** A text that breaks off behind an order that is not possible near the end, and over. */
    private static FencedBoxes faulty(FencedBoxes x) {
        x.clearText();
        return typed(x, "f1;f16");
    }

    public static void main(String[] args) {
        fencesAndBoxes();
        takingAndGiving();
        chainsAndEnds();
        accountsAndTexts();
        end();
    }
}
