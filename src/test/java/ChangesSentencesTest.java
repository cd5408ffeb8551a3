/** The sentences of 'Changes and exceptions' in the terms, and of the promises 35 and 36, each by itself. */
public final class ChangesSentencesTest extends Sentences {
    private static final String TERMS = "Changes and exceptions";

    /** The four kinds of change; each leaves another number of fences than there is ahead of it. */
    private static final Use[] CHANGES = {x -> x.draw(3), FencedBoxes::newGame, FencedBoxes::goBack, FencedBoxes::play};

    /** The calls that only ask; which of them throw is another matter for each object. */
    private static final Use[] ASKING = {x -> x.isDrawn(3), FencedBoxes::drawn, x -> x.fencesOf(3), x -> x.ownerOf(0),
        x -> x.ownerOf(11), x -> x.boxesOf(1), x -> x.boxesWith(2), FencedBoxes::turn, x -> x.whyNot(3),
        FencedBoxes::isOver, FencedBoxes::canTake, FencedBoxes::canTakeByRounds, FencedBoxes::takingFence,
        x -> x.isSafe(30), FencedBoxes::safeFences, FencedBoxes::safeInRow, x -> x.gives(30), x -> x.gives(17),
        FencedBoxes::leastSacrifice, FencedBoxes::chains, x -> x.chainOf(0), x -> x.chainOf(11), FencedBoxes::rings,
        FencedBoxes::longChains, FencedBoxes::ruleHoldsFor, FencedBoxes::endDifference, FencedBoxes::endByTrying,
        FencedBoxes::bestFence, x -> x.won(0), FencedBoxes::evenGames, FencedBoxes::doubleDeals, FencedBoxes::share,
        FencedBoxes::states, FencedBoxes::faultPosition, FencedBoxes::faultReason, FencedBoxes::faultCause};

    /** Games behind it, boxes of both players, a snapshot, a history, and a text that can be played. */
    private static FencedBoxes rich() {
        FencedBoxes x = over(2);
        x.newGame();
        for (int fence : new int[] {0, 16, 17, 4}) {
            x.draw(fence);
        }
        x.keep();
        for (int fence : new int[] {30, 1, 5, 2, 6, 19, 18}) {
            x.draw(fence);
        }
        return typed(x, "f20;");
    }

    private static FencedBoxes richWithFault() {
        return typed(rich(), "f20;");
    }

    private static FencedBoxes richAndOver() {
        FencedBoxes x = over(9);
        x.keep();
        return typed(x, "n;f7;");
    }

    /** Boxes with two fences and with three, and ends that can be worked out. */
    private static FencedBoxes nearEnd() {
        FencedBoxes x = allBut(0, 17, 18, 2, 15);
        x.keep();
        return typed(x, "f15;f17;");
    }

    private static FencedBoxes fullText() {
        return typed(with(30, 29), LONG + "n;");
    }

    private static void kinds() {
        sentence(TERMS, "The changes are the calls of draw, newGame, goBack and play that throw nothing.", () -> {
            for (Use change : CHANGES) {
                FencedBoxes x = typed(new FencedBoxes(), "f4;");
                x.keep();
                due(0, x::states);
                change.of(x);
                due(1, x::states);
                x.newGame();
                due(2, x::states);
                change.of(x);
                due(3, x::states);
            }
        });
        sentence(TERMS, "that throw nothing", () -> {
            FencedBoxes x = new FencedBoxes();
            due(NO_ARGUMENT, () -> x.draw(31));
            due(NO_STATE, x::goBack);
            typed(x, "f");
            due(NO_STATE, x::play);
            due(0, x::states);
            x.draw(0);
            due(NO_STATE, () -> x.draw(0));
            due(1, x::states);
        });
        sentence(TERMS, "The changes are the calls of draw, newGame, goBack and play", () -> {
            FencedBoxes x = ascending(30);
            for (int n = 4; n > 1; n--) {
                x.undo();
            }
            due(1, x::states);
            noChanges(x);
            due(1, x::states);
            due(0, x::undo);
            due(26, x::drawn);
            due(1, x::clearText);
        });
    }

    /** All calls that are no changes, such as throw something among them. */
    private static void noChanges(FencedBoxes x) {
        for (Use call : ASKING) {
            answerOf(() -> call.of(x));
        }
        x.keep();
        x.clearText();
        x.type('n');
    }

    private static void asking() {
        sentence("Not promised", "Nothing is promised beyond the answers and state changes described above", () -> {
            for (Use call : ASKING) {
                asksAlone(ChangesSentencesTest::rich, call);
                asksAlone(ChangesSentencesTest::richWithFault, call);
                asksAlone(ChangesSentencesTest::richAndOver, call);
                asksAlone(ChangesSentencesTest::nearEnd, call);
                asksAlone(call);
            }
        });
    }

    /** What the call answers is no matter here. */
    private static void asksAlone(Maker maker, Use call) {
        FencedBoxes x = maker.make();
        changesNothing(maker, answerOf(() -> call.of(x)), call);
    }

    /** Told by one call for each object, as others that ask could hide what the call has done. */
    private static void asksAlone(Use call) {
        due(4, () -> behind(rich(), call).goBack());
        due(11, () -> behind(rich(), call).newGame());
        due(4, () -> behind(rich(), call).clearText());
        due(1, () -> behind(with(0, 16), call).undo());
        due(NO_STATE, () -> behind(new FencedBoxes(), call).undo());
        due(NO_STATE, () -> behind(new FencedBoxes(), call).goBack());
        due(1, () -> behind(new FencedBoxes(), call).type('n'));
    }

    private static FencedBoxes behind(FencedBoxes x, Use call) {
        answerOf(() -> call.of(x));
        return x;
    }

    private static void histories() {
        sentence(TERMS, "A history of at most 4 states is kept", () -> {
            FencedBoxes x = new FencedBoxes();
            for (int n = 1; n <= 9; n++) {
                x.draw(n);
                due(Math.min(n, 4), x::states);
            }
            x.newGame();
            due(4, x::states);
        });
        sentence(TERMS, "each change records everything before it", () -> {
            for (Use change : CHANGES) {
                FencedBoxes x = rich();
                String before = shown(x);
                change.of(x);
                same(false, before.equals(shown(x)));
                due(3, x::undo);
                same(before, shown(x));
                FencedBoxes over = richAndOver();
                String end = shown(over);
                if (change != CHANGES[0]) {
                    change.of(over);
                    due(3, over::undo);
                    same(end, shown(over));
                }
            }
            for (int ahead : new int[] {2, 9, 28}) {
                FencedBoxes last = strides(new FencedBoxes(), ahead, 30);
                String before = shown(last);
                last.draw(ahead * 30 % 31);
                last.undo();
                same(before, shown(last));
            }
        });
        sentence(TERMS, "but the text and the snapshot", () -> {
            FencedBoxes x = typed(with(0), "f1;");
            x.keep();
            x.draw(1);
            typed(x, "x");
            due(1, x::undo);
            due(3, x::faultPosition);
            due(4, x::clearText);
            due(0, x::undo);
            due(0, x::clearText);
            due(1, x::goBack);
            x.draw(2);
            x.keep();
            x.undo();
            x.undo();
            due(0, x::drawn);
            due(2, x::goBack);
        });
        sentence(TERMS, "if there are 5 states then, the oldest one is dropped", () -> {
            for (Use fifth : CHANGES) {
                FencedBoxes x = typed(new FencedBoxes(), "f4;");
                x.keep();
                for (int fence = 5; fence < 9; fence++) {
                    x.draw(fence);
                }
                due(4, x::states);
                fifth.of(x);
                due(4, x::states);
                for (int left = 3; left >= 0; left--) {
                    due(left, x::undo);
                    due(left + 1, x::drawn);
                }
                due(NO_STATE, x::undo);
                due(1, x::drawn);
                due(true, () -> x.isDrawn(5));
            }
            FencedBoxes four = ascending(4);
            for (int left = 3; left >= 0; left--) {
                due(left, four::undo);
                due(left, four::drawn);
            }
        });
        sentence("35 states", "Returns how many, 0 to 4.", () -> {
            FencedBoxes x = new FencedBoxes();
            due(0, x::states);
            x.newGame();
            due(1, x::states);
            for (int fence = 0; fence < 5; fence++) {
                x.draw(fence);
            }
            due(4, x::states);
            for (int left = 3; left >= 0; left--) {
                x.undo();
                due(left, x::states);
            }
            due(NO_STATE, x::undo);
            due(0, x::states);
        });
    }

    private static void undoing() {
        String undo = "36 undo";
        sentence(undo, "Restores the latest state of the history, which is removed from it.", () -> {
            FencedBoxes x = with(0, 16, 17);
            String before = shown(x);
            x.draw(4);
            String between = shown(x);
            x.newGame();
            x.undo();
            same(between, shown(x));
            x.undo();
            same(before, shown(x));
            x.draw(20);
            x.undo();
            same(before, shown(x));
            x.undo();
            due(2, x::drawn);
            FencedBoxes one = with(0);
            one.undo();
            due(0, one::states);
            due(0, one::drawn);
            due(NO_STATE, one::undo);
        });
        sentence(undo, "Returns the number of states that are left.", () -> {
            FencedBoxes x = ascending(6);
            for (int left = 3; left >= 0; left--) {
                due(left, x::undo);
            }
            x.draw(9);
            due(0, x::undo);
        });
        sentence(undo, "Throws `IllegalStateException` if the history is empty", () -> {
            due(NO_STATE, () -> new FencedBoxes().undo());
            FencedBoxes x = with(0);
            due(0, x::undo);
            due(NO_STATE, x::undo);
            x.keep();
            due(NO_STATE, x::undo);
            due(0, x::drawn);
        });
    }

    private static void exceptions() {
        sentence(TERMS, "If several exceptions apply to a call, the one that its throws clause names first is thrown.",
            () -> {
                due(NO_ARGUMENT, () -> over(1).draw(31));
                due(NO_ARGUMENT, () -> over(1).draw(-1));
                due(NO_ARGUMENT, () -> over(1).gives(31));
                due(NO_ARGUMENT, () -> over(1).gives(-1));
                due(NO_ARGUMENT, () -> new FencedBoxes().ownerOf(12));
                due(NO_ARGUMENT, () -> new FencedBoxes().ownerOf(-1));
                due(NO_ARGUMENT, () -> new FencedBoxes().chainOf(12));
                due(NO_ARGUMENT, () -> new FencedBoxes().chainOf(-1));
                due(NO_ARGUMENT, () -> fullText().type(31));
                due(NO_ARGUMENT, () -> fullText().type(127));
            });
        sentence(TERMS, "A call that throws an exception changes nothing.", () -> {
            Use[] wrongArguments = {x -> x.draw(-1), x -> x.draw(31), x -> x.isDrawn(31), x -> x.fencesOf(12),
                x -> x.ownerOf(12), x -> x.boxesOf(2), x -> x.boxesWith(5), x -> x.whyNot(31), x -> x.isSafe(31),
                x -> x.gives(31), x -> x.chainOf(12), x -> x.won(2), x -> x.type(31), x -> x.type(127)};
            for (Use use : wrongArguments) {
                changesNothing(ChangesSentencesTest::richWithFault, NO_ARGUMENT, use);
                changesNothing(ChangesSentencesTest::richAndOver, NO_ARGUMENT, use);
            }
            changesNothing(ChangesSentencesTest::richWithFault, NO_STATE, x -> x.draw(0));
            changesNothing(ChangesSentencesTest::richWithFault, NO_STATE, x -> x.gives(0));
            changesNothing(ChangesSentencesTest::richWithFault, NO_STATE, FencedBoxes::play);
            changesNothing(ChangesSentencesTest::richWithFault, NO_ELEMENT, x -> x.ownerOf(11));
            changesNothing(ChangesSentencesTest::richWithFault, NO_ELEMENT, x -> x.chainOf(11));
            changesNothing(ChangesSentencesTest::richWithFault, NO_ELEMENT, FencedBoxes::endDifference);
            changesNothing(ChangesSentencesTest::richWithFault, NO_ELEMENT, FencedBoxes::endByTrying);
            changesNothing(ChangesSentencesTest::richWithFault, NO_ELEMENT, FencedBoxes::bestFence);
            changesNothing(ChangesSentencesTest::richAndOver, NO_STATE, x -> x.draw(0));
            changesNothing(ChangesSentencesTest::richAndOver, NO_STATE, x -> x.gives(0));
            changesNothing(ChangesSentencesTest::richAndOver, NO_ELEMENT, FencedBoxes::takingFence);
            changesNothing(ChangesSentencesTest::richAndOver, NO_ELEMENT, FencedBoxes::leastSacrifice);
            changesNothing(ChangesSentencesTest::richAndOver, NO_ELEMENT, FencedBoxes::bestFence);
            changesNothing(ChangesSentencesTest::richAndOver, NO_ELEMENT, FencedBoxes::faultPosition);
            changesNothing(ChangesSentencesTest::richAndOver, NO_ELEMENT, FencedBoxes::faultReason);
            changesNothing(ChangesSentencesTest::richAndOver, NO_ELEMENT, FencedBoxes::faultCause);
            changesNothing(FencedBoxes::new, NO_STATE, FencedBoxes::undo);
            changesNothing(() -> with(0), NO_STATE, FencedBoxes::goBack);
            changesNothing(ChangesSentencesTest::fullText, NO_STATE, x -> x.type(';'));
            changesNothing(() -> typed(ascending(30), "f30;f30;"), NO_STATE, FencedBoxes::play);
        });
    }

    public static void main(String[] args) {
        kinds();
        asking();
        histories();
        undoing();
        exceptions();
        end();
    }
}
