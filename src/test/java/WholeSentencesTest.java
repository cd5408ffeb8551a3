/**
 * The document's first sentence, part by part, over games that are drawn fence by fence; its parts
 * tell what belongs together, so the answers of several calls are compared.
 */
public final class WholeSentencesTest extends Sentences {
    private static final String WHAT = "What it is";

    private interface State {
        void check(int ahead, int draws);
    }

    private static void eachState(State state) {
        for (int ahead = 1; ahead < 31; ahead++) {
            for (int draws = 0; draws < 31; draws++) {
                state.check(ahead, draws);
            }
        }
    }

    private static FencedBoxes at(int ahead, int draws) {
        return strides(new FencedBoxes(), ahead, draws);
    }

    private static void drawing() {
        sentence(WHAT, "two players who draw fences", () -> {
            FencedBoxes x = with(0);
            due(1, x::turn);
            x.draw(30);
            due(0, x::turn);
            due(NO_ARGUMENT, () -> x.boxesOf(2));
        });
        sentence(WHAT, "boxes that are closed by the last fence, which count, and let the player go on", () ->
            eachState((ahead, draws) -> {
                FencedBoxes x = at(ahead, draws);
                int player = x.turn();
                int closed = x.boxesWith(4);
                int counted = x.boxesOf(player);
                int now = x.draw(ahead * draws % 31);
                same(closed + now, x.boxesWith(4));
                same(counted + now, x.boxesOf(player));
                same(now > 0 ? player : 1 - player, x.turn());
            }));
        sentence(WHAT, "deals by which two boxes are closed at once", () ->
            eachState((ahead, draws) -> {
                FencedBoxes x = at(ahead, draws);
                int deals = x.doubleDeals();
                int closed = x.draw(ahead * draws % 31);
                same(closed == 2 ? deals + 1 : deals, x.doubleDeals());
            }));
        sentence(WHAT, "games that are won", () -> {
            for (int ahead = 1; ahead < 31; ahead++) {
                FencedBoxes x = over(ahead);
                int more = Integer.compare(x.boxesOf(0), x.boxesOf(1));
                same(more > 0 ? 1 : 0, x.won(0));
                same(more < 0 ? 1 : 0, x.won(1));
                same(more == 0 ? 1 : 0, x.evenGames());
            }
        });
    }

    private static void taking() {
        sentence(WHAT, "boxes with three fences, which can be taken", () ->
            eachState((ahead, draws) -> {
                FencedBoxes x = at(ahead, draws);
                same(x.boxesWith(3) > 0, x.canTake() > 0);
                Object fence = x.boxesWith(3) > 0 ? x.takingFence() : NO_ELEMENT;
                due(fence, x::takingFence);
                same(x.boxesWith(3) > 0, !fence.equals(NO_ELEMENT) && x.draw((Integer) fence) > 0);
            }));
        sentence(WHAT, "how many could be taken in a row, told one by one and by rounds", () ->
            eachState((ahead, draws) -> {
                FencedBoxes x = at(ahead, draws);
                int can = x.canTake();
                same(can, x.canTakeByRounds());
                int player = x.turn();
                int before = x.boxesOf(player);
                takeAll(x);
                same(before + can, x.boxesOf(player));
                same(0, x.canTake());
            }));
        sentence(WHAT, "fences that are safe, as they give nothing", () ->
            eachState((ahead, draws) -> safeAsItGivesNothing(at(ahead, draws))));
        sentence(WHAT, "what a fence would give to the other player", () ->
            eachState((ahead, draws) -> {
                FencedBoxes x = at(ahead, draws);
                int fence = ahead * draws % 31;
                int given = x.gives(fence);
                int player = x.turn();
                int other = x.boxesOf(1 - player);
                if (x.draw(fence) == 0) {
                    takeAll(x);
                    same(other + given, x.boxesOf(1 - player));
                }
            }));
        sentence(WHAT, "the least sacrifice", () ->
            eachState((ahead, draws) -> {
                FencedBoxes x = at(ahead, draws);
                int least = x.leastSacrifice();
                for (int fence = 0; fence < 31; fence++) {
                    if (!x.isDrawn(fence)) {
                        same(true, x.gives(fence) > x.gives(least) - (fence < least ? 0 : 1));
                    }
                }
            }));
    }

    /** Where nothing can be taken yet, the fences that give nothing are the safe ones. */
    private static void safeAsItGivesNothing(FencedBoxes x) {
        int safe = 0;
        for (int fence = 0; fence < 31; fence++) {
            safe += x.isSafe(fence) ? 1 : 0;
            if (x.canTake() == 0 && !x.isDrawn(fence)) {
                same(x.gives(fence) == 0, x.isSafe(fence));
            }
        }
        same(safe, x.safeFences());
        same(safe > 0, x.safeInRow() > 0);
    }

    private static void takeAll(FencedBoxes x) {
        while (x.boxesWith(3) > 0) {
            x.draw(x.takingFence());
        }
    }

    private static void chains() {
        sentence(WHAT, "chains of boxes and rings, long ones", () ->
            eachState((ahead, draws) -> {
                FencedBoxes x = at(ahead, draws);
                int[] boxes = new int[13];
                for (int box = 0; box < 12; box++) {
                    int asked = box;
                    Object size = answerOf(() -> x.chainOf(asked));
                    same(x.fencesOf(box) == 2, !size.equals(NO_ELEMENT));
                    boxes[size.equals(NO_ELEMENT) ? 0 : (Integer) size]++;
                }
                int all = 0;
                for (int size = 1; size <= 12; size++) {
                    same(0, boxes[size] % size);
                    all += boxes[size] / size;
                }
                same(all, x.chains());
                same(all - boxes[1] - boxes[2] / 2, x.longChains() + x.rings());
            }));
        sentence(WHAT, "the rule of chains", () ->
            eachState((ahead, draws) -> {
                FencedBoxes x = at(ahead, draws);
                same(x.longChains() % 2, x.ruleHoldsFor());
            }));
    }

    private static void ends() {
        sentence(WHAT, "ends of games that are worked out, told with and without remembering", () -> {
            for (int ahead = 1; ahead < 31; ahead++) {
                FencedBoxes x = at(ahead, 23);
                int player = x.turn();
                int before = x.boxesOf(player) - x.boxesOf(1 - player);
                int difference = x.endDifference();
                same(difference, x.endByTrying());
                while (!x.isOver()) {
                    x.draw(x.bestFence());
                }
                same(before + difference, x.boxesOf(player) - x.boxesOf(1 - player));
            }
        });
    }

    private static void keepingAndTexts() {
        sentence(WHAT, "a snapshot", () ->
            eachState((ahead, draws) -> {
                FencedBoxes x = at(ahead, draws);
                String kept = shown(x);
                x.keep();
                x.draw(ahead * draws % 31);
                x.goBack();
                same(kept, shown(x));
            }));
        sentence(WHAT, "orders as texts with places, reasons and causes of faults", () ->
            eachState((ahead, draws) -> {
                FencedBoxes x = typed(at(ahead, draws), "f" + ahead * draws % 31 + ";");
                int length = 2 + (ahead * draws % 31 < 10 ? 1 : 2);
                due(NO_ELEMENT, x::faultPosition);
                due(1, x::play);
                same(shown(at(ahead, draws + 1)), shown(x));
                due(0, x::faultPosition);
                due(2, x::faultReason);
                due(2, x::faultCause);
                x.undo();
                typed(x, "g");
                due(length, x::faultPosition);
                due(1, x::faultReason);
                due(0, x::faultCause);
            }));
    }

    public static void main(String[] args) {
        drawing();
        taking();
        chains();
        ends();
        keepingAndTexts();
        end();
    }
}
