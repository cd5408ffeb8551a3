/** The sentences of 'Taking, giving' in the terms, and of the promises 13 to 20, each by itself. */
public final class TakingSentencesTest extends Sentences {
    private static final String TERMS = "Taking, giving";
    private static final String NO_FENCE = "Throws `IllegalArgumentException` if there is no such fence";
    private static final String FENCE_RANGE = "`fence`: 0 to 30";
    private static final int[] WRONG_FENCES = {-1, 31, 32, 63, -31, Integer.MIN_VALUE, Integer.MAX_VALUE};

    private static FencedBoxes threeAndOne() {
        return allBut(0, 17, 18, 2, 15, 30);
    }

    private static void termsOfTaking() {
        sentence(TERMS, "A box can be taken if it has three fences.", () -> {
            int[] fences = {0, 16, 17, 4};
            int[] due = {0, 0, 1, 0};
            FencedBoxes x = new FencedBoxes();
            due(0, x::canTake);
            for (int n = 0; n < 4; n++) {
                x.draw(fences[n]);
                due(due[n], x::canTake);
                due(due[n], x::canTakeByRounds);
                due(due[n] == 1 ? 4 : NO_ELEMENT, x::takingFence);
            }
        });
        sentence(TERMS, "What can be taken in a row is how many boxes are closed when the last fence of a box that "
            + "can be taken is drawn, again and again, until no box can be taken.", () -> {
                due(1, () -> with(0, 16, 17).canTake());
                due(2, () -> with(0, 1, 4, 5, 16, 18).canTake());
                due(2, () -> with(0, 16, 17, 8, 21, 22).canTake());
                due(2, () -> with(0, 16, 17, 15, 29, 30).canTake());
                due(3, () -> with(0, 1, 2, 4, 5, 6, 16).canTake());
                due(3, () -> with(0, 1, 2, 4, 5, 6, 16, 19).canTake());
                due(2, () -> with(0, 1, 2, 4, 5, 6, 16, 17).canTake());
                due(4, () -> with(0, 1, 2, 3, 4, 5, 6, 7, 16).canTake());
                due(12, () -> winding().canTake());
                due(12, () -> pairs().canTake());
            });
        sentence(TERMS, "A fence that is not drawn is safe, if no box that has two fences is beside it, and none "
            + "with three.", () -> {
                for (int box = 0; box < 12; box++) {
                    int left = 16 + 5 * (box / 4) + box % 4;
                    int[] sides = {box, box + 4, left, left + 1};
                    for (int place = 0; place < 4; place++) {
                        FencedBoxes x = new FencedBoxes();
                        int fence = sides[place];
                        due(true, () -> x.isSafe(fence));
                        for (int count = 1; count <= 3; count++) {
                            x.draw(sides[(place + count) % 4]);
                            due(count < 2, () -> x.isSafe(fence));
                        }
                    }
                }
                FencedBoxes closed = with(0, 4, 16, 17);
                due(true, () -> closed.isSafe(18));
            });
    }

    private static void termsOfGiving() {
        sentence(TERMS, "What a fence gives is how many boxes could be taken in a row behind it", () -> {
            due(0, () -> new FencedBoxes().gives(0));
            due(0, () -> with(0).gives(16));
            due(1, () -> with(0, 16).gives(17));
            due(4, () -> ascending(16).gives(16));
            due(4, () -> ascending(16).gives(17));
            due(3, () -> threeAndOne().gives(18));
            due(1, () -> threeAndOne().gives(30));
            due(12, () -> allBut(0, 17, 18, 19, 7, 24, 23, 22, 8, 27, 28, 29, 30).gives(0));
            due(12, () -> allBut(0, 17, 18, 19, 7, 24, 23, 22, 8, 27, 28, 29, 30).gives(24));
        });
        sentence(TERMS, "also those that could be before", () -> {
            due(1, () -> with(0, 16, 17).gives(30));
            due(2, () -> with(0, 16, 17, 15, 30).gives(29));
            due(10, () -> pairs().gives(17));
        });
        sentence(TERMS, "it is told without looking at boxes that it closes itself", () -> {
            due(0, () -> with(0, 16, 17).gives(4));
            due(0, () -> with(0, 1, 4, 5, 16, 18).gives(17));
            due(3, () -> with(0, 1, 2, 3, 4, 5, 6, 7, 16).gives(17));
            due(11, () -> allBut(0, 17, 18, 19, 7, 24, 23, 22, 8, 27, 28, 29).gives(29));
            due(0, () -> allBut(17).gives(17));
        });
        sentence(TERMS, "and whoever's turn it is then", () -> {
            FencedBoxes second = with(0, 16, 17);
            FencedBoxes first = with(0, 16, 17, 30);
            due(1, second::turn);
            due(0, first::turn);
            for (FencedBoxes x : new FencedBoxes[] {first, second}) {
                due(0, () -> x.gives(4));
                due(1, () -> x.gives(1));
            }
        });
    }

    private static void taking() {
        sentence("13 canTake", "Returns how many boxes can be taken in a row now, told one by one.", () -> {
            due(0, () -> new FencedBoxes().canTake());
            due(0, () -> ascending(16).canTake());
            due(0, () -> over(1).canTake());
            due(1, () -> allBut(30).canTake());
            due(1, () -> with(15, 29, 30).canTake());
            due(3, () -> with(0, 1, 2, 3, 4, 5, 6, 7, 16, 17).canTake());
            due(12, () -> winding().canTake());
            FencedBoxes x = pairs();
            due(12, x::canTake);
            due(25, x::drawn);
            for (int left = 10; left >= 0; left -= 2) {
                x.draw(x.takingFence());
                due(left, x::canTake);
            }
        });
        sentence("14 canTakeByRounds", "Returns the same, told by rounds: in each round the last fences of all boxes "
            + "that can be taken are drawn.", () -> {
                due(0, () -> new FencedBoxes().canTakeByRounds());
                due(0, () -> over(1).canTakeByRounds());
                due(1, () -> allBut(30).canTakeByRounds());
                due(2, () -> with(0, 1, 4, 5, 16, 18).canTakeByRounds());
                due(3, () -> with(0, 1, 2, 4, 5, 6, 16, 19).canTakeByRounds());
                due(3, () -> with(0, 1, 2, 3, 4, 5, 6, 7, 16, 17).canTakeByRounds());
                due(4, () -> with(0, 1, 2, 3, 4, 5, 6, 7, 16, 20).canTakeByRounds());
                due(12, () -> winding().canTakeByRounds());
                due(12, () -> pairs().canTakeByRounds());
                for (int ahead = 1; ahead < 31; ahead++) {
                    FencedBoxes x = new FencedBoxes();
                    for (int n = 0; n < 31; n++) {
                        x.draw(ahead * n % 31);
                        same(x.canTake(), x.canTakeByRounds());
                    }
                }
            });
        String takingFence = "15 takingFence";
        sentence(takingFence, "Returns the lowest fence that closes a box now.", () -> {
            due(0, () -> with(4, 16, 17).takingFence());
            due(0, () -> allBut(0).takingFence());
            due(30, () -> allBut(30).takingFence());
            due(4, () -> with(0, 16, 17, 15, 29, 30).takingFence());
            due(17, () -> with(0, 4, 16).takingFence());
            due(17, () -> pairs().takingFence());
            due(29, () -> threeAndTwo().takingFence());
        });
        sentence(takingFence, "Throws `NoSuchElementException` if none does", () -> {
            due(NO_ELEMENT, () -> new FencedBoxes().takingFence());
            due(NO_ELEMENT, () -> ascending(16).takingFence());
            due(NO_ELEMENT, () -> threeAndOne().takingFence());
            due(NO_ELEMENT, () -> over(1).takingFence());
            FencedBoxes x = with(0, 16, 17);
            due(4, x::takingFence);
            x.draw(4);
            due(NO_ELEMENT, x::takingFence);
        });
    }

    /** Lower fences are open too, but the fence 29 alone closes a box. */
    private static FencedBoxes threeAndTwo() {
        return with(10, 14, 28, 16);
    }

    private static void safety() {
        String isSafe = "16 isSafe";
        sentence(isSafe, "Returns whether it is; false if it is drawn.", () -> {
            FencedBoxes x = with(0);
            due(false, () -> x.isSafe(0));
            due(true, () -> x.isSafe(4));
            due(true, () -> x.isSafe(1));
            FencedBoxes over = over(1);
            for (int fence = 0; fence < 31; fence++) {
                int asked = fence;
                due(false, () -> over.isSafe(asked));
            }
        });
        sentence(isSafe, FENCE_RANGE, () -> {
            due(true, () -> new FencedBoxes().isSafe(0));
            due(true, () -> new FencedBoxes().isSafe(30));
        });
        sentence(isSafe, NO_FENCE, () -> {
            for (int fence : WRONG_FENCES) {
                due(NO_ARGUMENT, () -> new FencedBoxes().isSafe(fence));
                due(NO_ARGUMENT, () -> over(1).isSafe(fence));
            }
        });
        sentence("17 safeFences", "Returns how many fences are safe.", () -> {
            due(31, () -> new FencedBoxes().safeFences());
            due(30, () -> with(0).safeFences());
            due(27, () -> with(0, 16).safeFences());
            due(26, () -> with(15, 30, 0).safeFences());
            due(2, () -> allBut(0, 4, 16).safeFences());
            due(3, () -> allBut(4, 16, 17, 21, 22).safeFences());
            due(0, () -> ascending(16).safeFences());
            due(0, () -> over(1).safeFences());
        });
        sentence("18 safeInRow", "Returns the most safe fences that can be drawn one behind the other, if always the "
            + "lowest one is.", () -> {
                FencedBoxes x = new FencedBoxes();
                due(16, x::safeInRow);
                due(0, x::drawn);
                due(31, x::safeFences);
                due(15, () -> with(0).safeInRow());
                due(1, () -> allBut(0, 4, 16).safeInRow());
                due(1, () -> allBut(4, 16, 17, 21, 22).safeInRow());
                due(1, () -> ascending(15).safeInRow());
                due(0, () -> ascending(16).safeInRow());
                due(0, () -> over(1).safeInRow());
            });
    }

    private static void giving() {
        String gives = "19 gives";
        sentence(gives, FENCE_RANGE, () -> {
            due(0, () -> new FencedBoxes().gives(0));
            due(0, () -> new FencedBoxes().gives(30));
            due(3, () -> threeAndOne().gives(0));
            due(1, () -> threeAndOne().gives(30));
        });
        sentence(gives, "Returns what a fence gives.", () -> {
            FencedBoxes x = threeAndOne();
            int[] open = {0, 2, 15, 17, 18, 30};
            int[] due = {3, 3, 1, 3, 3, 1};
            for (int n = 0; n < open.length; n++) {
                int fence = open[n];
                due(due[n], () -> x.gives(fence));
            }
            due(25, x::drawn);
            due(4, x::states);
        });
        sentence(gives, NO_FENCE, () -> {
            for (int fence : WRONG_FENCES) {
                due(NO_ARGUMENT, () -> new FencedBoxes().gives(fence));
                due(NO_ARGUMENT, () -> over(1).gives(fence));
            }
        });
        sentence(gives, "Throws `IllegalStateException` if it is drawn", () -> {
            due(NO_STATE, () -> with(0).gives(0));
            due(NO_STATE, () -> with(30).gives(30));
            due(NO_STATE, () -> over(1).gives(30));
            due(NO_STATE, () -> pairs().gives(18));
        });
        String least = "20 leastSacrifice";
        sentence(least, "Returns the fence that gives the least, of several the lowest.", () -> {
            due(0, () -> new FencedBoxes().leastSacrifice());
            due(1, () -> with(0, 16).leastSacrifice());
            due(16, () -> ascending(16).leastSacrifice());
            due(15, () -> threeAndOne().leastSacrifice());
            due(17, () -> allBut(17, 15, 30).leastSacrifice());
            due(4, () -> with(0, 16, 17).leastSacrifice());
            due(17, () -> pairs().leastSacrifice());
            due(0, () -> allBut(0, 17, 18, 19, 7, 24, 23, 22, 8, 27, 28, 29, 30).leastSacrifice());
            due(30, () -> allBut(30).leastSacrifice());
            due(0, () -> allBut(0).leastSacrifice());
        });
        sentence(least, "Throws `NoSuchElementException` if all are drawn", () -> {
            FencedBoxes x = ascending(30);
            due(30, x::leastSacrifice);
            x.draw(30);
            due(NO_ELEMENT, x::leastSacrifice);
            x.newGame();
            due(0, x::leastSacrifice);
        });
    }

    public static void main(String[] args) {
        termsOfTaking();
        termsOfGiving();
        taking();
        safety();
        giving();
        end();
    }
}
