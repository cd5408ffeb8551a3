/** The sentences of 'Boxes, fences' in the terms, and of the promises 1 to 12, each by itself. */
public final class BoxesSentencesTest extends Sentences {
    private static final String TERMS = "Boxes, fences";
    private static final String NO_FENCE = "Throws `IllegalArgumentException` if there is no such fence";
    private static final String NO_BOX = "Throws `IllegalArgumentException` if there is no such box";
    private static final String FENCE_RANGE = "`fence`: 0 to 30";
    private static final String BOX_RANGE = "`box`: 0 to 11";
    private static final int[] WRONG_FENCES = {-1, 31, 32, 63, -31, Integer.MIN_VALUE, Integer.MAX_VALUE};
    private static final int[] WRONG_BOXES = {-1, 12, 32, -12, Integer.MIN_VALUE, Integer.MAX_VALUE};
    private static final int[] WRONG_PLAYERS = {-1, 2, Integer.MIN_VALUE, Integer.MAX_VALUE};

    private static void rowsAndColumns() {
        sentence(TERMS, "There are 12 boxes in 4 columns and 3 rows; the box b is in the column b modulo 4, "
            + "and the row b divided by 4, rounded down.", () -> {
                for (int box = 0; box < 12; box++) {
                    int row = box / 4;
                    int column = box % 4;
                    int left = 16 + 5 * row + column;
                    FencedBoxes x = with(4 * row + column, 4 * row + column + 4, left, left + 1);
                    for (int other = 0; other < 12; other++) {
                        int steps = Math.abs(row - other / 4) + Math.abs(column - other % 4);
                        int asked = other;
                        due(steps == 0 ? 4 : steps == 1 ? 1 : 0, () -> x.fencesOf(asked));
                    }
                }
            });
        sentence(TERMS, "There are 31 fences", () -> {
            FencedBoxes x = ascending(30);
            due(false, x::isOver);
            due(0, () -> x.whyNot(30));
            due(1, () -> x.draw(30));
            due(true, x::isOver);
            due(NO_ARGUMENT, () -> new FencedBoxes().draw(31));
        });
        sentence(TERMS, "0 to 15 lie above or below boxes: the fence 4 times the row, and the column, together, "
            + "is the upper one of a box, and that with 4 more its lower one", () -> {
                for (int box = 0; box < 12; box++) {
                    int upper = 4 * (box / 4) + box % 4;
                    besideJust(upper, box, box - 4);
                    besideJust(upper + 4, box, box + 4);
                }
            });
        sentence(TERMS, "16 to 30 stand beside boxes: the fence 16, and 5 times the row, and the column, together, "
            + "is the left one of a box, and that with 1 more its right one", () -> {
                for (int box = 0; box < 12; box++) {
                    int left = 16 + 5 * (box / 4) + box % 4;
                    besideJust(left, box, box % 4 > 0 ? box - 1 : -1);
                    besideJust(left + 1, box, box % 4 < 3 ? box + 1 : -1);
                }
            });
        sentence(TERMS, "So a fence has one box beside it, or two.", () -> {
            int[] one = {0, 1, 2, 3, 12, 13, 14, 15, 16, 20, 21, 25, 26, 30};
            int[] two = {4, 5, 6, 7, 8, 9, 10, 11, 17, 18, 19, 22, 23, 24, 27, 28, 29};
            for (int fence : one) {
                due(1, () -> with(fence).boxesWith(1));
            }
            for (int fence : two) {
                due(2, () -> with(fence).boxesWith(1));
            }
            closesNone(with(3, 7, 19, 20), 21);
            closesNone(with(8, 4, 21, 22), 20);
            closesNone(with(7, 11, 24, 25), 26);
            closesNone(with(8, 12, 26, 27), 25);
            closesNone(with(11, 15, 29, 30), 16);
        });
    }

    /** A box that is none, below 0 or above 11, is not looked for. */
    private static void besideJust(int fence, int box, int other) {
        FencedBoxes x = with(fence);
        for (int b = 0; b < 12; b++) {
            int asked = b;
            due(b == box || b == other ? 1 : 0, () -> x.fencesOf(asked));
        }
    }

    /** A box of another row is closed, and has a neighbouring number, but is not beside the fence. */
    private static void closesNone(FencedBoxes x, int fence) {
        due(1, () -> x.boxesWith(4));
        due(0, () -> x.draw(fence));
        due(1, () -> x.boxesOf(0) + x.boxesOf(1));
        due(0, x::turn);
    }

    private static void drawing() {
        sentence(TERMS, "The player 0 begins a game.", () -> {
            due(0, () -> new FencedBoxes().turn());
            FencedBoxes second = with(0);
            due(1, second::turn);
            second.newGame();
            due(0, second::turn);
            FencedBoxes over = over(1);
            due(1, over::turn);
            over.newGame();
            due(0, over::turn);
            FencedBoxes text = typed(with(0), "n;");
            text.play();
            due(0, text::turn);
        });
        sentence(TERMS, "The player whose turn it is draws a fence; each box beside it that has four fences then "
            + "is closed, and counts for this player.", () -> {
                FencedBoxes none = with(0, 16);
                due(0, () -> none.draw(17));
                due(NO_ELEMENT, () -> none.ownerOf(0));
                FencedBoxes one = with(0, 16, 17);
                due(1, () -> one.draw(4));
                due(1, () -> one.ownerOf(0));
                due(1, () -> one.boxesOf(1));
                due(0, () -> one.boxesOf(0));
                FencedBoxes first = with(0, 16, 17, 30);
                due(1, () -> first.draw(4));
                due(0, () -> first.ownerOf(0));
                due(1, () -> first.boxesOf(0));
                due(0, () -> first.boxesOf(1));
                FencedBoxes two = with(0, 1, 4, 5, 16, 18);
                due(2, () -> two.draw(17));
                due(0, () -> two.ownerOf(0));
                due(0, () -> two.ownerOf(1));
                due(2, () -> two.boxesOf(0));
                FencedBoxes below = with(0, 16, 17, 8, 21, 22, 30);
                due(2, () -> below.draw(4));
                due(1, () -> below.ownerOf(0));
                due(1, () -> below.ownerOf(4));
                due(2, () -> below.boxesOf(1));
                FencedBoxes ofTwo = with(0, 4, 16, 1, 5);
                due(1, () -> ofTwo.draw(17));
                due(NO_ELEMENT, () -> ofTwo.ownerOf(1));
            });
        sentence(TERMS, "If none is closed, it is the other player's turn; otherwise it is this player's turn again.",
            () -> {
                FencedBoxes x = new FencedBoxes();
                int[] fences = {0, 1, 16, 17, 4, 18, 5, 2};
                int[] turns = {1, 0, 1, 0, 0, 1, 1, 0};
                for (int n = 0; n < fences.length; n++) {
                    x.draw(fences[n]);
                    due(turns[n], x::turn);
                }
                FencedBoxes two = with(0, 1, 4, 5, 16, 18);
                due(0, two::turn);
                two.draw(17);
                due(0, two::turn);
                FencedBoxes other = with(0, 1, 4, 5, 16, 18, 30);
                other.draw(17);
                due(1, other::turn);
            });
    }

    private static void ending() {
        sentence(TERMS, "The game is over when all fences are drawn; the player with more boxes has won then.", () -> {
            int[] ahead = {1, 2, 8, 9, 17, 28};
            int[] first = {4, 12, 7, 6, 5, 0};
            for (int n = 0; n < ahead.length; n++) {
                FencedBoxes x = strides(new FencedBoxes(), ahead[n], 30);
                due(false, x::isOver);
                due(0, () -> x.won(0) + x.won(1));
                x.draw(ahead[n] * 30 % 31);
                due(true, x::isOver);
                due(first[n], () -> x.boxesOf(0));
                due(12 - first[n], () -> x.boxesOf(1));
                due(first[n] > 6 ? 1 : 0, () -> x.won(0));
                due(first[n] < 6 ? 1 : 0, () -> x.won(1));
            }
        });
        sentence(TERMS, "A fence is not drawn for the first of these reasons that is so: 1 the game is over; "
            + "2 it is drawn.", () -> {
                FencedBoxes x = ascending(30);
                due(0, () -> x.whyNot(30));
                due(2, () -> x.whyNot(29));
                due(2, () -> x.whyNot(0));
                due(NO_STATE, () -> x.draw(29));
                x.draw(30);
                for (int fence = 0; fence < 31; fence++) {
                    int asked = fence;
                    due(1, () -> x.whyNot(asked));
                    due(NO_STATE, () -> x.draw(asked));
                }
            });
    }

    private static void beginning() {
        sentence("1 A new object", "Begins the first game, without a snapshot.", () -> {
            FencedBoxes x = new FencedBoxes();
            due(0, x::drawn);
            due(12, () -> x.boxesWith(0));
            due(0, x::turn);
            due(false, x::isOver);
            due(0, () -> x.boxesOf(0) + x.boxesOf(1));
            due(0, () -> x.won(0) + x.won(1) + x.evenGames() + x.doubleDeals());
            due(0, x::states);
            due(NO_STATE, x::goBack);
            due(NO_STATE, x::undo);
            due(NO_ELEMENT, x::faultPosition);
            due(0, x::clearText);
            with(7).keep();
            due(0, () -> new FencedBoxes().drawn());
            due(NO_STATE, () -> new FencedBoxes().goBack());
        });
        String draw = "2 draw";
        sentence(draw, FENCE_RANGE, () -> {
            for (int fence = 0; fence < 31; fence++) {
                FencedBoxes x = new FencedBoxes();
                int drawn = fence;
                due(0, () -> x.draw(drawn));
                due(true, () -> x.isDrawn(drawn));
            }
        });
        sentence(draw, "Returns how many boxes are closed by it.", () -> {
            due(0, () -> with(0, 16).draw(17));
            due(1, () -> with(0, 16, 17).draw(4));
            due(1, () -> with(15, 11, 29).draw(30));
            due(2, () -> with(0, 1, 4, 5, 16, 18).draw(17));
            due(2, () -> with(10, 14, 28, 11, 15, 30).draw(29));
        });
        sentence(draw, NO_FENCE, () -> {
            for (int fence : WRONG_FENCES) {
                due(NO_ARGUMENT, () -> with(0).draw(fence));
            }
        });
        sentence(draw, "Throws `IllegalStateException` for the reasons of whyNot()", () -> {
            due(NO_STATE, () -> with(0).draw(0));
            due(NO_STATE, () -> with(30).draw(30));
            due(NO_STATE, () -> over(1).draw(0));
            due(NO_STATE, () -> over(1).draw(30));
        });
    }

    private static void beginningAgain() {
        String newGame = "3 newGame";
        sentence(newGame, "Begins a new game; one that is not over counts for none.", () -> {
            FencedBoxes x = strides(new FencedBoxes(), 2, 30);
            due(10, () -> x.boxesOf(0));
            x.newGame();
            due(0, () -> x.won(0) + x.won(1) + x.evenGames());
            due(0, x::drawn);
            due(12, () -> x.boxesWith(0));
            due(0, () -> x.boxesOf(0) + x.boxesOf(1));
            due(NO_ELEMENT, () -> x.ownerOf(0));
            FencedBoxes over = over(2);
            due(1, () -> over.won(0));
            over.newGame();
            due(1, () -> over.won(0));
            due(0, () -> over.won(1) + over.evenGames());
            due(false, over::isOver);
            due(0, () -> over.draw(0));
        });
        sentence(newGame, "Returns how many fences were drawn.", () -> {
            due(0, () -> new FencedBoxes().newGame());
            due(1, () -> with(30).newGame());
            due(30, () -> ascending(30).newGame());
            FencedBoxes x = over(9);
            due(31, x::newGame);
            due(0, x::newGame);
        });
    }

    private static void askingFences() {
        String isDrawn = "4 isDrawn";
        sentence(isDrawn, "Tells whether a fence is drawn.", () -> {
            for (int fence = 0; fence < 31; fence++) {
                FencedBoxes x = with(fence);
                for (int asked = Math.max(0, fence - 1); asked <= Math.min(30, fence + 1); asked++) {
                    int other = asked;
                    due(other == fence, () -> x.isDrawn(other));
                }
                x.newGame();
                int again = fence;
                due(false, () -> x.isDrawn(again));
            }
            due(true, () -> over(1).isDrawn(0));
        });
        sentence(isDrawn, FENCE_RANGE, () -> {
            due(false, () -> new FencedBoxes().isDrawn(0));
            due(false, () -> new FencedBoxes().isDrawn(30));
        });
        sentence(isDrawn, NO_FENCE, () -> {
            for (int fence : WRONG_FENCES) {
                due(NO_ARGUMENT, () -> with(0).isDrawn(fence));
            }
        });
        sentence("5 drawn", "Returns how many fences are drawn.", () -> {
            due(0, () -> new FencedBoxes().drawn());
            due(1, () -> with(0).drawn());
            due(1, () -> with(30).drawn());
            FencedBoxes x = over(8);
            due(31, x::drawn);
            due(NO_STATE, () -> x.draw(3));
            due(31, x::drawn);
            x.newGame();
            due(0, x::drawn);
        });
        String fencesOf = "6 fencesOf";
        sentence(fencesOf, "Returns how many fences a box has.", () -> {
            int[][] sides = {{0, 4, 16, 17}, {30, 29, 15, 11}};
            int[] boxes = {0, 11};
            for (int n = 0; n < 2; n++) {
                FencedBoxes x = new FencedBoxes();
                int box = boxes[n];
                due(0, () -> x.fencesOf(box));
                for (int count = 1; count <= 4; count++) {
                    x.draw(sides[n][count - 1]);
                    due(count, () -> x.fencesOf(box));
                }
            }
        });
        sentence(fencesOf, BOX_RANGE, () -> {
            due(4, () -> over(1).fencesOf(0));
            due(4, () -> over(1).fencesOf(11));
        });
        sentence(fencesOf, NO_BOX, () -> {
            for (int box : WRONG_BOXES) {
                due(NO_ARGUMENT, () -> with(0).fencesOf(box));
            }
        });
    }

    private static void askingBoxes() {
        String ownerOf = "7 ownerOf";
        sentence(ownerOf, "Returns which player closed a box.", () -> {
            FencedBoxes two = with(0, 1, 4, 5, 16, 18, 17);
            due(0, () -> two.ownerOf(0));
            due(0, () -> two.ownerOf(1));
            FencedBoxes all = over(28);
            FencedBoxes none = over(2);
            for (int box = 0; box < 12; box++) {
                int asked = box;
                due(1, () -> all.ownerOf(asked));
                due(0, () -> none.ownerOf(asked));
            }
        });
        sentence(ownerOf, BOX_RANGE, () -> {
            FencedBoxes x = with(0, 16, 17, 4, 30, 15, 29, 11);
            due(1, () -> x.ownerOf(0));
            due(0, () -> x.ownerOf(11));
        });
        sentence(ownerOf, NO_BOX, () -> {
            for (int box : WRONG_BOXES) {
                due(NO_ARGUMENT, () -> over(2).ownerOf(box));
                due(NO_ARGUMENT, () -> new FencedBoxes().ownerOf(box));
            }
        });
        sentence(ownerOf, "Throws `NoSuchElementException` if it is open", () -> {
            due(NO_ELEMENT, () -> new FencedBoxes().ownerOf(0));
            due(NO_ELEMENT, () -> new FencedBoxes().ownerOf(11));
            FencedBoxes x = with(0, 16, 17);
            due(NO_ELEMENT, () -> x.ownerOf(0));
            x.draw(4);
            due(1, () -> x.ownerOf(0));
            x.newGame();
            due(NO_ELEMENT, () -> x.ownerOf(0));
        });
        String boxesOf = "8 boxesOf";
        sentence(boxesOf, "Returns how many boxes a player has closed in this game.", () -> {
            FencedBoxes x = new FencedBoxes();
            due(0, () -> x.boxesOf(0) + x.boxesOf(1));
            strides(x, 28, 31);
            due(0, () -> x.boxesOf(0));
            due(12, () -> x.boxesOf(1));
            x.newGame();
            due(0, () -> x.boxesOf(1));
            strides(x, 8, 31);
            due(7, () -> x.boxesOf(0));
            due(5, () -> x.boxesOf(1));
        });
        sentence(boxesOf, "`player`: 0 or 1", () -> {
            due(12, () -> over(2).boxesOf(0));
            due(12, () -> over(28).boxesOf(1));
        });
        sentence(boxesOf, "Throws `IllegalArgumentException` if player is out of range", () -> {
            for (int player : WRONG_PLAYERS) {
                due(NO_ARGUMENT, () -> over(1).boxesOf(player));
            }
        });
        String boxesWith = "9 boxesWith";
        sentence(boxesWith, "Returns how many boxes have a number of fences.", () -> {
            int[] fences = {0, 1, 4, 16, 18, 5, 17};
            int[][] counts = {{11, 1, 0, 0, 0}, {10, 2, 0, 0, 0}, {9, 2, 1, 0, 0}, {9, 2, 0, 1, 0},
                {8, 2, 1, 1, 0}, {7, 3, 0, 2, 0}, {7, 3, 0, 0, 2}};
            FencedBoxes x = new FencedBoxes();
            for (int n = 0; n < fences.length; n++) {
                x.draw(fences[n]);
                for (int count = 0; count <= 4; count++) {
                    int asked = count;
                    due(counts[n][count], () -> x.boxesWith(asked));
                }
            }
        });
        sentence(boxesWith, "`fences`: 0 to 4", () -> {
            due(12, () -> new FencedBoxes().boxesWith(0));
            due(0, () -> new FencedBoxes().boxesWith(4));
            due(0, () -> over(1).boxesWith(0));
            due(12, () -> over(1).boxesWith(4));
        });
        sentence(boxesWith, "Throws `IllegalArgumentException` if fences is out of range", () -> {
            for (int fences : new int[] {-1, 5, Integer.MIN_VALUE, Integer.MAX_VALUE}) {
                due(NO_ARGUMENT, () -> with(0).boxesWith(fences));
            }
        });
    }

    private static void askingTheGame() {
        sentence("10 turn", "Returns whose turn it is, or would be.", () -> {
            due(0, () -> new FencedBoxes().turn());
            due(1, () -> with(0).turn());
            due(0, () -> over(2).turn());
            due(1, () -> over(1).turn());
            due(1, () -> over(8).turn());
            due(0, () -> over(17).turn());
        });
        String whyNot = "11 whyNot";
        sentence(whyNot, FENCE_RANGE, () -> {
            due(2, () -> with(0).whyNot(0));
            due(2, () -> with(30).whyNot(30));
            due(0, () -> new FencedBoxes().whyNot(0));
            due(0, () -> new FencedBoxes().whyNot(30));
        });
        sentence(whyNot, "Returns the reason, 1 or 2; 0 if it is drawn.", () -> {
            FencedBoxes x = ascending(30);
            for (int fence = 0; fence < 31; fence++) {
                int asked = fence;
                due(fence == 30 ? 0 : 2, () -> x.whyNot(asked));
            }
            x.draw(30);
            due(1, () -> x.whyNot(30));
            x.newGame();
            due(0, () -> x.whyNot(30));
        });
        sentence(whyNot, NO_FENCE, () -> {
            for (int fence : WRONG_FENCES) {
                due(NO_ARGUMENT, () -> with(0).whyNot(fence));
                due(NO_ARGUMENT, () -> over(1).whyNot(fence));
            }
        });
        sentence("12 isOver", "Tells whether the game is over.", () -> {
            FencedBoxes x = new FencedBoxes();
            for (int fence = 30; fence >= 0; fence--) {
                due(false, x::isOver);
                x.draw(fence);
            }
            due(true, x::isOver);
            x.newGame();
            due(false, x::isOver);
            for (int open = 0; open < 31; open++) {
                int last = open;
                due(false, () -> allBut(last).isOver());
            }
        });
    }

    public static void main(String[] args) {
        rowsAndColumns();
        drawing();
        ending();
        beginning();
        beginningAgain();
        askingFences();
        askingBoxes();
        askingTheGame();
        end();
    }
}
