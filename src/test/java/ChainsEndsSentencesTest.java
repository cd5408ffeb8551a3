/** The sentences of 'Chains' and 'Ends' in the terms, and of the promises 21 to 28, each by itself. */
public final class ChainsEndsSentencesTest extends Sentences {
    private static final String CHAINS = "Chains";
    private static final String ENDS = "Ends";
    private static final String TOO_MANY = "Throws `NoSuchElementException` if more than 8 fences are not drawn";

    /** The boxes 0, 1, 4 and 5. */
    private static FencedBoxes ringOfFour() {
        return with(0, 1, 16, 18, 8, 9, 21, 23);
    }

    /** The boxes of the upper two rows; just 8 fences are not drawn. */
    private static FencedBoxes ringOfEight() {
        return allBut(4, 7, 17, 18, 19, 22, 23, 24);
    }

    /** All boxes but 5 and 6, which have three fences. */
    private static FencedBoxes ringOfTen() {
        return with(0, 1, 2, 3, 12, 13, 14, 15, 16, 21, 26, 20, 25, 30, 5, 6, 9, 10, 22, 24);
    }

    private static FencedBoxes ringOfTwelve() {
        return allBut(17, 18, 19, 7, 11, 29, 10, 23, 9, 27, 8, 4);
    }

    private static FencedBoxes chainOfTwelve() {
        return allBut(0, 17, 18, 19, 7, 24, 23, 22, 8, 27, 28, 29, 30);
    }

    /** The boxes 0, 1, 5 and 4, with a fence between 4 and 0. */
    private static FencedBoxes nearlyARing() {
        return with(0, 4, 1, 18, 9, 23, 8);
    }

    private static FencedBoxes threeAndOne() {
        return allBut(0, 17, 18, 2, 15, 30);
    }

    private static void termsOfChains() {
        sentence(CHAINS, "The boxes with just two fences that are next to one another, with the fence between them "
            + "not drawn, are one chain", () -> {
                chain(with(0, 1, 4, 5), 0, 2, 1);
                chain(with(16, 17, 21, 22), 4, 2, 1);
                chain(with(0, 17, 1), 0, 1, 2);
                chain(with(0, 4, 8), 4, 1, 2);
                chain(with(0, 4, 1), 0, 1, 1);
                chain(with(0, 4, 1, 5, 18, 2), 0, 1, 2);
                chain(with(0, 16, 21, 22, 8), 0, 1, 1);
                chain(with(0, 4, 1, 5, 17), 0, 0, 0);
            });
        sentence(CHAINS, "next to one another", () -> {
            chain(with(3, 19, 8, 22), 3, 1, 2);
            chain(with(3, 19, 8, 22), 4, 1, 2);
            chain(with(24, 11, 12, 27), 7, 1, 2);
            chain(with(0, 16, 9, 23), 0, 1, 2);
            chain(with(0, 16, 9, 23), 5, 1, 2);
        });
        sentence(CHAINS, "a chain is as great as can be", () -> {
            FencedBoxes x = chainOfTwelve();
            for (int box = 0; box < 12; box++) {
                chain(x, box, 12, 1);
            }
            chain(with(0, 16, 1, 18, 23, 9), 5, 3, 1);
            chain(ascending(16), 4, 4, 3);
            chain(ascending(16), 7, 4, 3);
        });
        sentence(CHAINS, "a box without such another one is a chain of one", () -> {
            chain(with(0, 16), 0, 1, 1);
            chain(with(15, 30), 11, 1, 1);
            chain(with(5, 22), 5, 1, 1);
            chain(threeAndOne(), 11, 1, 2);
        });
    }

    /** With 0 for the size, the box is in no chain. */
    private static void chain(FencedBoxes x, int box, int size, int chains) {
        due(size == 0 ? NO_ELEMENT : size, () -> x.chainOf(box));
        due(chains, x::chains);
    }

    private static void termsOfRings() {
        sentence(CHAINS, "It is a ring, if each of its boxes has two boxes of it beside it in that way, and it has "
            + "four boxes or more.", () -> {
                for (int box = 0; box < 7; box++) {
                    if (box % 4 < 3) {
                        int left = 16 + 5 * (box / 4) + box % 4;
                        ring(with(box, box + 1, box + 8, box + 9, left, left + 5, left + 2, left + 7), 1, 4, box);
                    }
                }
                ring(with(0, 1, 2, 8, 9, 10, 16, 21, 19, 24, 5), 1, 6, 0);
                ring(ringOfEight(), 1, 8, 0);
                ring(ringOfTen(), 1, 10, 0);
                ring(ringOfTwelve(), 1, 12, 0);
                ring(nearlyARing(), 0, 4, 0);
                ring(with(0, 4), 0, 1, 0);
                ring(with(0, 1, 4, 5), 0, 2, 0);
                ring(with(0, 1, 2, 4, 5, 6), 0, 3, 0);
                ring(with(0, 16, 1, 18, 23, 9), 0, 3, 0);
                ring(ascending(16), 0, 4, 0);
                ring(chainOfTwelve(), 0, 12, 0);
                FencedBoxes broken = ringOfFour();
                broken.draw(17);
                ring(broken, 0, 2, 4);
            });
        sentence(CHAINS, "A chain that is no ring is long, if it has three boxes or more.", () -> {
            due(0, () -> with(0, 16).longChains());
            due(0, () -> with(0, 1, 4, 5).longChains());
            due(1, () -> with(0, 1, 2, 4, 5, 6).longChains());
            due(1, () -> with(0, 16, 1, 18, 23, 9).longChains());
            due(1, () -> nearlyARing().longChains());
            due(1, () -> chainOfTwelve().longChains());
            due(0, () -> ringOfFour().longChains());
            due(0, () -> ringOfTwelve().longChains());
        });
        sentence(CHAINS, "By the rule of chains the player 0 should have an even number of long chains at the end: "
            + "the rule holds for the player 0 if there is an even number of them now, otherwise for the player 1.",
            () -> {
                due(0, () -> new FencedBoxes().ruleHoldsFor());
                due(1, () -> with(0, 1, 2, 4, 5, 6).ruleHoldsFor());
                due(0, () -> ascending(12).ruleHoldsFor());
                due(1, () -> ascending(16).ruleHoldsFor());
            });
    }

    private static void ring(FencedBoxes x, int rings, int size, int box) {
        due(rings, x::rings);
        due(size, () -> x.chainOf(box));
    }

    private static void countingChains() {
        sentence("21 chains", "Returns how many chains there are, rings among them.", () -> {
            due(0, () -> new FencedBoxes().chains());
            due(1, () -> ringOfFour().chains());
            due(2, () -> twoRings().chains());
            due(3, () -> ascending(16).chains());
            due(2, () -> threeAndOne().chains());
            due(2, () -> allBut(4, 17, 5, 22, 15, 30).chains());
            due(0, () -> over(1).chains());
        });
        String chainOf = "22 chainOf";
        sentence(chainOf, "`box`: 0 to 11", () -> {
            due(1, () -> with(0, 16).chainOf(0));
            due(1, () -> with(15, 30).chainOf(11));
        });
        sentence(chainOf, "Returns how many boxes the chain of a box has.", () -> {
            FencedBoxes x = threeAndOne();
            due(3, () -> x.chainOf(0));
            due(3, () -> x.chainOf(1));
            due(3, () -> x.chainOf(2));
            due(1, () -> x.chainOf(11));
            due(12, () -> ringOfTwelve().chainOf(5));
        });
        sentence(chainOf, "Throws `IllegalArgumentException` if there is no such box", () -> {
            for (int box : new int[] {-1, 12, 32, -12, Integer.MIN_VALUE, Integer.MAX_VALUE}) {
                due(NO_ARGUMENT, () -> ringOfFour().chainOf(box));
                due(NO_ARGUMENT, () -> new FencedBoxes().chainOf(box));
            }
        });
        sentence(chainOf, "Throws `NoSuchElementException` if it is in none", () -> {
            Object[] due = {NO_ELEMENT, NO_ELEMENT, 1, NO_ELEMENT, NO_ELEMENT};
            int[] fences = {0, 16, 17, 4};
            FencedBoxes x = new FencedBoxes();
            due(due[0], () -> x.chainOf(0));
            for (int n = 0; n < 4; n++) {
                x.draw(fences[n]);
                due(due[n + 1], () -> x.chainOf(0));
            }
        });
        sentence("23 rings", "Returns how many rings there are.", () -> {
            due(0, () -> new FencedBoxes().rings());
            due(1, () -> ringOfFour().rings());
            due(2, () -> twoRings().rings());
            due(1, () -> allBut(4, 17, 5, 22, 15, 30).rings());
            due(0, () -> over(1).rings());
        });
        sentence("24 longChains", "Returns how many long chains there are.", () -> {
            due(0, () -> new FencedBoxes().longChains());
            due(1, () -> threeAndOne().longChains());
            due(2, () -> ascending(12).longChains());
            due(3, () -> ascending(16).longChains());
            due(0, () -> over(1).longChains());
        });
        sentence("25 ruleHoldsFor", "Returns the player for whom the rule of chains holds.", () -> {
            due(0, () -> ringOfFour().ruleHoldsFor());
            due(0, () -> with(0, 1, 4, 5).ruleHoldsFor());
            due(1, () -> threeAndOne().ruleHoldsFor());
            FencedBoxes x = ascending(14);
            due(0, x::ruleHoldsFor);
            x.draw(14);
            due(1, x::ruleHoldsFor);
            due(0, () -> over(1).ruleHoldsFor());
        });
    }

    private static FencedBoxes twoRings() {
        return with(0, 1, 16, 18, 8, 9, 21, 23, 2, 3, 20, 10, 11, 25);
    }

    private static void termsOfEnds() {
        sentence(ENDS, "If 8 fences or fewer are not drawn, the end can be worked out", () -> {
            for (int ahead = 1; ahead < 31; ahead++) {
                FencedBoxes x = strides(new FencedBoxes(), ahead, 22);
                due(NO_ELEMENT, x::endDifference);
                due(NO_ELEMENT, x::endByTrying);
                due(NO_ELEMENT, x::bestFence);
                x.draw(22 * ahead % 31);
                due(true, () -> x.endDifference() == x.endByTrying());
                due(false, () -> x.isDrawn(x.bestFence()));
            }
            end(ringOfEight(), -8, 4);
            due(23, () -> ringOfEight().drawn());
        });
        sentence(ENDS, "by how many more boxes of those that are still open the player whose turn it is gets than the "
            + "other one", () -> {
                FencedBoxes second = allBut(30);
                FencedBoxes first = with(18);
                drawAllBut(first, 30);
                due(1, second::turn);
                due(7, () -> second.boxesOf(1));
                due(0, first::turn);
                due(7, () -> first.boxesOf(0));
                end(first, 1, 30);
                end(second, 1, 30);
                FencedBoxes ahead = allBut(1, 16, 17);
                FencedBoxes behind = with(20);
                drawAllBut(behind, 1, 16, 17);
                due(6, () -> ahead.boxesOf(0));
                due(0, ahead::turn);
                due(6, () -> behind.boxesOf(1));
                due(1, behind::turn);
                end(ahead, -2, 1);
                end(behind, -2, 1);
            });
        sentence(ENDS, "if both draw such that this is as great as can be for the one who draws", () -> {
            end(allBut(17), 2, 17);
            end(allBut(16, 17, 18, 19, 20), -4, 16);
            end(allBut(0, 16, 15, 30), 0, 0);
            end(allBut(1, 17, 26, 27, 28, 29, 30), 2, 1);
            end(allBut(3, 19, 4, 5, 17, 22), 2, 3);
            end(allBut(17, 15, 30), 1, 17);
            end(threeAndOne(), 2, 15);
        });
    }

    private static void end(FencedBoxes x, int difference, int best) {
        due(difference, x::endDifference);
        due(difference, x::endByTrying);
        due(best, x::bestFence);
    }

    private static void workingOut() {
        String endDifference = "26 endDifference";
        sentence(endDifference, "Works the end out, with remembering for each set of drawn fences what was found.",
            () -> {
                FencedBoxes x = ringOfEight();
                due(-8, x::endDifference);
                due(-8, x::endDifference);
                x.newGame();
                drawAllBut(x, 1, 17, 26, 27, 28, 29, 30);
                due(2, x::endDifference);
                x.newGame();
                drawAllBut(x, 15, 30);
                due(-1, x::endDifference);
                x.draw(15);
                due(1, x::endDifference);
                x.undo();
                due(-1, x::endDifference);
            });
        sentence(endDifference, "Returns the difference, -12 to 12.", () -> {
            due(12, () -> pairs().endDifference());
            due(-8, () -> ringOfEight().endDifference());
            due(0, () -> allBut(0, 16, 15, 30).endDifference());
            due(0, () -> over(1).endDifference());
            due(1, () -> allBut(0).endDifference());
            due(1, () -> allBut(30).endDifference());
            FencedBoxes x = pairs();
            due(12, x::endDifference);
            due(25, x::drawn);
            due(4, x::states);
            due(17, x::takingFence);
            x.draw(17);
            due(10, x::endDifference);
        });
        sentence(endDifference, TOO_MANY, () -> {
            due(NO_ELEMENT, () -> new FencedBoxes().endDifference());
            FencedBoxes x = ascending(22);
            due(NO_ELEMENT, x::endDifference);
            x.draw(22);
            due(3, x::endDifference);
            x.undo();
            due(NO_ELEMENT, x::endDifference);
        });
        String byTrying = "27 endByTrying";
        sentence(byTrying, "Returns the same, worked out without remembering.", () -> {
            due(12, () -> pairs().endByTrying());
            due(-8, () -> ringOfEight().endByTrying());
            due(0, () -> allBut(0, 16, 15, 30).endByTrying());
            due(0, () -> over(1).endByTrying());
            due(1, () -> allBut(30).endByTrying());
            for (int ahead = 1; ahead < 31; ahead++) {
                FencedBoxes x = strides(new FencedBoxes(), ahead, 23);
                for (int n = 23; n < 31; n++) {
                    same(x.endDifference(), x.endByTrying());
                    x.draw(ahead * n % 31);
                }
                same(0, x.endByTrying());
            }
        });
        sentence(byTrying, TOO_MANY, () -> {
            due(NO_ELEMENT, () -> new FencedBoxes().endByTrying());
            FencedBoxes x = ascending(22);
            due(NO_ELEMENT, x::endByTrying);
            x.draw(22);
            due(3, x::endByTrying);
            x.undo();
            due(NO_ELEMENT, x::endByTrying);
        });
        String best = "28 bestFence";
        sentence(best, "Returns the lowest fence by which the player whose turn it is reaches this difference.", () -> {
            due(0, () -> allBut(0).bestFence());
            due(30, () -> allBut(30).bestFence());
            due(17, () -> pairs().bestFence());
            due(4, () -> ringOfEight().bestFence());
            due(15, () -> threeAndOne().bestFence());
            due(1, () -> allBut(1, 17, 26, 27, 28, 29, 30).bestFence());
            due(17, () -> allBut(17, 15, 30).bestFence());
            due(23, () -> ascending(23).bestFence());
        });
        sentence(best, TOO_MANY + ", or all are drawn", () -> {
            due(NO_ELEMENT, () -> new FencedBoxes().bestFence());
            FencedBoxes x = ascending(22);
            due(NO_ELEMENT, x::bestFence);
            x.draw(22);
            due(23, x::bestFence);
            drawAllBut(x, 30);
            due(30, x::bestFence);
            x.draw(30);
            due(NO_ELEMENT, x::bestFence);
        });
    }

    public static void main(String[] args) {
        termsOfChains();
        termsOfRings();
        countingChains();
        termsOfEnds();
        workingOut();
        end();
    }
}
