/** The sentences of the promises 29 to 34, and of how long an object is used, each by itself. */
public final class AccountsSentencesTest extends Sentences {
    private static final String WRONG_PLAYER = "Throws `IllegalArgumentException` if player is out of range";

    private static void games() {
        String won = "29 won";
        sentence(won, "Returns how many games a player has won.", () -> {
            int[] ahead = {8, 17, 9, 2, 28, 12, 16};
            int[] first = {1, 1, 1, 2, 2, 2, 2};
            int[] second = {0, 1, 1, 1, 2, 3, 3};
            FencedBoxes x = new FencedBoxes();
            due(0, () -> x.won(0));
            due(0, () -> x.won(1));
            for (int n = 0; n < ahead.length; n++) {
                strides(x, ahead[n], 31);
                due(first[n], () -> x.won(0));
                due(second[n], () -> x.won(1));
                x.newGame();
            }
        });
        sentence(won, "Returns how many so far.", () -> {
            FencedBoxes x = strides(new FencedBoxes(), 2, 30);
            due(0, () -> x.won(0));
            x.draw(29);
            due(1, () -> x.won(0));
            x.newGame();
            due(1, () -> x.won(0));
            x.undo();
            due(1, () -> x.won(0));
            x.undo();
            due(0, () -> x.won(0));
        });
        sentence(won, "`player`: 0 or 1", () -> {
            due(1, () -> over(2).won(0));
            due(1, () -> over(28).won(1));
        });
        sentence(won, WRONG_PLAYER, () -> {
            for (int player : new int[] {-1, 2, Integer.MIN_VALUE, Integer.MAX_VALUE}) {
                due(NO_ARGUMENT, () -> over(2).won(player));
            }
        });
        sentence("30 evenGames", "Returns how many so far.", () -> {
            FencedBoxes x = strides(new FencedBoxes(), 16, 30);
            due(0, x::evenGames);
            x.draw(15);
            due(1, x::evenGames);
            x.newGame();
            due(1, x::evenGames);
            x.undo();
            due(1, x::evenGames);
            x.undo();
            due(0, x::evenGames);
        });
        sentence("30 evenGames", "Returns how many games were drawn: both had six boxes.", () -> {
            due(0, () -> new FencedBoxes().evenGames());
            int[] ahead = {8, 9, 12, 16, 2, 28};
            int[] even = {0, 1, 1, 2, 2, 2};
            FencedBoxes x = new FencedBoxes();
            for (int n = 0; n < ahead.length; n++) {
                strides(x, ahead[n], 30);
                due(n == 0 ? 0 : even[n - 1], x::evenGames);
                x.draw(ahead[n] * 30 % 31);
                due(even[n], x::evenGames);
                x.newGame();
            }
        });
    }

    private static void deals() {
        sentence("31 doubleDeals", "Returns how many fences closed two boxes at once.", () -> {
            due(0, () -> new FencedBoxes().doubleDeals());
            due(0, () -> over(1).doubleDeals());
            due(5, () -> over(2).doubleDeals());
            due(0, () -> with(0, 16, 17, 4).doubleDeals());
            FencedBoxes x = with(0, 1, 4, 5, 16, 18);
            due(0, x::doubleDeals);
            x.draw(17);
            due(1, x::doubleDeals);
            FencedBoxes below = with(0, 16, 17, 8, 21, 22, 4);
            due(1, below::doubleDeals);
        });
        sentence("31 doubleDeals", "Returns how many so far, in all games.", () -> {
            FencedBoxes x = over(2);
            x.newGame();
            due(5, x::doubleDeals);
            drawAllBut(x, 17, 19, 22, 24, 27, 29);
            for (int n = 6; n <= 11; n++) {
                x.draw(x.takingFence());
                int so = n;
                due(so, x::doubleDeals);
            }
        });
        sentence("32 share", "Returns the share of boxes that are closed: how many they are, as a float, divided by "
            + "12, as a float.", () -> {
                FencedBoxes x = new FencedBoxes();
                due(0f, x::share);
                int closed = 0;
                for (int fence = 0; fence < 31; fence++) {
                    closed += x.draw(fence);
                    float want = (float) closed / (float) 12;
                    due(want, x::share);
                }
                due(1f, x::share);
                x.newGame();
                due(0f, x::share);
                due(0.083333336f, () -> with(0, 16, 17, 4).share());
                due(0.16666667f, () -> with(0, 16, 17, 4, 30, 15, 29, 11).share());
            });
    }

    private static void keeping() {
        String keep = "33 keep";
        sentence(keep, "Takes a snapshot, in place of the one before", () -> {
            FencedBoxes x = with(0);
            x.keep();
            x.draw(1);
            x.keep();
            x.draw(2);
            due(2, x::goBack);
            due(true, () -> x.isDrawn(1));
            x.undo();
            due(2, x::goBack);
        });
        sentence(keep, "of everything but the text, the history and itself", () -> {
            FencedBoxes x = over(2);
            x.newGame();
            for (int fence : new int[] {0, 1, 4, 5, 16, 18, 17, 30, 15, 29, 11}) {
                x.draw(fence);
            }
            due(2, () -> x.boxesOf(0));
            due(1, () -> x.boxesOf(1));
            due(1, x::turn);
            String kept = shown(x);
            x.keep();
            same(kept, shown(x));
            for (int ahead : new int[] {2, 28, 9}) {
                x.newGame();
                strides(x, ahead, 31);
            }
            x.newGame();
            x.goBack();
            same(kept, shown(x));
        });
        sentence(keep, "but the text", () -> {
            FencedBoxes x = typed(new FencedBoxes(), "f0;");
            x.keep();
            typed(x, "f0;");
            x.goBack();
            due(3, x::faultPosition);
            due(6, x::clearText);
            x.goBack();
            due(0, x::clearText);
        });
        sentence(keep, "the history and itself", () -> {
            FencedBoxes x = with(0);
            x.keep();
            x.draw(1);
            x.draw(2);
            due(1, x::goBack);
            due(4, x::states);
            due(3, x::undo);
            due(3, x::drawn);
            due(2, x::undo);
            due(2, x::drawn);
            due(1, x::goBack);
        });
        sentence(keep, "Returns how many fences are drawn.", () -> {
            due(0, () -> new FencedBoxes().keep());
            due(1, () -> with(30).keep());
            due(31, () -> over(1).keep());
        });
    }

    private static void goingBack() {
        String goBack = "34 goBack";
        sentence(goBack, "Goes back to the snapshot, which stays.", () -> {
            FencedBoxes x = with(0, 16, 17);
            String kept = shown(x);
            x.keep();
            for (int times = 0; times < 3; times++) {
                x.draw(4);
                x.draw(20 + times);
                due(3, x::goBack);
                same(kept, shown(x));
            }
            due(3, x::goBack);
            same(kept, shown(x));
            FencedBoxes over = over(2);
            over.keep();
            over.newGame();
            due(31, over::goBack);
            due(true, over::isOver);
            due(1, () -> over.won(0));
            FencedBoxes last = strides(new FencedBoxes(), 2, 30);
            last.keep();
            last.draw(29);
            due(1, () -> last.won(0));
            last.goBack();
            due(0, () -> last.won(0));
            last.draw(29);
            due(1, () -> last.won(0));
        });
        sentence(goBack, "Returns how many fences are drawn then.", () -> {
            FencedBoxes x = new FencedBoxes();
            x.keep();
            x.draw(0);
            due(0, x::goBack);
            FencedBoxes over = over(1);
            over.keep();
            due(31, over::goBack);
            over.newGame();
            due(31, over::goBack);
        });
        sentence(goBack, "Throws `IllegalStateException` if there is none", () -> {
            FencedBoxes x = new FencedBoxes();
            due(NO_STATE, x::goBack);
            x.draw(0);
            due(NO_STATE, x::goBack);
            x.undo();
            due(NO_STATE, x::goBack);
            x.keep();
            due(0, x::goBack);
        });
    }

    private static void longUse() {
        sentence("What it is", "An object is used for at most 512 calls after it has been made", () -> {
            FencedBoxes x = over(2);
            for (int games = 1; games < 16; games++) {
                x.newGame();
                strides(x, 2, 31);
            }
            due(16, () -> x.won(0));
            FencedBoxes text = new FencedBoxes();
            for (int times = 0; times < 255; times++) {
                text.newGame();
                text.draw(times % 31);
            }
            due(3, text::undo);
            due(0, text::drawn);
        });
    }

    public static void main(String[] args) {
        games();
        deals();
        keeping();
        goingBack();
        longUse();
        end();
    }
}
