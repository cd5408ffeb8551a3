/** The sentences of 'Texts' in the terms, and of the promises 37 to 42, each by itself. */
public final class TextsSentencesTest extends Sentences {
    private static final String TERMS = "Texts";
    private static final String NO_FAULT = "Throws `NoSuchElementException` if the text has no fault";

    private static void fault(String text, int position, int reason, int cause) {
        fault(typed(new FencedBoxes(), text), position, reason, cause);
    }

    private static void fault(FencedBoxes x, int position, int reason, int cause) {
        due(position, x::faultPosition);
        due(reason, x::faultReason);
        due(cause, x::faultCause);
        due(NO_STATE, x::play);
    }

    private static void fine(String text, int orders) {
        fine(typed(new FencedBoxes(), text), orders);
    }

    private static void fine(FencedBoxes x, int orders) {
        due(NO_ELEMENT, x::faultPosition);
        due(NO_ELEMENT, x::faultReason);
        due(NO_ELEMENT, x::faultCause);
        due(orders, x::play);
    }

    private static void form() {
        sentence(TERMS, "There is a text of at most 60 characters", () -> {
            fine(LONG + "n;", 18);
            fine("n;n;n;n;n;n;n;n;n;n;n;n;n;n;n;n;n;n;n;n;n;n;n;n;n;n;n;n;n;n;", 30);
            FencedBoxes x = typed(new FencedBoxes(), LONG + "f");
            due(58, x::faultPosition);
            due(60, () -> x.type('1'));
            due(58, x::faultPosition);
            due(2, x::faultCause);
            due(NO_STATE, () -> x.type(';'));
            due(60, x::clearText);
        });
        sentence(TERMS, "initially empty", () -> {
            due(0, () -> new FencedBoxes().clearText());
            due(1, () -> new FencedBoxes().type('n'));
            due(0, () -> new FencedBoxes().play());
        });
        sentence(TERMS, "orders, each followed by \";\"", () -> {
            fine("f1;n;f2;", 3);
            fault("f1", 0, 1, 2);
            fault("n", 0, 1, 1);
            fault("f1;n", 3, 1, 1);
            fault("f1;f2", 3, 1, 2);
            fault("f1n;", 0, 1, 2);
            fault("nf1;", 0, 1, 1);
            fault(";", 0, 1, 0);
            fault("n;;", 2, 1, 0);
            fault("f1:", 0, 1, 2);
            fault("n; f1;", 2, 1, 0);
            fault("n ;", 0, 1, 1);
        });
        sentence(TERMS, "\"f\" a fence (drawn) or \"n\" (a new game)", () -> {
            FencedBoxes x = typed(with(0), "f1;");
            fine(x, 1);
            due(true, () -> x.isDrawn(1));
            due(2, x::drawn);
            FencedBoxes again = typed(with(0), "n;");
            fine(again, 1);
            due(0, again::drawn);
            for (String text : new String[] {"F1;", "N;", "d1;", "e1;", "g1;", "m;", "o;", "1;", " n;", "~;"}) {
                fault(text, 0, 1, 0);
            }
        });
        sentence(TERMS, "numbers of 1 to 2 digits, 0 ahead allowed", () -> {
            drawsJust("f0;", 0);
            drawsJust("f9;", 9);
            drawsJust("f10;", 10);
            drawsJust("f29;", 29);
            drawsJust("f30;", 30);
            drawsJust("f00;", 0);
            drawsJust("f01;", 1);
            drawsJust("f09;", 9);
            fault("f;", 0, 1, 1);
            fault("f001;", 0, 1, 3);
            fault("f123;", 0, 1, 3);
            fault("f100;", 0, 1, 3);
            fault("f-1;", 0, 1, 1);
            fault("f+1;", 0, 1, 1);
            fault("f 1;", 0, 1, 1);
            fault("f/;", 0, 1, 1);
            fault("f:;", 0, 1, 1);
            fault("f1/;", 0, 1, 2);
            fault("f1:;", 0, 1, 2);
            fault("n1;", 0, 1, 1);
        });
    }

    private static void drawsJust(String text, int fence) {
        FencedBoxes x = typed(new FencedBoxes(), text);
        fine(x, 1);
        due(1, x::drawn);
        due(true, () -> x.isDrawn(fence));
    }

    private static void faults() {
        sentence(TERMS, "The fault of the text is the position, from 0, of the first character of the first order that "
            + "is not possible", () -> {
                fault("x", 0, 1, 0);
                fault("f1;x", 3, 1, 0);
                fault("f01;x", 4, 1, 0);
                fault("f1;f1;x", 3, 2, 2);
                fault("f1;x;f1;", 3, 1, 0);
                fault("n;f31;f31;x", 2, 2, 1);
                fault(LONG + "f2", 58, 1, 2);
                fault(LONG + "x;", 58, 1, 0);
            });
        sentence(TERMS, "its reason is 1 if it is not of this form, its \";\" included, and otherwise 2", () -> {
            fault("f31", 0, 1, 3);
            fault("f31;", 0, 2, 1);
            fault("f99;", 0, 2, 1);
            fault("f1;f1", 3, 1, 2);
            fault("f1;f1;", 3, 2, 2);
            fault(typed(with(1), "f1"), 0, 1, 2);
            fault(typed(with(1), "f1;"), 0, 2, 2);
            fault(typed(with(1), "f1x;"), 0, 1, 2);
        });
        sentence(TERMS, "when those ahead of it are done", () -> {
            fault("f5;f6;f05;", 6, 2, 2);
            fault(typed(ascending(30), "f30;f30;"), 4, 2, 2);
            fault(typed(ascending(30), "f30;n;f30;f30;"), 10, 2, 2);
            fault(typed(with(4), "f5;f4;"), 3, 2, 2);
            fine("f5;n;f5;", 3);
            fine(typed(with(5), "n;f5;"), 2);
            fine(typed(over(1), "n;f5;"), 2);
            fine(typed(ascending(30), "f30;n;f30;"), 3);
        });
        sentence(TERMS, "its cause is with the reason 1 at which character of the order, from 0, it breaks off", () -> {
            fault("x1;", 0, 1, 0);
            fault("fx;", 0, 1, 1);
            fault("f1x;", 0, 1, 2);
            fault("f12x;", 0, 1, 3);
            fault("f123;", 0, 1, 3);
            fault("nx;", 0, 1, 1);
            fault("f3;f1x;", 3, 1, 2);
        });
        sentence(TERMS, "of one that the text ends too early it is its length", () -> {
            fault("f", 0, 1, 1);
            fault("f1", 0, 1, 2);
            fault("f12", 0, 1, 3);
            fault("f99", 0, 1, 3);
            fault("n", 0, 1, 1);
            fault("n;f", 2, 1, 1);
            fault("f1;n;f12", 5, 1, 3);
        });
        sentence(TERMS, "with the reason 2 which exception the call throws for it: 1 IllegalArgumentException, "
            + "2 IllegalStateException", () -> {
                fault("f31;", 0, 2, 1);
                fault("f99;", 0, 2, 1);
                fault("n;f32;", 2, 2, 1);
                fault("f30;f30;", 4, 2, 2);
                fault(typed(over(1), "f0;"), 0, 2, 2);
                fault(typed(over(1), "f30;"), 0, 2, 2);
                fault(typed(over(1), "f31;"), 0, 2, 1);
            });
        sentence(TERMS, "The text stays, whether it has a fault or not.", () -> {
            FencedBoxes wrong = typed(with(1), "f2;f1;");
            for (int times = 0; times < 2; times++) {
                fault(wrong, 3, 2, 2);
                due(1, wrong::drawn);
            }
            due(6, wrong::clearText);
            FencedBoxes right = typed(new FencedBoxes(), "n;f1;");
            for (int times = 0; times < 3; times++) {
                fine(right, 2);
                due(1, right::drawn);
            }
            due(5, right::clearText);
        });
    }

    private static void typing() {
        String type = "37 type";
        sentence(type, "Appends a character to the text.", () -> {
            FencedBoxes x = typed(new FencedBoxes(), "f12;");
            fine(x, 1);
            due(true, () -> x.isDrawn(12));
            typed(x, "f1;");
            due(0, x::faultPosition);
            x.newGame();
            fine(x, 2);
            due(true, () -> x.isDrawn(1));
        });
        sentence(type, "`character`: 32 to 126", () -> {
            FencedBoxes x = new FencedBoxes();
            due(1, () -> x.type(32));
            due(2, () -> x.type(126));
        });
        sentence(type, "Returns the length of the text.", () -> {
            FencedBoxes x = new FencedBoxes();
            for (int n = 1; n <= 60; n++) {
                int length = n;
                due(length, () -> x.type(length % 2 == 0 ? ';' : 'n'));
            }
            x.clearText();
            due(1, () -> x.type('n'));
        });
        sentence(type, "Throws `IllegalArgumentException` if character is out of range", () -> {
            for (int character : new int[] {31, 127, 0, -1, 32 + 256, 110 + 65536, Integer.MIN_VALUE,
                Integer.MAX_VALUE}) {
                due(NO_ARGUMENT, () -> new FencedBoxes().type(character));
            }
        });
        sentence(type, "Throws `IllegalStateException` if the text has 60 characters", () -> {
            FencedBoxes x = typed(new FencedBoxes(), LONG + "n");
            due(60, () -> x.type(';'));
            due(NO_STATE, () -> x.type(';'));
            due(NO_STATE, () -> x.type(32));
            due(NO_STATE, () -> x.type(126));
            due(18, x::play);
            due(NO_STATE, () -> x.type('n'));
            due(60, x::clearText);
            due(1, () -> x.type('n'));
        });
        String clear = "38 clearText";
        sentence(clear, "Empties the text.", () -> {
            FencedBoxes x = typed(new FencedBoxes(), "f1;x");
            due(3, x::faultPosition);
            x.clearText();
            due(NO_ELEMENT, x::faultPosition);
            due(0, x::play);
            due(0, x::drawn);
            fine(typed(x, "f2;"), 1);
            due(false, () -> x.isDrawn(1));
            x.clearText();
            fault(typed(x, "f3"), 0, 1, 2);
            x.clearText();
            fault(typed(x, "f"), 0, 1, 1);
            x.clearText();
            typed(x, "n;n").clearText();
            fault(typed(x, "n"), 0, 1, 1);
        });
        sentence(clear, "Returns the length that it had.", () -> {
            FencedBoxes x = new FencedBoxes();
            due(0, x::clearText);
            due(1, () -> typed(x, "n").clearText());
            due(59, () -> typed(x, LONG + "n").clearText());
            due(60, () -> typed(x, LONG + "n;").clearText());
            due(0, x::clearText);
        });
    }

    private static void askingFaults() {
        String position = "39 faultPosition";
        sentence(position, "Tells the position of the fault of the text.", () -> {
            due(0, () -> typed(new FencedBoxes(), "x").faultPosition());
            due(2, () -> typed(new FencedBoxes(), "n;x").faultPosition());
            due(58, () -> typed(new FencedBoxes(), LONG + ";").faultPosition());
            due(58, () -> typed(new FencedBoxes(), LONG + "n").faultPosition());
            FencedBoxes x = typed(new FencedBoxes(), "f1;f2;f3;");
            x.draw(3);
            due(6, x::faultPosition);
            x.draw(2);
            due(3, x::faultPosition);
            x.draw(1);
            due(0, x::faultPosition);
        });
        sentence(position, NO_FAULT + " (also if it is empty)", () -> {
            due(NO_ELEMENT, () -> new FencedBoxes().faultPosition());
            due(NO_ELEMENT, () -> typed(new FencedBoxes(), "n;").faultPosition());
            due(NO_ELEMENT, () -> typed(new FencedBoxes(), LONG + "n;").faultPosition());
            due(NO_ELEMENT, () -> over(1).faultPosition());
            FencedBoxes x = typed(new FencedBoxes(), "x");
            x.clearText();
            due(NO_ELEMENT, x::faultPosition);
        });
        String reason = "40 faultReason";
        sentence(reason, "Returns 1 or 2.", () -> {
            due(1, () -> typed(new FencedBoxes(), "f0").faultReason());
            due(2, () -> typed(new FencedBoxes(), "f31;").faultReason());
            due(2, () -> typed(with(0), "f0;").faultReason());
        });
        sentence(reason, NO_FAULT, () -> {
            due(NO_ELEMENT, () -> new FencedBoxes().faultReason());
            due(NO_ELEMENT, () -> typed(new FencedBoxes(), "f30;").faultReason());
            FencedBoxes x = typed(new FencedBoxes(), "f3");
            due(1, x::faultReason);
            x.type(';');
            due(NO_ELEMENT, x::faultReason);
        });
        String cause = "41 faultCause";
        sentence(cause, "Returns the cause, as told.", () -> {
            due(0, () -> typed(new FencedBoxes(), "x").faultCause());
            due(3, () -> typed(new FencedBoxes(), "f30").faultCause());
            due(1, () -> typed(new FencedBoxes(), "f31;").faultCause());
            due(2, () -> typed(with(30), "f30;").faultCause());
        });
        sentence(cause, NO_FAULT, () -> {
            due(NO_ELEMENT, () -> new FencedBoxes().faultCause());
            due(NO_ELEMENT, () -> typed(new FencedBoxes(), "f30;").faultCause());
            FencedBoxes x = typed(new FencedBoxes(), "f3");
            due(2, x::faultCause);
            x.type(';');
            due(NO_ELEMENT, x::faultCause);
        });
    }

    private static void playing() {
        String play = "42 play";
        sentence(play, "Does all orders of the text, which stays.", () -> {
            FencedBoxes x = typed(with(1, 5), "f0;f4;f16;f18;f17;f30;");
            FencedBoxes same = with(1, 5, 0, 4, 16, 18, 17, 30);
            x.play();
            same(shown(same), shown(x));
            due(1, x::doubleDeals);
            due(22, x::clearText);
            FencedBoxes last = typed(strides(new FencedBoxes(), 2, 30), "f29;n;f29;");
            last.play();
            due(1, () -> last.won(0));
            due(1, last::drawn);
            FencedBoxes even = typed(strides(new FencedBoxes(), 9, 30), "f22;");
            even.play();
            due(1, even::evenGames);
            due(true, even::isOver);
        });
        sentence(play, "They are one change, also if there are none.", () -> {
            FencedBoxes x = typed(with(0), "f1;f2;f3;n;f4;");
            x.play();
            due(2, x::states);
            due(1, x::undo);
            due(1, x::drawn);
            due(true, () -> x.isDrawn(0));
            FencedBoxes none = with(0);
            due(0, none::play);
            due(2, none::states);
            due(1, none::undo);
            due(1, none::drawn);
            due(0, none::undo);
            due(0, none::drawn);
        });
        sentence(play, "Returns how many there are in it.", () -> {
            due(0, () -> new FencedBoxes().play());
            due(1, () -> typed(new FencedBoxes(), "n;").play());
            due(1, () -> typed(new FencedBoxes(), "f30;").play());
            due(2, () -> typed(new FencedBoxes(), "f03;n;").play());
            due(18, () -> typed(new FencedBoxes(), LONG + "n;").play());
        });
        sentence(play, "Throws `IllegalStateException` if the text has a fault", () -> {
            for (String text : new String[] {"x", "f1", "f31;", "f1;f1;", "n;f2;;", LONG + "f"}) {
                FencedBoxes x = typed(new FencedBoxes(), text);
                due(NO_STATE, x::play);
                due(0, x::drawn);
                due(0, x::states);
            }
            due(NO_STATE, () -> typed(over(1), "f3;").play());
        });
    }

    public static void main(String[] args) {
        form();
        faults();
        typing();
        askingFaults();
        playing();
        end();
    }
}
