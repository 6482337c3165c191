/** Promises 27 to 31: type, clearText, fault, undo, checksum. */
final class TextsUndoTest {
    public static void main(String[] args) {
        type();
        clearText();
        fault();
        undo();
        undoOfTheOrder();
        undoLeavesTheText();
        checksum();
        Check.end();
    }

    private static void type() {
        PianoRounds x = new PianoRounds();
        Check.argument(x, "type(31)", () -> x.type(31));
        Check.argument(x, "type(127)", () -> x.type(127));
        Check.argument(x, "type(-1)", () -> x.type(-1));
        Check.due("type(32)", x.type(32), 1);
        Check.due("type(126)", x.type(126), 2);
        for (int length = 3; length <= 40; length++) {
            Check.due("type(48)", x.type(48), length);
        }
        Check.state(x, "type(48), the 41st", () -> x.type(48));
        Check.argument(x, "type(31), the 41st", () -> x.type(31));
        Check.state(x, "undo(): typing is not recorded", () -> x.undo());
    }

    private static void clearText() {
        PianoRounds x = new PianoRounds();
        Check.due("clearText()", x.clearText(), 0);
        Check.text(x, "12,3");
        Check.due("clearText()", x.clearText(), 4);
        Check.due("clearText() again", x.clearText(), 0);
        Check.due("type(49) then", x.type(49), 1);
        Check.state(x, "undo(): clearing is not recorded", () -> x.undo());
    }

    private static void faultOf(PianoRounds x, String text, int due) {
        Check.text(x, text);
        Check.due("fault() of \"" + text + "\"", x.fault(), due);
    }

    private static void fault() {
        PianoRounds none = new PianoRounds();
        faultOf(none, "0", 0);
        faultOf(none, "00x", 2);
        PianoRounds x = new PianoRounds();
        for (int w = 0; w < 12; w++) {
            x.addWork(0, 0, 1);
        }
        String[] texts = {"", "0", "00", "11", "012", "1,", "1,2,3,4", "1,2,3,4,", "1,2,3,4,5", ",1", "1,,2", "12",
            "1,12", "99,1x", "1,1", "01,1", "1,10,01", "3,12,3", "3,3,12", "12,12", " 1", "1 ", "1, 2", "1;2", "a",
            "10,11,00,09", "10,11,00,099", "1,2,3,45,6", "1,2,3,45", "-1", "1/", "1:"};
        int[] due = {0, -1, -1, -1, 2, 2, -1, 7, 7, 0, 2, 0,
            2, 4, 2, 3, 5, 2, 2, 0, 0, 1, 2, 1, 0,
            -1, 11, 8, 6, 0, 1, 1};
        for (int i = 0; i < texts.length; i++) {
            faultOf(x, texts[i], due[i]);
        }
        faultOf(x, "1111111111111111111111111111111111111111", 2);
        faultOf(x, "12", 0);
        x.addWork(0, 0, 1);
        Check.due("fault() when there is a work 12", x.fault(), -1);
    }

    private static void undo() {
        PianoRounds x = new PianoRounds();
        Check.state(x, "undo() of a new object", () -> x.undo());
        for (int e = 0; e < 6; e++) {
            x.addEntrant();
        }
        for (int left = 3; left >= 0; left--) {
            Check.due("undo()", x.undo(), left);
            Check.due("entrants", x.info(6), 2 + left);
        }
        Check.state(x, "undo() without records", () -> x.undo());
        x.addEntrant();
        Check.due("undo() of one record", x.undo(), 0);
        x.set(2, 50);
        Check.due("undo() of a call that changed nothing", x.undo(), 0);
        x.addEntrant();
        x.addEntrant();
        x.undo();
        x.addEntrant();
        Check.due("undo() after undo() and a call", x.undo(), 1);
        Check.due("undo()", x.undo(), 0);
        Check.due("entrants", x.info(6), 2);
    }

    private static void undoOfTheOrder() {
        PianoRounds x = Check.entrants(8, 3, 12);
        x.set(1, 2);
        for (int e = 0; e < 8; e++) {
            x.setProgram(e, 1);
        }
        x.begin(7);
        String drawn = Check.order(x);
        x.withdraw(x.stage(3));
        x.withdraw(x.stage(1));
        x.undo();
        x.undo();
        Check.same("the order after undo() of withdraw()", Check.order(x), drawn);
        Check.playAll(x);
        for (int e = 0; e < 8; e++) {
            Check.markAll(x, e, 50);
        }
        x.close();
        String next = Check.order(x);
        x.undo();
        Check.same("the order after undo() of close()", Check.order(x), drawn);
        x.close();
        Check.same("the lots after undo() of close()", Check.order(x), next);
    }

    private static void undoLeavesTheText() {
        PianoRounds x = new PianoRounds();
        Check.text(x, "1");
        x.addEntrant();
        Check.text(x, "12,3");
        x.undo();
        Check.due("the text after undo()", x.clearText(), 4);
    }

    private static void checksum() {
        PianoRounds x = Check.entrants(3, 3, 1);
        x.set(1, 2);
        x.setProgram(0, 1);
        x.bar(1, 2, true);
        x.begin(5);
        Check.playAll(x);
        Check.markAll(x, 0, 40);
        Check.markAll(x, 1, 40);
        x.mark(0, 2, 3);
        Check.due("checksum() in a round", x.checksum(), PlainChecksum.of(x, 1, 4, new int[] {1, 2}));
        x.undo();
        x.clearText();
        Check.due("checksum() without text", x.checksum(), PlainChecksum.of(x, 0, 3, new int[] {1, 2}));
    }
}
