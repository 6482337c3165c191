/** Promises 27 to 31: type, clearText, fault, undo, checksum. */
final class TextsUndoTest {
    public static void main(String[] args) {
        type();
        clearText();
        fault();
        undo();
        undoOfEachMethod();
        undoOfTheOrder();
        undoLeavesTheText();
        checksum();
        Check.end();
    }

    private static void type() {
        PianoRounds x = new PianoRounds();
        Check.argument(x, "type(31)", () -> x.type(31));
        Check.argument(x, "type(127)", () -> x.type(127));
        Check.argument(x, "type(-1)", () -> x.type(-1));
        Check.due("type(32)", x.type(32), 1);
        Check.due("type(126)", x.type(126), 2);
        for (int length = 3; length <= 40; length++) {
            Check.due("type(48)", x.type(48), length);
        }
        Check.state(x, "type(48), the 41st", () -> x.type(48));
        Check.argument(x, "type(31), the 41st", () -> x.type(31));
        Check.state(x, "undo(): typing is not recorded", () -> x.undo());
    }

    private static void clearText() {
        PianoRounds x = new PianoRounds();
        Check.due("clearText()", x.clearText(), 0);
        Check.text(x, "12,3");
        Check.due("clearText()", x.clearText(), 4);
        Check.due("clearText() again", x.clearText(), 0);
        Check.due("type(49) then", x.type(49), 1);
        Check.state(x, "undo(): clearing is not recorded", () -> x.undo());
    }

    private static void faultOf(PianoRounds x, String text, int due) {
        Check.text(x, text);
        Check.due("fault() of \"" + text + "\"", x.fault(), due);
    }

    private static void fault() {
        PianoRounds none = new PianoRounds();
        faultOf(none, "0", 0);
        faultOf(none, "00x", 2);
        PianoRounds x = new PianoRounds();
        for (int w = 0; w < 12; w++) {
            x.addWork(0, 0, 1);
        }
        String[] texts = {"", "0", "00", "11", "012", "1,", "1,2,3,4", "1,2,3,4,", "1,2,3,4,5", ",1", "1,,2", "12",
            "1,12", "99,1x", "1,1", "01,1", "1,10,01", "3,12,3", "3,3,12", "12,12", " 1", "1 ", "1, 2", "1;2", "a",
            "10,11,00,09", "10,11,00,099", "1,2,3,45,6", "1,2,3,45", "-1", "1/", "1:"};
        int[] due = {0, -1, -1, -1, 2, 2, -1, 7, 7, 0, 2, 0,
            2, 4, 2, 3, 5, 2, 2, 0, 0, 1, 2, 1, 0,
            -1, 11, 8, 6, 0, 1, 1};
        for (int i = 0; i < texts.length; i++) {
            faultOf(x, texts[i], due[i]);
        }
        faultOf(x, "1111111111111111111111111111111111111111", 2);
        faultOf(x, "12", 0);
        x.addWork(0, 0, 1);
        Check.due("fault() when there is a work 12", x.fault(), -1);
    }

    private static void undo() {
        PianoRounds x = new PianoRounds();
        Check.state(x, "undo() of a new object", () -> x.undo());
        for (int e = 0; e < 6; e++) {
            x.addEntrant();
        }
        for (int left = 3; left >= 0; left--) {
            Check.due("undo()", x.undo(), left);
            Check.due("entrants", x.info(6), 2 + left);
        }
        Check.state(x, "undo() without records", () -> x.undo());
        x.addEntrant();
        Check.due("undo() of one record", x.undo(), 0);
        x.set(2, 50);
        Check.due("undo() of a call that changed nothing", x.undo(), 0);
        x.addEntrant();
        x.addEntrant();
        x.undo();
        x.addEntrant();
        Check.due("undo() after undo() and a call", x.undo(), 1);
        Check.due("undo()", x.undo(), 0);
        Check.due("entrants", x.info(6), 2);
    }

    /** Makes each undoable call, and looks whether undo() brings the checksum back. */
    private static void undoOfEachMethod() {
        PianoRounds x = Check.entrants(3, 3, 1);
        x.set(1, 2);
        for (int e = 0; e < 3; e++) {
            x.setProgram(e, 1);
        }
        goesBack(x, "addWork", () -> x.addWork(1, 1, 1));
        goesBack(x, "addEntrant", () -> x.addEntrant());
        goesBack(x, "bar", () -> x.bar(0, 0, true) ? 1 : 0);
        goesBack(x, "set", () -> x.set(0, 7));
        goesBack(x, "setRule", () -> x.setRule(0, 0, 7));
        goesBack(x, "setProgram", () -> x.setProgram(0, 2));
        goesBack(x, "clearProgram", () -> x.clearProgram(0, 0));
        goesBack(x, "withdraw", () -> x.withdraw(1));
        goesBack(x, "begin", () -> x.begin(7));
        x.begin(7);
        goesBack(x, "play", () -> x.play(7));
        goesBack(x, "withdraw", () -> x.withdraw(1));
        Check.playAll(x);
        goesBack(x, "mark", () -> x.mark(0, 0, 7));
        goesBack(x, "abstain", () -> x.abstain(0, 0));
        for (int e = 0; e < 3; e++) {
            Check.markAll(x, e, 50);
        }
        goesBack(x, "close", () -> x.close());
        x.close();
        for (int e = 0; e < 3; e++) {
            Check.markAll(x, e, e);
        }
        goesBack(x, "close of a tie round", () -> x.close());
        x.close();
        Check.due("round", x.info(4), 1);
    }

    private static void undoOfTheOrder() {
        PianoRounds x = Check.entrants(8, 3, 12);
        x.set(1, 2);
        for (int e = 0; e < 8; e++) {
            x.setProgram(e, 1);
        }
        x.begin(7);
        String drawn = Check.order(x);
        x.withdraw(x.stage(3));
        x.withdraw(x.stage(1));
        x.undo();
        x.undo();
        same("the order after undo() of withdraw()", Check.order(x), drawn);
        Check.playAll(x);
        for (int e = 0; e < 8; e++) {
            Check.markAll(x, e, 50);
        }
        x.close();
        String next = Check.order(x);
        x.undo();
        same("the order after undo() of close()", Check.order(x), drawn);
        x.close();
        same("the lots after undo() of close()", Check.order(x), next);
    }

    private static void same(String what, String got, String due) {
        if (!got.equals(due)) {
            Check.fail(what + " is " + got + ", due is " + due);
        }
    }

    private static void goesBack(PianoRounds x, String call, Check.Call made) {
        // Four records before the call leave three behind it, so that the first checksum is that of three.
        x.set(2, x.info(2));
        x.set(2, x.info(2));
        x.set(2, x.info(2));
        x.set(2, x.info(2));
        x.undo();
        long before = x.checksum();
        made.answer();
        if (x.checksum() == before) {
            Check.fail(call + " has left no trace in the checksum");
        }
        Check.due("undo() of " + call, x.undo(), 3);
        Check.due("checksum() after undo() of " + call, x.checksum(), before);
    }

    private static void undoLeavesTheText() {
        PianoRounds x = new PianoRounds();
        Check.text(x, "1");
        x.addEntrant();
        Check.text(x, "12,3");
        x.undo();
        Check.due("the text after undo()", x.clearText(), 4);
    }

    private static void checksum() {
        PianoRounds x = new PianoRounds();
        Check.due("checksum() of a new object", x.checksum(), plain(x, 0, 0));
        PianoRounds y = Check.entrants(3, 3, 1);
        y.set(1, 2);
        y.setProgram(0, 1);
        y.bar(1, 2, true);
        y.begin(5);
        Check.playAll(y);
        Check.markAll(y, 0, 40);
        Check.markAll(y, 1, 40);
        y.mark(0, 2, 3);
        Check.due("checksum() in a round", y.checksum(), plain(y, 1, 4));
        y.abstain(2, 2);
        y.mark(0, 2, 30);
        y.bar(1, 2, false);
        y.mark(1, 2, 9);
        y.close();
        y.mark(0, 1, 7);
        Check.due("checksum() in a tie round", y.checksum(), plain(y, 1, 4));
        y.undo();
        Check.due("checksum() with three records", y.checksum(), plain(y, 1, 3));
        y.clearText();
        Check.due("checksum() without text", y.checksum(), plain(y, 0, 3));
    }

    /** The checksum made of the answers of the other calls, where bar() would tell who is barred. */
    private static long plain(PianoRounds x, int textLength, int records) {
        java.util.List<Integer> all = new java.util.ArrayList<>();
        for (int what = 0; what <= 12; what++) {
            all.add(x.info(what));
        }
        for (int w = 0; w < x.info(5); w++) {
            for (int what = 0; what <= 2; what++) {
                all.add(x.work(w, what));
            }
        }
        for (int r = 0; r < 4; r++) {
            for (int what = 0; what <= 5; what++) {
                all.add(x.rule(r, what));
            }
        }
        for (int e = 0; e < x.info(6); e++) {
            for (int what = 0; what <= 7; what++) {
                all.add(x.entrant(e, what));
            }
            for (int r = 0; r < 4; r++) {
                all.add(x.flaw(e, r));
                all.add(x.history(e, r));
                for (int k = 0; k < 4; k++) {
                    all.add(x.program(e, r, k));
                }
            }
            for (int j = 0; j < x.info(0); j++) {
                boolean barred = x.info(3) == 1 && j == 1 && e == 2;
                all.add(barred ? 1 : 0);
                all.add(x.marked(j, e, false));
                all.add(x.marked(j, e, true));
            }
        }
        for (int k = 0; k < x.info(8); k++) {
            all.add(x.stage(k));
        }
        all.add(x.strangestJuror());
        all.add(textLength);
        all.add(records);
        long h = 43009;
        for (int v : all) {
            h = 31 * h + v;
        }
        return h;
    }
}
