/** Promises 1 to 8: a new object, works, entrants, jury, settings and rules. */
final class WorksEntrantsJuryTest {
    public static void main(String[] args) {
        newObject();
        addWork();
        work();
        addEntrant();
        bar();
        set();
        setRuleAndRule();
        Check.end();
    }

    private static void newObject() {
        PianoRounds x = new PianoRounds();
        int[] due = {5, 1, 50, 0, 0, 0, 0, 0, 0, 0, 0, 0, 0};
        for (int what = 0; what < due.length; what++) {
            Check.due("new: info(" + what + ")", x.info(what), due[what]);
        }
        int[] rules = {1, 180, 0, 4, 0, 12};
        for (int round = 0; round < 4; round++) {
            for (int what = 0; what < 6; what++) {
                Check.due("new: rule(" + round + ", " + what + ")", x.rule(round, what), rules[what]);
            }
        }
        Check.due("new: stage(0)", x.stage(0), -1);
        Check.due("new: clearText()", x.clearText(), 0);
        Check.state(x, "new: undo()", () -> x.undo());
        Check.due("NONE", PianoRounds.NONE, -1);
    }

    private static void addWork() {
        PianoRounds x = new PianoRounds();
        Check.argument(x, "addWork(-1, 0, 1)", () -> x.addWork(-1, 0, 1));
        Check.argument(x, "addWork(10, 0, 1)", () -> x.addWork(10, 0, 1));
        Check.argument(x, "addWork(0, -1, 1)", () -> x.addWork(0, -1, 1));
        Check.argument(x, "addWork(0, 5, 1)", () -> x.addWork(0, 5, 1));
        Check.argument(x, "addWork(0, 0, 0)", () -> x.addWork(0, 0, 0));
        Check.argument(x, "addWork(0, 0, 61)", () -> x.addWork(0, 0, 61));
        for (int w = 0; w < 30; w++) {
            Check.due("addWork", x.addWork(w % 10, w % 5, w * 2 + 1), w);
            Check.due("info(5)", x.info(5), w + 1);
        }
        Check.state(x, "addWork, the 31st", () -> x.addWork(0, 0, 1));
        Check.argument(x, "addWork(10, 0, 1), the 31st", () -> x.addWork(10, 0, 1));
        Check.due("undo()", x.undo(), 3);
        Check.due("addWork(9, 4, 60)", x.addWork(9, 4, 60), 29);
        PianoRounds begun = Check.played(1, 3, 1);
        Check.state(begun, "addWork in a round", () -> begun.addWork(0, 0, 1));
        Check.argument(begun, "addWork(0, 0, 0) in a round", () -> begun.addWork(0, 0, 0));
    }

    private static void work() {
        PianoRounds x = new PianoRounds();
        x.addWork(9, 4, 60);
        x.addWork(3, 2, 1);
        Check.due("work(0, 0)", x.work(0, 0), 9);
        Check.due("work(0, 1)", x.work(0, 1), 4);
        Check.due("work(0, 2)", x.work(0, 2), 60);
        Check.due("work(1, 0)", x.work(1, 0), 3);
        Check.due("work(1, 1)", x.work(1, 1), 2);
        Check.due("work(1, 2)", x.work(1, 2), 1);
        Check.index(x, "work(2, 0)", () -> x.work(2, 0));
        Check.index(x, "work(-1, 0)", () -> x.work(-1, 0));
        Check.index(x, "work(2, 3)", () -> x.work(2, 3));
        Check.argument(x, "work(0, 3)", () -> x.work(0, 3));
        Check.argument(x, "work(0, -1)", () -> x.work(0, -1));
    }

    private static void addEntrant() {
        PianoRounds x = new PianoRounds();
        for (int e = 0; e < 12; e++) {
            Check.due("addEntrant()", x.addEntrant(), e);
            Check.due("info(6)", x.info(6), e + 1);
            Check.due("info(7)", x.info(7), e + 1);
            Check.due("entrant(e, 0)", x.entrant(e, 0), 1);
        }
        Check.state(x, "addEntrant(), the 13th", () -> x.addEntrant());
        x.undo();
        Check.due("info(6) after undo()", x.info(6), 11);
        PianoRounds begun = Check.played(1, 3, 1);
        Check.state(begun, "addEntrant() in a round", () -> begun.addEntrant());
    }

    private static void bar() {
        PianoRounds x = Check.entrants(2, 7, 1);
        Check.index(x, "bar(7, 0)", () -> x.bar(7, 0, true) ? 1 : 0);
        Check.index(x, "bar(-1, 0)", () -> x.bar(-1, 0, true) ? 1 : 0);
        Check.index(x, "bar(0, 2)", () -> x.bar(0, 2, true) ? 1 : 0);
        Check.index(x, "bar(0, -1)", () -> x.bar(0, -1, true) ? 1 : 0);
        Check.due("bar(6, 1, true)", x.bar(6, 1, true) ? 1 : 0, 0);
        Check.due("bar(6, 1, true) again", x.bar(6, 1, true) ? 1 : 0, 1);
        Check.due("bar(6, 0, false)", x.bar(6, 0, false) ? 1 : 0, 0);
        x.set(0, 6);
        Check.index(x, "bar(6, 1) with 6 jurors", () -> x.bar(6, 1, true) ? 1 : 0);
        x.set(0, 7);
        Check.due("bar(6, 1, false): kept without the juror", x.bar(6, 1, false) ? 1 : 0, 1);
        Check.due("bar(6, 1, false) again", x.bar(6, 1, false) ? 1 : 0, 0);
        x.undo();
        x.undo();
        Check.due("bar after two undo()", x.bar(6, 1, true) ? 1 : 0, 1);
        barInRound();
    }

    private static void barInRound() {
        PianoRounds x = Check.played(1, 3, 1);
        Check.marks(x, 0, 10, 20, 30);
        x.bar(2, 0, true);
        Check.due("marks that count with a barred juror", x.entrant(0, 3), 2);
        Check.due("score with a barred juror", x.entrant(0, 4), 15000);
        Check.due("the barred mark is kept", x.marked(2, 0, false), 30);
        x.bar(2, 0, false);
        Check.due("score when the bar has ended", x.entrant(0, 4), 20000);
        x.close();
        Check.due("state", x.info(3), 3);
        x.bar(0, 0, true);
        Check.due("score in state 3 with a barred juror", x.entrant(0, 4), 25000);
        Check.due("history in state 3 stays", x.history(0, 0), 20000);
    }

    private static void set() {
        PianoRounds x = new PianoRounds();
        Check.argument(x, "set(-1, 1)", () -> x.set(-1, 1));
        Check.argument(x, "set(3, 1)", () -> x.set(3, 1));
        int[][] ranges = {{3, 7, 5}, {1, 4, 1}, {0, 100, 50}};
        for (int what = 0; what < 3; what++) {
            int w = what;
            int[] range = ranges[what];
            Check.argument(x, "set(" + w + ") below", () -> x.set(w, range[0] - 1));
            Check.argument(x, "set(" + w + ") above", () -> x.set(w, range[1] + 1));
            Check.due("set(" + w + ", lowest)", x.set(w, range[0]), range[2]);
            Check.due("info(" + w + ")", x.info(w), range[0]);
            Check.due("set(" + w + ", highest)", x.set(w, range[1]), range[0]);
            Check.due("info(" + w + ")", x.info(w), range[1]);
            x.undo();
            Check.due("info(" + w + ") after undo()", x.info(w), range[0]);
        }
        PianoRounds begun = Check.played(1, 3, 1);
        Check.state(begun, "set(0, 3) in a round", () -> begun.set(0, 3));
        Check.state(begun, "set(1, 1) in a round", () -> begun.set(1, 1));
        Check.argument(begun, "set(0, 8) in a round", () -> begun.set(0, 8));
        Check.due("set(2, 0) in a round", begun.set(2, 0), 50);
        Check.markAll(begun, 0, 1);
        begun.close();
        Check.due("set(2, 7) in state 3", begun.set(2, 7), 0);
        Check.state(begun, "set(0, 3) in state 3", () -> begun.set(0, 3));
    }

    private static void setRuleAndRule() {
        PianoRounds x = new PianoRounds();
        int[][] ranges = {{1, 180, 1}, {1, 180, 180}, {0, 31, 0}, {1, 4, 4}, {0, 1, 0}, {1, 12, 12}};
        for (int round = 0; round < 4; round++) {
            for (int what = 0; what < 6; what++) {
                int r = round;
                int w = what;
                int[] range = ranges[what];
                Check.argument(x, "setRule(" + w + ") below", () -> x.setRule(r, w, range[0] - 1));
                Check.argument(x, "setRule(" + w + ") above", () -> x.setRule(r, w, range[1] + 1));
                Check.due("setRule(" + w + ", highest)", x.setRule(r, w, range[1]), range[2]);
                Check.due("rule(" + w + ")", x.rule(r, w), range[1]);
                Check.due("setRule(" + w + ", lowest)", x.setRule(r, w, range[0]), range[1]);
                Check.due("rule(" + w + ")", x.rule(r, w), range[0]);
                x.undo();
                Check.due("rule(" + w + ") after undo()", x.rule(r, w), range[1]);
                x.undo();
            }
        }
        Check.index(x, "setRule(-1, 0, 1)", () -> x.setRule(-1, 0, 1));
        Check.index(x, "setRule(4, 6, 1)", () -> x.setRule(4, 6, 1));
        Check.argument(x, "setRule(0, 6, 1)", () -> x.setRule(0, 6, 1));
        Check.argument(x, "setRule(0, -1, 1)", () -> x.setRule(0, -1, 1));
        Check.index(x, "rule(-1, 0)", () -> x.rule(-1, 0));
        Check.index(x, "rule(4, 6)", () -> x.rule(4, 6));
        Check.argument(x, "rule(0, -1)", () -> x.rule(0, -1));
        Check.argument(x, "rule(0, 6)", () -> x.rule(0, 6));
        PianoRounds begun = Check.played(1, 3, 1);
        Check.state(begun, "setRule(3, 0, 1) in a round", () -> begun.setRule(3, 0, 1));
        Check.argument(begun, "setRule(3, 0, 0) in a round", () -> begun.setRule(3, 0, 0));
        Check.index(begun, "setRule(4, 0, 0) in a round", () -> begun.setRule(4, 0, 0));
        Check.due("rule(0, 5) in a round", begun.rule(0, 5), 1);
    }
}
