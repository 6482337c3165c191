/** Promises 19 to 23: info, entrant, marked, history, stage. */
final class TellingTest {
    public static void main(String[] args) {
        info();
        entrantInRound();
        entrantInTieRound();
        entrantWhenOver();
        marked();
        history();
        stage();
        Check.end();
    }

    private static void infos(String when, PianoRounds x, int... due) {
        for (int what = 0; what < due.length; what++) {
            Check.due(when + ": info(" + what + ")", x.info(what), due[what]);
        }
    }

    private static void facts(String when, PianoRounds x, int entrant, int... due) {
        for (int what = 0; what < due.length; what++) {
            Check.due(when + ": entrant(" + entrant + ", " + what + ")", x.entrant(entrant, what), due[what]);
        }
    }

    private static void info() {
        PianoRounds x = Check.entrants(5, 3, 2);
        Check.argument(x, "info(13)", () -> x.info(13));
        Check.argument(x, "info(-1)", () -> x.info(-1));
        x.set(1, 2);
        x.set(2, 7);
        x.withdraw(4);
        infos("not begun", x, 3, 2, 7, 0, 0, 3, 5, 4, 0, 0, 0, 0, 0);
        x.begin(9);
        x.play(0);
        infos("in a round", x, 3, 2, 7, 1, 0, 3, 5, 4, 4, 1, 0, 0, 0);
        Check.playAll(x);
        Check.markAll(x, 0, 9);
        for (int e = 1; e < 4; e++) {
            Check.markAll(x, e, 8);
        }
        x.close();
        infos("in a tie round", x, 3, 2, 7, 2, 0, 3, 5, 4, 4, 4, 3, 1, 1);
        Check.markAll(x, 1, 9);
        Check.markAll(x, 2, 8);
        Check.markAll(x, 3, 8);
        x.setProgram(1, 1);
        x.close();
        infos("in round 1", x, 3, 2, 7, 1, 1, 3, 5, 1, 1, 0, 0, 0, 0);
        Check.playAll(x);
        Check.markAll(x, 1, 1);
        x.close();
        infos("over", x, 3, 2, 7, 3, 1, 3, 5, 1, 1, 1, 0, 0, 0);
    }

    private static void entrantInRound() {
        PianoRounds x = Check.entrants(3, 3, 1);
        Check.index(x, "entrant(3, 0)", () -> x.entrant(3, 0));
        Check.index(x, "entrant(-1, 8)", () -> x.entrant(-1, 8));
        Check.argument(x, "entrant(0, 8)", () -> x.entrant(0, 8));
        Check.argument(x, "entrant(0, -1)", () -> x.entrant(0, -1));
        facts("not begun", x, 0, 1, -1, -1, 0, -1, 0, 0, -1);
        x.withdraw(1);
        x.begin(4);
        int first = x.stage(0);
        int second = x.stage(1);
        facts("out", x, 1, 0, -1, -1, 0, -1, 0, 0, -1);
        facts("not played", x, second, 1, 1, -1, 0, -1, 0, 0, -1);
        x.play(2);
        facts("played", x, first, 1, 0, 2, 0, -1, 0, 0, -1);
        x.mark(0, first, 80);
        x.mark(1, first, 85);
        facts("two marks", x, first, 1, 0, 2, 2, 81500, 0, 0, -1);
        x.abstain(2, first);
        facts("complete", x, first, 1, 0, 2, 2, 81500, 1, 0, -1);
        x.bar(0, first, true);
        facts("a barred mark", x, first, 1, 0, 2, 1, 84000, 0, 0, -1);
        x.bar(1, first, true);
        facts("all marks barred", x, first, 1, 0, 2, 0, -1, 0, 0, -1);
    }

    private static void entrantInTieRound() {
        PianoRounds x = Check.played(3, 4, 2);
        Check.markAll(x, 0, 90);
        Check.markAll(x, 1, 50);
        Check.markAll(x, 2, 50);
        x.close();
        facts("not tied", x, 0, 1, x.entrant(0, 1), 0, 0, 90000, 1, 0, -1);
        facts("tied", x, 1, 1, x.entrant(1, 1), 0, 0, 50000, 1, 1, -1);
        Check.marks(x, 1, 1, 4);
        facts("two tie marks", x, 1, 1, x.entrant(1, 1), 0, 2, 50000, 1, 1, 2500);
        x.mark(2, 1, 4);
        facts("three tie marks", x, 1, 1, x.entrant(1, 1), 0, 3, 50000, 1, 1, 3000);
        x.mark(3, 1, 9);
        facts("the outer tie marks left out", x, 1, 1, x.entrant(1, 1), 0, 4, 50000, 1, 1, 4000);
        x.bar(0, 1, true);
        facts("a barred tie mark", x, 1, 1, x.entrant(1, 1), 0, 3, 50000, 1, 1, 5666);
    }

    private static void entrantWhenOver() {
        PianoRounds x = Check.entrants(2, 3, 1);
        x.begin(6);
        int first = x.stage(0);
        int second = x.stage(1);
        x.play(1);
        x.play(0);
        Check.markAll(x, first, 70);
        Check.markAll(x, second, 60);
        x.close();
        facts("over, in", x, first, 1, 0, 1, 3, 69500, 1, 0, -1);
        facts("over, out", x, second, 0, 1, 0, 3, 60000, 1, 0, -1);
        x.set(2, 100);
        Check.due("the penalty counts as it is now", x.entrant(first, 4), 69000);
        Check.due("history stays", x.history(first, 0), 69500);
    }

    private static void marked() {
        PianoRounds x = Check.played(2, 3, 1);
        Check.index(x, "marked(3, 0)", () -> x.marked(3, 0, false));
        Check.index(x, "marked(-1, 0)", () -> x.marked(-1, 0, true));
        Check.index(x, "marked(0, 2)", () -> x.marked(0, 2, false));
        Check.index(x, "marked(0, -1)", () -> x.marked(0, -1, true));
        Check.due("no mark", x.marked(0, 0, false), -1);
        x.mark(0, 0, 0);
        Check.due("mark 0", x.marked(0, 0, false), 0);
        Check.due("none for a tie round", x.marked(0, 0, true), -1);
        x.abstain(0, 0);
        Check.due("abstention", x.marked(0, 0, false), -2);
        x.bar(0, 0, true);
        Check.due("abstention of a barred juror", x.marked(0, 0, false), -2);
        x.bar(0, 0, false);
        Check.markAll(x, 0, 30);
        Check.markAll(x, 1, 30);
        x.close();
        Check.due("the round's mark in a tie round", x.marked(0, 0, false), 30);
        Check.due("no tie mark", x.marked(0, 0, true), -1);
        x.mark(0, 0, 3);
        x.abstain(1, 0);
        x.bar(0, 0, true);
        Check.due("tie mark of a barred juror", x.marked(0, 0, true), 3);
        Check.due("tie abstention", x.marked(1, 0, true), -2);
        x.bar(0, 0, false);
        x.mark(2, 0, 3);
        Check.markAll(x, 1, 4);
        x.close();
        Check.due("no tie mark in state 3", x.marked(0, 1, true), -1);
        Check.due("the round's mark in state 3", x.marked(0, 1, false), 30);
    }

    private static void history() {
        PianoRounds x = Check.entrants(3, 3, 12);
        x.withdraw(2);
        x.begin(0);
        Check.index(x, "history(3, 0)", () -> x.history(3, 0));
        Check.index(x, "history(-1, 0)", () -> x.history(-1, 0));
        Check.index(x, "history(0, 4)", () -> x.history(0, 4));
        Check.index(x, "history(0, -1)", () -> x.history(0, -1));
        Check.playAll(x);
        Check.markAll(x, 0, 0);
        Check.markAll(x, 1, 33);
        Check.due("before the closing", x.history(1, 0), -1);
        x.close();
        Check.due("score 0", x.history(0, 0), 0);
        Check.due("score", x.history(1, 0), 33000);
        Check.due("no player", x.history(2, 0), -1);
        Check.due("no such round", x.history(0, 3), -1);
        x.bar(0, 1, true);
        x.bar(1, 1, true);
        x.bar(2, 1, true);
        Check.due("the score that it had", x.history(1, 0), 33000);
    }

    private static void stage() {
        PianoRounds x = Check.entrants(5, 3, 2);
        Check.due("stage(0) before the round", x.stage(0), -1);
        x.begin(123456789);
        int[] due = {0, 2, 4, 3, 1, -1};
        for (int k = 0; k < due.length; k++) {
            Check.due("stage(" + k + ")", x.stage(k), due[k]);
        }
        Check.due("stage(-1)", x.stage(-1), -1);
        Check.due("stage(12)", x.stage(12), -1);
        Check.due("stage(huge)", x.stage(Integer.MAX_VALUE), -1);
        Check.due("stage(least)", x.stage(Integer.MIN_VALUE), -1);
        Check.playAll(x);
        for (int e = 0; e < 5; e++) {
            Check.markAll(x, e, e);
        }
        x.close();
        Check.due("stage(4) in state 3", x.stage(4), 1);
    }
}
