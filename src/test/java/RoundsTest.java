/** Promises 13 to 18: begin, play, mark, abstain, close, withdraw. */
final class RoundsTest {
    public static void main(String[] args) {
        begin();
        lots();
        play();
        mark();
        markInTieRound();
        abstain();
        closeNeedsAllMarks();
        closeDecidesByScores();
        closeGoesToTheNextRound();
        closeTieRounds();
        thirdTieRound();
        withdraw();
        withdrawOfThePlayers();
        Check.end();
    }

    private static void begin() {
        PianoRounds x = Check.entrants(3, 3, 1);
        Check.argument(x, "begin(-1)", () -> x.begin(-1));
        x.clearProgram(1, 0);
        Check.due("begin(0)", x.begin(0), 2);
        Check.due("state", x.info(3), 1);
        Check.due("entrants who are in", x.info(7), 2);
        Check.due("the one with a flaw is out", x.entrant(1, 0), 0);
        Check.due("the one with a flaw has no place", x.entrant(1, 1), -1);
        Check.state(x, "begin(0) in a round", () -> x.begin(0));
        Check.argument(x, "begin(-1) in a round", () -> x.begin(-1));
        x.undo();
        Check.due("state after undo()", x.info(3), 0);
        Check.due("entrants who are in after undo()", x.info(7), 3);
        x.clearProgram(0, 0);
        x.clearProgram(2, 0);
        Check.due("begin without players", x.begin(Integer.MAX_VALUE), 0);
        Check.due("state without players", x.info(3), 3);
        Check.due("round without players", x.info(4), 0);
        PianoRounds none = new PianoRounds();
        Check.due("begin without entrants", none.begin(1), 0);
        Check.due("state without entrants", none.info(3), 3);
        Check.state(none, "begin in state 3", () -> none.begin(1));
    }

    /** The orders that are due are drawn here once more, by the formula of the document. */
    private static void lots() {
        int[][] seeds = {{0, 5}, {1, 5}, {123456789, 5}, {2147483647, 12}, {42, 4}, {7, 2}};
        for (int[] seed : seeds) {
            PianoRounds x = Check.entrants(seed[1], 3, 1);
            x.begin(seed[0]);
            Check.same("begin(" + seed[0] + "): the order", Check.order(x), new Lots(seed[0]).drawFirst(seed[1]));
        }
        PianoRounds x = Check.entrants(5, 3, 12);
        x.set(1, 2);
        for (int e = 0; e < 5; e++) {
            x.setProgram(e, 1);
        }
        x.begin(99);
        Check.playAll(x);
        Check.closeWith(x, 50, 50, 50, 50, 50);
        Lots lots = new Lots(99);
        lots.drawFirst(5);
        Check.same("the order of round 1", Check.order(x), lots.drawFirst(5));
    }

    private static void play() {
        PianoRounds x = Check.entrants(3, 3, 1);
        Check.state(x, "play(0) before the round", () -> x.play(0));
        Check.argument(x, "play(21) before the round", () -> x.play(21));
        x.begin(123);
        Check.argument(x, "play(-1)", () -> x.play(-1));
        Check.argument(x, "play(21)", () -> x.play(21));
        int[] slips = {20, 0, 3};
        for (int k = 0; k < 3; k++) {
            int player = x.stage(k);
            Check.due("slips before", x.entrant(player, 2), -1);
            Check.due("play", x.play(slips[k]), player);
            Check.due("slips", x.entrant(player, 2), slips[k]);
            Check.due("players who have played", x.info(9), k + 1);
        }
        Check.state(x, "play(0) when all have played", () -> x.play(0));
        Check.argument(x, "play(21) when all have played", () -> x.play(21));
        x.undo();
        Check.due("slips after undo()", x.entrant(x.stage(2), 2), -1);
        Check.due("play again", x.play(1), x.stage(2));
    }

    private static void mark() {
        PianoRounds x = Check.entrants(2, 3, 1);
        Check.state(x, "mark before the round", () -> x.mark(0, 0, 1));
        x.begin(1);
        int first = x.stage(0);
        int second = x.stage(1);
        Check.state(x, "mark before the playing", () -> x.mark(0, first, 1));
        x.play(0);
        Check.index(x, "mark(3, ..)", () -> x.mark(3, first, 1));
        Check.index(x, "mark(-1, ..)", () -> x.mark(-1, first, 1));
        Check.index(x, "mark(.., 2, 101)", () -> x.mark(0, 2, 101));
        Check.index(x, "mark(.., -1, 1)", () -> x.mark(0, -1, 1));
        Check.argument(x, "mark 101", () -> x.mark(0, first, 101));
        Check.argument(x, "mark -1", () -> x.mark(0, first, -1));
        Check.argument(x, "mark 101 of one who has not played", () -> x.mark(0, second, 101));
        Check.state(x, "mark of one who has not played", () -> x.mark(0, second, 1));
        Check.due("mark 100", x.mark(0, first, 100), 1);
        Check.due("mark 0", x.mark(1, first, 0), 2);
        Check.due("a later mark takes the place", x.mark(0, first, 40), 2);
        Check.due("marked", x.marked(0, first, false), 40);
        x.bar(2, first, true);
        Check.state(x, "mark of a barred juror", () -> x.mark(2, first, 1));
        x.bar(0, first, true);
        Check.due("only marks that count", x.mark(1, first, 7), 1);
        x.undo();
        Check.due("marked after undo()", x.marked(1, first, false), 0);
        PianoRounds over = Check.played(1, 3, 1);
        Check.markAll(over, 0, 5);
        over.close();
        Check.state(over, "mark in state 3", () -> over.mark(0, 0, 1));
    }

    /** Entrant 0 is ahead; 1 and 2 are tied for the second of two places; 3 is out. */
    private static PianoRounds tied() {
        PianoRounds x = Check.played(4, 3, 2);
        Check.markAll(x, 0, 90);
        Check.markAll(x, 1, 50);
        Check.markAll(x, 2, 50);
        Check.markAll(x, 3, 10);
        x.close();
        return x;
    }

    private static void markInTieRound() {
        PianoRounds x = tied();
        Check.argument(x, "mark 11 in a tie round", () -> x.mark(0, 1, 11));
        Check.argument(x, "mark 11 of one who is not tied", () -> x.mark(0, 0, 11));
        Check.state(x, "mark of one who is not tied", () -> x.mark(0, 0, 10));
        Check.state(x, "abstain for one who is not tied", () -> x.abstain(0, 3));
        Check.due("mark 10 in a tie round", x.mark(0, 1, 10), 1);
        Check.due("mark 0 in a tie round", x.mark(1, 1, 0), 2);
        Check.due("abstain in a tie round", x.abstain(1, 1), 1);
        Check.due("the marks of the round stay", x.marked(0, 1, false), 50);
        Check.due("the mark of the tie round", x.marked(0, 1, true), 10);
        x.bar(2, 1, true);
        Check.state(x, "mark of a barred juror in a tie round", () -> x.mark(2, 1, 1));
    }

    private static void abstain() {
        PianoRounds x = Check.entrants(2, 3, 1);
        Check.state(x, "abstain before the round", () -> x.abstain(0, 0));
        x.begin(1);
        int first = x.stage(0);
        int second = x.stage(1);
        x.play(0);
        Check.index(x, "abstain(3, ..)", () -> x.abstain(3, first));
        Check.index(x, "abstain(-1, ..)", () -> x.abstain(-1, first));
        Check.index(x, "abstain(.., 2)", () -> x.abstain(0, 2));
        Check.index(x, "abstain(.., -1)", () -> x.abstain(0, -1));
        Check.state(x, "abstain for one who has not played", () -> x.abstain(0, second));
        x.mark(0, first, 40);
        x.mark(1, first, 60);
        Check.due("abstain takes the mark's place", x.abstain(0, first), 1);
        Check.due("marked", x.marked(0, first, false), -2);
        Check.due("score without it", x.entrant(first, 4), 60000);
        Check.due("a mark takes its place", x.mark(0, first, 50), 2);
        x.bar(2, first, true);
        Check.state(x, "abstain of a barred juror", () -> x.abstain(2, first));
        x.undo();
        x.undo();
        Check.due("marked after undo()", x.marked(0, first, false), -2);
    }

    private static void closeNeedsAllMarks() {
        PianoRounds x = Check.entrants(2, 4, 12);
        Check.state(x, "close before the round", () -> x.close());
        x.begin(1);
        x.play(0);
        int first = x.stage(0);
        int second = x.stage(1);
        Check.markAll(x, first, 50);
        Check.state(x, "close before all have played", () -> x.close());
        x.play(0);
        x.mark(0, second, 50);
        x.mark(1, second, 50);
        x.abstain(2, second);
        Check.state(x, "close without the mark of juror 3", () -> x.close());
        x.bar(3, second, true);
        Check.due("complete with two of four marks", x.entrant(second, 5), 1);
        x.bar(1, second, true);
        Check.due("not complete with one of four marks", x.entrant(second, 5), 0);
        Check.state(x, "close with one of four marks", () -> x.close());
        x.bar(1, second, false);
        Check.due("close", x.close(), 3);
        Check.state(x, "close in state 3", () -> x.close());
        Check.due("both are in", x.info(7), 2);
        x.undo();
        Check.due("state after undo()", x.info(3), 1);
        Check.due("history after undo()", x.history(first, 0), -1);
    }

    private static void closeDecidesByScores() {
        PianoRounds x = Check.played(4, 5, 3);
        Check.marks(x, 0, 10, 20, 30, 40, 51);
        Check.marks(x, 1, 30, 30, 30, 30, 30);
        Check.marks(x, 2, 30, 0, 30, 100, 31);
        Check.marks(x, 3, 29, 29, 29, 29, 29);
        Check.due("the lowest and the highest are left out", x.entrant(0, 4), 30000);
        Check.due("rounded down", x.entrant(2, 4), 30333);
        Check.due("close", x.close(), 3);
        Check.due("the last place is shared by two who fit", x.info(7), 3);
        Check.due("the lowest is out", x.entrant(3, 0), 0);
        PianoRounds slips = Check.entrants(2, 3, 1);
        slips.begin(0);
        int first = slips.stage(0);
        int second = slips.stage(1);
        slips.play(3);
        slips.play(20);
        Check.markAll(slips, first, 50);
        Check.markAll(slips, second, 9);
        Check.due("score with 3 slips", slips.entrant(first, 4), 48500);
        Check.due("score is at least 0", slips.entrant(second, 4), 0);
        slips.set(2, 100);
        Check.due("score with another penalty", slips.entrant(first, 4), 47000);
        slips.close();
        Check.due("history", slips.history(first, 0), 47000);
        Check.due("the loser is out", slips.entrant(second, 0), 0);
    }

    private static void closeGoesToTheNextRound() {
        PianoRounds x = Check.entrants(4, 3, 3);
        x.set(1, 3);
        Check.text(x, "0,2");
        for (int e = 0; e < 3; e++) {
            x.setProgram(e, 1);
        }
        x.clearProgram(2, 1);
        x.begin(5);
        Check.playAll(x);
        for (int e = 0; e < 4; e++) {
            Check.markAll(x, e, 90 - e);
        }
        Check.due("close to round 1", x.close(), 1);
        Check.due("round", x.info(4), 1);
        Check.due("players: 2 has no program, 3 is out", x.info(8), 2);
        Check.due("who are in", x.info(7), 2);
        Check.due("players who have played", x.info(9), 0);
        Check.due("marks are gone", x.marked(0, 0, false), -1);
        Check.due("slips are gone", x.entrant(0, 2), -1);
        Check.due("history of round 0", x.history(3, 0), 87000);
        Check.due("history of round 1", x.history(0, 1), -1);
        Check.playAll(x);
        Check.markAll(x, 0, 1);
        Check.markAll(x, 1, 2);
        Check.due("close: nobody has a program for round 2", x.close(), 3);
        Check.due("round 2 had begun", x.info(4), 2);
        Check.due("players of round 2", x.info(8), 0);
        Check.due("who are in then", x.info(7), 0);
        Check.due("marks of round 1 are not told", x.marked(0, 0, false), -1);
        Check.due("stage of round 2", x.stage(0), -1);
        Check.due("history of round 1", x.history(1, 1), 2000);
        Check.due("history of round 2", x.history(1, 2), -1);
        x.undo();
        Check.due("round after undo()", x.info(4), 1);
        Check.due("marks after undo()", x.marked(0, 1, false), 2);
    }

    private static void closeTieRounds() {
        PianoRounds x = Check.played(6, 3, 3);
        Check.markAll(x, 0, 90);
        for (int e = 1; e < 5; e++) {
            Check.markAll(x, e, 50);
        }
        Check.markAll(x, 5, 49);
        Check.due("close to a tie round", x.close(), 2);
        Check.due("tied ones", x.info(10), 4);
        Check.due("places left", x.info(11), 2);
        Check.due("tie round", x.info(12), 1);
        Check.due("entrants who are in", x.info(7), 5);
        Check.due("history is told", x.history(5, 0), 49000);
        Check.markAll(x, 1, 8);
        Check.markAll(x, 2, 6);
        Check.markAll(x, 3, 6);
        x.mark(0, 4, 5);
        x.abstain(1, 4);
        Check.state(x, "close without the mark of juror 2", () -> x.close());
        x.abstain(2, 4);
        Check.state(x, "close with one of three marks", () -> x.close());
        x.mark(2, 4, 5);
        Check.due("close to the second tie round", x.close(), 2);
        Check.due("tied ones", x.info(10), 2);
        Check.due("places left", x.info(11), 1);
        Check.due("tie round", x.info(12), 2);
        Check.due("4 is out", x.entrant(4, 0), 0);
        Check.due("1 goes on", x.entrant(1, 0), 1);
        Check.due("1 is not tied", x.entrant(1, 6), 0);
        Check.due("2 is tied", x.entrant(2, 6), 1);
        Check.due("without marks", x.marked(0, 2, true), -1);
        Check.markAll(x, 2, 6);
        Check.markAll(x, 3, 7);
        Check.due("close the second tie round", x.close(), 3);
        Check.due("3 goes on", x.entrant(3, 0), 1);
        Check.due("2 is out", x.entrant(2, 0), 0);
        Check.due("who are in", x.info(7), 3);
        Check.due("tied ones in state 3", x.info(10), 0);
        Check.due("places left in state 3", x.info(11), 0);
        Check.due("tie round in state 3", x.info(12), 0);
        x.undo();
        Check.due("tie round after undo()", x.info(12), 2);
        Check.due("mark after undo()", x.marked(2, 3, true), 7);
    }

    private static void thirdTieRound() {
        PianoRounds x = Check.entrants(5, 3, 3);
        x.set(1, 2);
        for (int e = 0; e < 5; e++) {
            x.setProgram(e, 1);
        }
        x.begin(77);
        Check.playAll(x);
        for (int e = 0; e < 5; e++) {
            Check.markAll(x, e, 50);
        }
        for (int tie = 1; tie <= 3; tie++) {
            Check.due("close", x.close(), 2);
            Check.due("tie round", x.info(12), tie);
            Check.due("places left", x.info(11), 3);
            for (int e = 0; e < 5; e++) {
                Check.markAll(x, e, 5);
            }
        }
        int[] order = new int[5];
        for (int k = 0; k < 5; k++) {
            order[k] = x.stage(k);
        }
        Check.markAll(x, order[1], 3);
        Check.markAll(x, order[4], 9);
        Check.due("close the third tie round", x.close(), 1);
        int[] due = {1, 0, 1, 0, 1};
        for (int k = 0; k < 5; k++) {
            Check.due("entrant at place " + k, x.entrant(order[k], 0), due[k]);
        }
        Check.due("players of round 1", x.info(8), 3);
        Check.playAll(x);
        for (int k = 0; k < 3; k++) {
            Check.markAll(x, x.stage(k), 50);
        }
        Check.due("close round 1: all go on", x.close(), 3);
    }

    private static void withdraw() {
        PianoRounds x = Check.entrants(4, 3, 1);
        Check.index(x, "withdraw(4)", () -> x.withdraw(4));
        Check.index(x, "withdraw(-1)", () -> x.withdraw(-1));
        Check.due("withdraw(2)", x.withdraw(2), 3);
        Check.state(x, "withdraw(2) again", () -> x.withdraw(2));
        Check.due("state", x.info(3), 0);
        Check.due("begin", x.begin(3), 3);
        Check.state(x, "withdraw(2) in a round", () -> x.withdraw(2));
        x.undo();
        x.undo();
        Check.due("who are in after undo()", x.info(7), 4);
        PianoRounds tied = tied();
        Check.state(tied, "withdraw(0) in a tie round", () -> tied.withdraw(0));
        Check.state(tied, "withdraw(1) in a tie round", () -> tied.withdraw(1));
        PianoRounds over = new PianoRounds();
        over.addEntrant();
        over.begin(0);
        Check.state(over, "withdraw(0) in state 3", () -> over.withdraw(0));
        PianoRounds won = Check.played(1, 3, 1);
        Check.markAll(won, 0, 5);
        won.close();
        Check.state(won, "withdraw of one who is in, in state 3", () -> won.withdraw(0));
    }

    private static void withdrawOfThePlayers() {
        PianoRounds x = Check.entrants(4, 3, 1);
        x.begin(3);
        int[] order = {x.stage(0), x.stage(1), x.stage(2), x.stage(3)};
        x.play(2);
        Check.state(x, "withdraw of one who has played", () -> x.withdraw(order[0]));
        Check.due("withdraw of the third", x.withdraw(order[2]), 3);
        Check.due("players", x.info(8), 3);
        Check.due("the fourth moves up", x.stage(2), order[3]);
        Check.due("its place", x.entrant(order[3], 1), 2);
        Check.due("the one who withdrew has no place", x.entrant(order[2], 1), -1);
        Check.due("the second plays", x.play(0), order[1]);
        Check.due("withdraw of the last", x.withdraw(order[3]), 2);
        Check.due("state: those who have played stay", x.info(3), 1);
        Check.state(x, "play(0) when all have played", () -> x.play(0));
        x.undo();
        Check.due("the fourth is back", x.play(0), order[3]);
        PianoRounds empty = Check.entrants(2, 3, 1);
        empty.begin(0);
        Check.due("withdraw(0)", empty.withdraw(0), 1);
        Check.due("state", empty.info(3), 1);
        Check.due("withdraw(1)", empty.withdraw(1), 0);
        Check.due("state without players", empty.info(3), 3);
        Check.due("players", empty.info(8), 0);
        Check.due("history: not closed", empty.history(0, 0), -1);
    }
}
