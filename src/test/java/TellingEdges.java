/** Edges of what the competition tells of itself: promises 19 to 23. */
final class TellingEdges {
    static void run() {
        Check.each(
                TellingEdges::infoAsForSet,
                TellingEdges::infoOfTheRound,
                TellingEdges::infoOfThoseWhoAreIn,
                TellingEdges::infoOfThePlayers,
                TellingEdges::infoOfThoseWhoHavePlayed,
                TellingEdges::infoOfTheTied,
                TellingEdges::infoOfThePlacesLeft,
                TellingEdges::infoOfTheTieRound,
                TellingEdges::infoRefusesWhat,
                TellingEdges::entrantIsIn,
                TellingEdges::entrantHasAPlace,
                TellingEdges::entrantHasSlips,
                TellingEdges::entrantHasMarksThatCount,
                TellingEdges::entrantHasAScore,
                TellingEdges::entrantIsComplete,
                TellingEdges::entrantIsTied,
                TellingEdges::entrantHasATieScore,
                TellingEdges::entrantRefusesNoEntrant,
                TellingEdges::entrantRefusesWhat,
                TellingEdges::markedOfTheRoundOrTheTieRound,
                TellingEdges::markedByABarredJuror,
                TellingEdges::markedIsAnAbstention,
                TellingEdges::markedIsNone,
                TellingEdges::markedRefusesNoJurorOrEntrant,
                TellingEdges::historyAsSoonAsClosed,
                TellingEdges::historyTakesFourRounds,
                TellingEdges::historyOfNoPlayerOrNoClosedRound,
                TellingEdges::historyRefusesNoEntrantOrRound,
                TellingEdges::stageTakesPlaces,
                TellingEdges::stageIsNone);
    }

    /** Entrant 0 goes on, 1 and 2 are tied for one place, 3 is out; another round follows. */
    private static PianoRounds twoTied() {
        PianoRounds x = Check.rounds(2, 4, 3, 2);
        x.begin(5);
        Check.playAll(x);
        Check.closeWith(x, 90, 50, 50, 10);
        return x;
    }

    /** The tie marks that these two get. */
    private static int closeTie(PianoRounds x, int first, int second) {
        Check.markAll(x, 1, first);
        Check.markAll(x, 2, second);
        return x.close();
    }

    // ---- Promise 19

    private static void infoAsForSet() {
        Doc.edge("Promise 19", "`what`: 0 to 2 as for set(), 3 the state");
        PianoRounds x = Check.rounds(4, 2, 7, 1);
        x.set(2, 100);
        x.begin(0);
        int[] due = {7, 4, 100, 1};
        for (int what = 0; what < 4; what++) {
            Check.due("info(" + what + ")", x.info(what), due[what]);
        }
    }

    private static void infoOfTheRound() {
        Doc.edge("Promise 19", "4 the round (0 in state 0; in state 3 the last one that had begun)");
        PianoRounds x = twoTied();
        Check.due("in a tie round of round 0", x.info(4), 0);
        closeTie(x, 1, 2);
        Check.due("in round 1", x.info(4), 1);
        Check.playAll(x);
        Check.markAll(x, 0, 1);
        Check.markAll(x, 2, 1);
        x.close();
        Check.due("state", x.info(3), 3);
        Check.due("in state 3", x.info(4), 1);
        Check.due("in state 0", Check.rounds(4, 1, 3, 1).info(4), 0);
        PianoRounds none = Check.rounds(4, 0, 3, 1);
        none.begin(0);
        Check.due("in state 3 without players", none.info(4), 0);
    }

    private static void infoOfThoseWhoAreIn() {
        Doc.edge("Promise 19", "5 the number of works, 6 of entrants, 7 of entrants who are in");
        PianoRounds x = new PianoRounds();
        for (int n = 0; n <= 12; n++) {
            Check.due("works", x.info(5), n);
            Check.due("entrants", x.info(6), n);
            Check.due("in", x.info(7), n);
            x.addWork(0, 0, 1);
            if (n < 12) {
                x.addEntrant();
            }
        }
        x.withdraw(3);
        Check.due("entrants, when one is out", x.info(6), 12);
        Check.due("in, when one is out", x.info(7), 11);
        x.begin(0);
        Check.due("in, when all are out", x.info(7), 0);
        Check.due("entrants, when all are out", x.info(6), 12);
    }

    private static void infoOfThePlayers() {
        Doc.edge("Promise 19", "8 of players (of the round; 0 in state 0)");
        PianoRounds x = twoTied();
        Check.due("in a tie round", x.info(8), 4);
        closeTie(x, 1, 2);
        Check.due("in round 1", x.info(8), 2);
        x.withdraw(0);
        Check.due("when one has withdrawn", x.info(8), 1);
        x.withdraw(2);
        Check.due("when all have withdrawn", x.info(8), 0);
        Check.due("in state 0", Check.inState(0).info(8), 0);
        Check.due("in state 3", Check.inState(3).info(8), 3);
    }

    private static void infoOfThoseWhoHavePlayed() {
        Doc.edge("Promise 19", "9 of players who have played");
        PianoRounds x = Check.rounds(2, 12, 3, 12);
        Check.due("in state 0", x.info(9), 0);
        x.begin(0);
        for (int k = 0; k < 12; k++) {
            Check.due("in the round", x.info(9), k);
            x.play(0);
        }
        Check.due("when all have played", x.info(9), 12);
        for (int e = 0; e < 12; e++) {
            Check.markAll(x, e, 1);
        }
        x.close();
        Check.due("in the next round", x.info(9), 0);
        Check.due("in a tie round", Check.inState(2).info(9), 3);
        Check.due("in state 3", Check.inState(3).info(9), 3);
    }

    private static void infoOfTheTied() {
        Doc.edge("Promise 19", "10 of tied ones");
        PianoRounds x = twoTied();
        Check.due("in a tie round", x.info(10), 2);
        x.undo();
        Check.due("in the round again", x.info(10), 0);
        x.close();
        closeTie(x, 1, 2);
        Check.due("in the next round", x.info(10), 0);
        int[] due = {0, 0, 3, 0};
        for (int state = 0; state <= 3; state++) {
            Check.due("in state " + state, Check.inState(state).info(10), due[state]);
        }
    }

    private static void infoOfThePlacesLeft() {
        Doc.edge("Promise 19", "11 the places that are left in a tie round (0 in other states)");
        PianoRounds x = twoTied();
        Check.due("in a tie round", x.info(11), 1);
        closeTie(x, 1, 2);
        Check.due("in the next round", x.info(11), 0);
        int[] due = {0, 0, 1, 0};
        for (int state = 0; state <= 3; state++) {
            Check.due("in state " + state, Check.inState(state).info(11), due[state]);
        }
        PianoRounds most = Check.played(12, 3, 11);
        Check.closeWith(most, 5, 5, 5, 5, 5, 5, 5, 5, 5, 5, 5, 5);
        Check.due("11 places for 12", most.info(11), 11);
    }

    private static void infoOfTheTieRound() {
        Doc.edge("Promise 19", "12 the number of this tie round in its round, from 1 (0 in other states)");
        PianoRounds x = twoTied();
        for (int number = 1; number <= 3; number++) {
            Check.due("number", x.info(12), number);
            Check.due("close()", closeTie(x, 5, 5), number < 3 ? 2 : 1);
        }
        Check.due("in the next round", x.info(12), 0);
        int[] due = {0, 0, 1, 0};
        for (int state = 0; state <= 3; state++) {
            Check.due("in state " + state, Check.inState(state).info(12), due[state]);
        }
    }

    private static void infoRefusesWhat() {
        Doc.edge("Promise 19", "Throws `IllegalArgumentException` if what is not 0 to 12");
        for (int state = 0; state <= 3; state++) {
            PianoRounds x = Check.inState(state);
            for (int what : Check.around(0, 12)) {
                Check.argument(x, "info(" + what + ")", () -> x.info(what));
            }
        }
    }

    // ---- Promise 20

    private static void entrantIsIn() {
        Doc.edge("Promise 20", "0 whether it is in (0 or 1)");
        PianoRounds x = twoTied();
        int[] due = {1, 1, 1, 0};
        for (int e = 0; e < 4; e++) {
            Check.due("entrant " + e, x.entrant(e, 0), due[e]);
        }
    }

    private static void entrantHasAPlace() {
        Doc.edge("Promise 20", "1 its place in the stage order of the round, from 0 (NONE if it is no player)");
        PianoRounds x = Check.entrants(12, 3, 1);
        Check.due("before the round", x.entrant(0, 1), -1);
        x.clearProgram(7, 0);
        x.begin(3);
        for (int k = 0; k < 11; k++) {
            Check.due("place " + k, x.entrant(x.stage(k), 1), k);
        }
        Check.due("place of one with a flaw", x.entrant(7, 1), -1);
        int last = x.stage(10);
        x.withdraw(last);
        Check.due("place of one who withdrew", x.entrant(last, 1), -1);
    }

    private static void entrantHasSlips() {
        Doc.edge("Promise 20", "2 its slips in the round (NONE if it has not played)");
        PianoRounds x = Check.rounds(2, 1, 3, 1);
        Check.due("before the round", x.entrant(0, 2), -1);
        x.begin(0);
        Check.due("before the playing", x.entrant(0, 2), -1);
        x.play(0);
        Check.due("no slips", x.entrant(0, 2), 0);
        x.undo();
        x.play(20);
        Check.due("20 slips", x.entrant(0, 2), 20);
        Check.closeWith(x, 50);
        Check.due("in the next round", x.entrant(0, 2), -1);
    }

    private static void entrantHasMarksThatCount() {
        Doc.edge("Promise 20", "3 how many marks that count it has (in a tie round: of this, 0 if it is not tied)");
        PianoRounds x = twoTied();
        for (int e = 0; e < 4; e++) {
            Check.due("marks of " + e + " at first", x.entrant(e, 3), 0);
        }
        Check.marks(x, 1, 0, 1);
        x.abstain(2, 1);
        Check.due("tie marks", x.entrant(1, 3), 2);
        x.bar(0, 1, true);
        Check.due("tie marks of those not barred", x.entrant(1, 3), 1);
        Check.due("of one who is not tied", x.entrant(0, 3), 0);
        x.undo();
        x.mark(2, 1, 5);
        Check.markAll(x, 2, 1);
        x.close();
        Check.due("in the next round", x.entrant(1, 3), 0);
        PianoRounds over = Check.played(2, 3, 1);
        Check.closeWith(over, 50, 50);
        Check.closeWith(over, 5, 6);
        Check.due("in state 3: those of the round", over.entrant(0, 3), 3);
    }

    private static void entrantHasAScore() {
        Doc.edge("Promise 20", "4 its score in the round (NONE without such marks)");
        PianoRounds x = Check.entrants(1, 3, 1);
        Check.due("before the round", x.entrant(0, 4), -1);
        x.begin(0);
        x.play(0);
        Check.due("without marks", x.entrant(0, 4), -1);
        x.mark(1, 0, 0);
        Check.due("with a mark of 0", x.entrant(0, 4), 0);
        x.bar(1, 0, true);
        Check.due("when that is barred", x.entrant(0, 4), -1);
        x.abstain(0, 0);
        Check.due("with an abstention", x.entrant(0, 4), -1);
        PianoRounds tie = twoTied();
        Check.due("in a tie round: that of the round", tie.entrant(1, 4), 50000);
        tie.mark(0, 1, 3);
        Check.due("with a tie mark, too", tie.entrant(1, 4), 50000);
        Check.due("of one who is out", tie.entrant(3, 4), 10000);
    }

    private static void entrantIsComplete() {
        Doc.edge("Promise 20", "5 whether its performance in the round is complete (0 or 1)");
        PianoRounds x = Check.entrants(1, 3, 1);
        Check.due("before the round", x.entrant(0, 5), 0);
        x.begin(0);
        Check.due("before the playing", x.entrant(0, 5), 0);
        x.play(0);
        Check.marks(x, 0, 0, 0);
        Check.due("before the last mark", x.entrant(0, 5), 0);
        x.mark(2, 0, 0);
        Check.due("with the last mark", x.entrant(0, 5), 1);
        int[] due = {0, 0, 1, 1};
        for (int state = 0; state <= 3; state++) {
            Check.due("in state " + state, Check.inState(state).entrant(0, 5), due[state]);
        }
    }

    private static void entrantIsTied() {
        Doc.edge("Promise 20", "6 whether it is tied (0 or 1)");
        PianoRounds x = twoTied();
        int[] due = {0, 1, 1, 0};
        for (int e = 0; e < 4; e++) {
            Check.due("entrant " + e, x.entrant(e, 6), due[e]);
        }
        closeTie(x, 1, 2);
        for (int e = 0; e < 4; e++) {
            Check.due("entrant " + e + " in the next round", x.entrant(e, 6), 0);
        }
        PianoRounds most = Check.played(12, 3, 1);
        Check.markPlayers(most, 50);
        most.close();
        Check.same("all twelve", Check.verdicts(most), "tttttttttttt");
    }

    private static void entrantHasATieScore() {
        Doc.edge("Promise 20", "7 its tie score in this tie round (NONE without marks that count, or if it is not tied)");
        PianoRounds x = twoTied();
        for (int e = 0; e < 4; e++) {
            Check.due("entrant " + e + " at first", x.entrant(e, 7), -1);
        }
        x.abstain(0, 1);
        Check.due("with an abstention", x.entrant(1, 7), -1);
        x.mark(0, 1, 0);
        Check.due("with a mark of 0", x.entrant(1, 7), 0);
        x.bar(0, 1, true);
        Check.due("when that is barred", x.entrant(1, 7), -1);
        x.bar(0, 1, false);
        closeTie(x, 5, 5);
        Check.due("in the second tie round", x.entrant(1, 7), -1);
        closeTie(x, 5, 6);
        Check.due("in the next round", x.entrant(2, 7), -1);
        Check.due("in state 3", Check.inState(3).entrant(0, 7), -1);
    }

    private static void entrantRefusesNoEntrant() {
        Doc.edge("Promise 20", "Throws `IndexOutOfBoundsException` if there is no such entrant");
        for (int state = 0; state <= 3; state++) {
            PianoRounds x = Check.inState(state);
            for (int entrant : Check.around(0, 2)) {
                Check.index(x, "entrant(" + entrant + ", 0) of three", () -> x.entrant(entrant, 0));
            }
        }
    }

    private static void entrantRefusesWhat() {
        Doc.edge("Promise 20", "Throws `IllegalArgumentException` if what is not 0 to 7");
        PianoRounds x = Check.inState(0);
        for (int what : Check.around(0, 7)) {
            Check.argument(x, "entrant(2, " + what + ")", () -> x.entrant(2, what));
        }
    }

    // ---- Promise 21

    private static void markedOfTheRoundOrTheTieRound() {
        Doc.edge("Promise 21", "`tie`: true for a mark of this tie round, false for one of the round");
        PianoRounds x = twoTied();
        x.mark(2, 1, 0);
        Check.due("of the tie round", x.marked(2, 1, true), 0);
        Check.due("of the round", x.marked(2, 1, false), 50);
        Check.due("of the round, of one who is not tied", x.marked(2, 3, false), 10);
    }

    private static void markedByABarredJuror() {
        Doc.edge("Promise 21", "Returns the mark (also if the juror is barred now)");
        PianoRounds x = twoTied();
        x.mark(0, 1, 10);
        x.bar(0, 1, true);
        Check.due("of the tie round", x.marked(0, 1, true), 10);
        Check.due("of the round", x.marked(0, 1, false), 50);
    }

    private static void markedIsAnAbstention() {
        Doc.edge("Promise 21", "-2 for an abstention");
        PianoRounds x = Check.inState(1);
        x.abstain(2, 2);
        Check.due("in the round", x.marked(2, 2, false), -2);
        x.bar(2, 2, true);
        Check.due("when the juror is barred", x.marked(2, 2, false), -2);
        PianoRounds tie = Check.inState(2);
        tie.abstain(2, 2);
        Check.due("in a tie round", tie.marked(2, 2, true), -2);
    }

    private static void markedIsNone() {
        Doc.edge("Promise 21", "NONE if there is neither, or none for this tie round.");
        for (int state = 0; state <= 3; state++) {
            PianoRounds x = Check.inState(state);
            Check.due("of a tie round, in state " + state, x.marked(0, 0, true), -1);
            Check.due("of the round, in state " + state, x.marked(0, 0, false), state < 2 ? -1 : 50);
        }
        PianoRounds x = twoTied();
        closeTie(x, 5, 5);
        Check.due("in the second tie round", x.marked(0, 1, true), -1);
        closeTie(x, 5, 6);
        Check.due("of a tie round, in the next round", x.marked(0, 2, true), -1);
        Check.due("of the round, in the next round", x.marked(0, 2, false), -1);
        PianoRounds over = Check.played(2, 3, 1);
        Check.closeWith(over, 50, 50);
        Check.closeWith(over, 5, 6);
        Check.due("of a tie round, in state 3 behind it", over.marked(0, 1, true), -1);
    }

    private static void markedRefusesNoJurorOrEntrant() {
        Doc.edge("Promise 21", "Throws `IndexOutOfBoundsException` if there is no such juror or entrant");
        PianoRounds x = Check.inState(2);
        for (int none : Check.around(0, 2)) {
            Check.index(x, "marked(" + none + ", 0, false)", () -> x.marked(none, 0, false));
            Check.index(x, "marked(0, " + none + ", false)", () -> x.marked(0, none, false));
            Check.index(x, "marked(" + none + ", 0, true)", () -> x.marked(none, 0, true));
            Check.index(x, "marked(0, " + none + ", true)", () -> x.marked(0, none, true));
        }
    }

    // ---- Promise 22

    private static void historyAsSoonAsClosed() {
        Doc.edge("Promise 22", "Returns the score that an entrant had when a round was closed "
                + "(as soon as it is closed, also if a tie round follows).");
        PianoRounds x = Check.inState(1);
        Check.markEach(x, 0, 50, 50);
        Check.due("before the closing", x.history(1, 0), -1);
        x.close();
        Check.due("when all are decided: score 0", x.history(0, 0), 0);
        PianoRounds tie = Check.inState(2);
        Check.due("in a tie round", tie.history(2, 0), 50000);
        Check.closeWith(tie, 1, 2, 3);
        Check.due("after the tie round", tie.history(2, 0), 50000);
        for (int j = 0; j < 3; j++) {
            tie.bar(j, 2, true);
        }
        Check.due("the score then", tie.entrant(2, 4), -1);
        Check.due("the score that it had", tie.history(2, 0), 50000);
    }

    private static void historyTakesFourRounds() {
        Doc.edge("Promise 22", "`round`: a round, 0 to 3");
        PianoRounds x = Check.rounds(4, 2, 3, 2);
        x.begin(0);
        for (int round = 0; round < 4; round++) {
            Check.playAll(x);
            Check.closeWith(x, round, 100 - round);
        }
        for (int round = 0; round < 4; round++) {
            Check.due("history(0, " + round + ")", x.history(0, round), round * 1000);
            Check.due("history(1, " + round + ")", x.history(1, round), 100000 - round * 1000);
        }
    }

    private static void historyOfNoPlayerOrNoClosedRound() {
        Doc.edge("Promise 22", "NONE if it was no player of this round, or that has not been closed.");
        PianoRounds x = Check.rounds(3, 4, 3, 1);
        x.withdraw(0);
        x.clearProgram(1, 0);
        x.begin(0);
        int second = x.stage(1);
        x.withdraw(second);
        Check.playAll(x);
        int winner = x.stage(0);
        Check.markAll(x, winner, 70);
        x.close();
        Check.due("of one who withdrew before", x.history(0, 0), -1);
        Check.due("of one who had a flaw", x.history(1, 0), -1);
        Check.due("of one who withdrew in the round", x.history(second, 0), -1);
        Check.due("of the player", x.history(winner, 0), 70000);
        Check.due("of round 1, not closed yet", x.history(winner, 1), -1);
        x.withdraw(winner);
        Check.due("state", x.info(3), 3);
        Check.due("of round 1, never closed", x.history(winner, 1), -1);
        Check.due("of round 2", x.history(winner, 2), -1);
        Check.due("of round 3", x.history(winner, 3), -1);
        Check.due("of round 0 still", x.history(winner, 0), 70000);
    }

    private static void historyRefusesNoEntrantOrRound() {
        Doc.edge("Promise 22", "Throws `IndexOutOfBoundsException` if there is no such entrant or round");
        PianoRounds x = Check.inState(3);
        for (int entrant : Check.around(0, 2)) {
            Check.index(x, "history(" + entrant + ", 0) of three", () -> x.history(entrant, 0));
        }
        for (int round : Check.around(0, 3)) {
            Check.index(x, "history(0, " + round + ")", () -> x.history(0, round));
        }
    }

    // ---- Promise 23

    private static void stageTakesPlaces() {
        Doc.edge("Promise 23", "`k`: the place, from 0");
        PianoRounds x = Check.entrants(12, 3, 12);
        x.begin(1);
        boolean[] seen = new boolean[12];
        for (int k = 0; k < 12; k++) {
            int player = x.stage(k);
            Check.due("whether the player at " + k + " is a new one", seen[player] ? 0 : 1, 1);
            Check.due("place of this player", x.entrant(player, 1), k);
            seen[player] = true;
        }
        for (int state = 1; state <= 3; state++) {
            PianoRounds y = Check.inState(state);
            Check.due("place of stage(2) in state " + state, y.entrant(y.stage(2), 1), 2);
        }
    }

    private static void stageIsNone() {
        Doc.edge("Promise 23", "NONE if there is none (also if k is negative).");
        PianoRounds x = Check.entrants(12, 3, 12);
        Check.due("before the round", x.stage(0), -1);
        x.begin(0);
        for (int k : Check.around(0, 11)) {
            Check.due("stage(" + k + ") of twelve", x.stage(k), -1);
        }
        int last = x.stage(11);
        Check.due("place of the last one", x.entrant(last, 1), 11);
        x.withdraw(last);
        Check.due("stage(11) when that one withdraws", x.stage(11), -1);
        PianoRounds none = new PianoRounds();
        none.begin(0);
        Check.due("without players", none.stage(0), -1);
    }
}
