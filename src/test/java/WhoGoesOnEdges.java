/** Edges of closing, of who goes on, and of tie rounds: that part of "Description", and promise 17. */
final class WhoGoesOnEdges {
    private static final String PART = "WHO GOES ON";

    static void run() {
        Check.each(
                WhoGoesOnEdges::roundNeedsAllPerformances,
                WhoGoesOnEdges::eachRoundHasItsPlaces,
                WhoGoesOnEdges::atMostAsManyPlayersAsPlaces,
                WhoGoesOnEdges::greaterScoresGoOn,
                WhoGoesOnEdges::lastScoreThatFits,
                WhoGoesOnEdges::lastScoreThatDoesNotFit,
                WhoGoesOnEdges::smallerScoresAreOut,
                WhoGoesOnEdges::tieMarks,
                WhoGoesOnEdges::tieNeedsEachJuror,
                WhoGoesOnEdges::tieNeedsHalfOfTheMarks,
                WhoGoesOnEdges::tieScoresAreMeans,
                WhoGoesOnEdges::tieScoresDecideAsInARound,
                WhoGoesOnEdges::nextTieRoundBeginsAnew,
                WhoGoesOnEdges::thirdTieRoundGoesByTheStageOrder,
                WhoGoesOnEdges::thirdTieRoundGoesByScoresFirst,
                WhoGoesOnEdges::eachRoundHasThreeTieRounds,
                WhoGoesOnEdges::nextRoundBegins,
                WhoGoesOnEdges::lastRoundIsOver,
                WhoGoesOnEdges::closeTellsTheState,
                WhoGoesOnEdges::closeRefusesInOtherStates,
                WhoGoesOnEdges::closeRefusesTooEarly);
    }

    /** Round 0 is closed with these marks of all three jurors. */
    private static PianoRounds closed(int places, int... marks) {
        PianoRounds x = Check.played(marks.length, 3, places);
        Check.closeWith(x, marks);
        return x;
    }

    private static void verdicts(String want, int places, int... marks) {
        Check.same("in, tied or out", Check.verdicts(closed(places, marks)), want);
    }

    private static void tie(PianoRounds x, int tied, int placesLeft, int number) {
        Check.due("state", x.info(3), 2);
        Check.due("tied ones", x.info(10), tied);
        Check.due("places left", x.info(11), placesLeft);
        Check.due("number of the tie round", x.info(12), number);
    }

    // ---- Description

    private static void roundNeedsAllPerformances() {
        Doc.edge(PART, "A round can be closed if the performances of all players are complete.");
        PianoRounds x = Check.entrants(3, 3, 12);
        x.begin(0);
        int last = x.stage(2);
        for (int k = 0; k < 2; k++) {
            Check.markAll(x, x.play(0), 50);
        }
        Check.state(x, "close() before the last one plays", () -> x.close());
        x.play(0);
        Check.marks(x, last, 50, 50);
        Check.state(x, "close() before the last mark", () -> x.close());
        x.mark(2, last, 50);
        Check.due("close()", x.close(), 3);
        x.undo();
        int first = x.stage(0);
        x.bar(0, first, true);
        x.bar(1, first, true);
        Check.state(x, "close() when the first is not complete any more", () -> x.close());
        x.bar(1, first, false);
        Check.due("close() then", x.close(), 3);
    }

    private static void eachRoundHasItsPlaces() {
        Doc.edge(PART, "Let p be the places of the round.");
        PianoRounds x = Check.rounds(4, 5, 3, 12);
        for (int round = 0; round < 4; round++) {
            x.setRule(round, 5, 4 - round);
        }
        x.begin(0);
        for (int round = 0; round < 4; round++) {
            Check.due("players of round " + round, x.info(8), 5 - round);
            Check.playAll(x);
            for (int e = 0; e < 5 - round; e++) {
                Check.markAll(x, e, 50 - e);
            }
            x.close();
        }
        Check.same("in, tied or out", Check.verdicts(x), "ioooo");
    }

    private static void atMostAsManyPlayersAsPlaces() {
        Doc.edge(PART, "If there are at most p players, all go on.");
        verdicts("iii", 3, 0, 0, 0);
        verdicts("iii", 3, 90, 0, 50);
        verdicts("ii", 3, 0, 100);
        verdicts("i", 1, 0);
        verdicts("iiiiiiiiiiii", 12, 0, 1, 2, 3, 4, 5, 6, 7, 8, 9, 10, 10);
        verdicts("oiii", 3, 0, 1, 2, 3);
    }

    private static void greaterScoresGoOn() {
        Doc.edge(PART, "Otherwise let s be the p-th score, if the scores of all players are put in descending order: "
                + "the players with greater scores go on");
        verdicts("oioi", 2, 10, 90, 50, 70);
        verdicts("ooi", 1, 1, 2, 3);
        verdicts("iio", 2, 100, 1, 0);
        verdicts("iiiiiiiiiiio", 11, 12, 11, 10, 9, 8, 7, 6, 5, 4, 3, 2, 1);
        verdicts("titt", 2, 50, 90, 50, 50);
    }

    private static void lastScoreThatFits() {
        Doc.edge(PART, "those with the score s go on, if they are, together with them, at most p");
        verdicts("iiio", 3, 90, 50, 50, 10);
        verdicts("iio", 2, 50, 50, 10);
        verdicts("iiio", 3, 50, 50, 50, 49);
        verdicts("oi", 1, 0, 1);
    }

    private static void lastScoreThatDoesNotFit() {
        Doc.edge(PART, "otherwise they are the tied ones, and a tie round begins, for the places that are left");
        tie(closed(1, 50, 50), 2, 1, 1);
        tie(closed(3, 0, 0, 0, 0), 4, 3, 1);
        tie(closed(3, 90, 80, 50, 50), 2, 1, 1);
        tie(closed(11, 5, 5, 5, 5, 5, 5, 5, 5, 5, 5, 5, 5), 12, 11, 1);
        PianoRounds x = closed(3, 90, 50, 50, 50, 10);
        tie(x, 3, 2, 1);
        Check.same("in, tied or out", Check.verdicts(x), "ittto");
        Check.due("tied ones are in", x.entrant(1, 0), 1);
    }

    private static void smallerScoresAreOut() {
        Doc.edge(PART, "Players with smaller scores are out.");
        verdicts("itto", 2, 90, 50, 50, 49);
        verdicts("oioo", 1, 99, 100, 0, 1);
        PianoRounds x = closed(1, 50, 50, 49, 0);
        Check.due("entrants who are in", x.info(7), 2);
        Check.due("entrant 2 is in", x.entrant(2, 0), 0);
    }

    private static void tieMarks() {
        Doc.edge(PART, "In a tie round each juror who is not barred can mark each tied one with 0 to 10, or abstain.");
        PianoRounds x = closed(2, 90, 50, 50, 10);
        for (int j = 0; j < 3; j++) {
            Check.due("mark 0", x.mark(j, 1, 0), j + 1);
            Check.due("mark 10", x.mark(j, 2, 10), j + 1);
        }
        Check.argument(x, "mark 11", () -> x.mark(0, 1, 11));
        Check.argument(x, "mark -1", () -> x.mark(0, 1, -1));
        Check.due("abstain", x.abstain(2, 2), 2);
        Check.state(x, "mark of one who is not tied", () -> x.mark(0, 0, 5));
        x.bar(0, 1, true);
        Check.state(x, "mark of a barred juror", () -> x.mark(0, 1, 5));
        Check.state(x, "abstention of a barred juror", () -> x.abstain(0, 1));
        Check.due("of the other tied one", x.mark(0, 2, 5), 2);
    }

    private static void tieNeedsEachJuror() {
        Doc.edge(PART, "It can be closed if each juror has marked, abstained or is barred, for each tied one");
        PianoRounds x = closed(2, 90, 50, 50, 10);
        Check.markAll(x, 1, 5);
        Check.marks(x, 2, 4, 4);
        Check.state(x, "close() without the last juror", () -> x.close());
        x.bar(2, 2, true);
        Check.due("close() when the last one is barred", x.close(), 3);
        x.undo();
        x.bar(2, 2, false);
        Check.state(x, "close() when the bar has ended", () -> x.close());
        x.abstain(2, 2);
        Check.due("close() when the last one abstains", x.close(), 3);
        x.undo();
        x.mark(2, 2, 0);
        Check.due("close() when the last one marks", x.close(), 3);
        Check.same("in, tied or out", Check.verdicts(x), "iioo");
        x.undo();
        for (int j = 0; j < 3; j++) {
            x.bar(j, 0, true);
        }
        Check.due("the performance of one who is not tied", x.entrant(0, 5), 0);
        Check.due("close() all the same", x.close(), 3);
    }

    private static void tieNeedsHalfOfTheMarks() {
        Doc.edge(PART, "at least (J + 1) / 2 jurors who are not barred have marked each of them");
        int[] least = {2, 2, 3, 3, 4};
        for (int jurors = 3; jurors <= 7; jurors++) {
            int marks = least[jurors - 3];
            PianoRounds x = Check.played(2, jurors, 1);
            Check.closeWith(x, 50, 50);
            Check.markAll(x, 0, 5);
            Check.markAndAbstain(x, 1, marks - 1, 7);
            Check.state(x, "close() with " + (marks - 1) + " marks of " + jurors, () -> x.close());
            x.mark(jurors - 1, 1, 7);
            x.bar(0, 1, true);
            Check.state(x, "close() when one of them is barred", () -> x.close());
            x.bar(0, 1, false);
            Check.due("close() with " + marks + " marks of " + jurors, x.close(), 3);
            Check.same("in, tied or out", Check.verdicts(x), "oi");
        }
    }

    private static void tieScoresAreMeans() {
        Doc.edge(PART, "The tie score is the mean of these marks, found as above.");
        int[][] marks = {{0}, {10}, {0, 0, 1}, {10, 10, 9}, {0, 10, 4, 5}, {3, 3, 9, 9}, {0, 1, 1, 2, 2, 3, 9},
            {0, 0, 0, 0}};
        int[] due = {0, 10000, 333, 9666, 4500, 6000, 1800, 0};
        for (int i = 0; i < marks.length; i++) {
            PianoRounds x = Check.entrants(2, 7, 1);
            x.begin(0);
            x.play(20);
            x.play(20);
            Check.closeWith(x, 50, 50);
            Check.due("tie score without marks", x.entrant(0, 7), -1);
            Check.marks(x, 0, marks[i]);
            Check.due("tie score of marks " + i, x.entrant(0, 7), due[i]);
        }
    }

    private static void tieScoresDecideAsInARound() {
        Doc.edge(PART, "By the tie scores those go on, go out, or stay tied, for the places that are left, "
                + "in the same way as in a round");
        int[][] marks = {{8, 6, 6, 5}, {8, 8, 6, 5}, {6, 6, 5, 0}, {8, 6, 6, 6}, {6, 6, 6, 5}, {5, 6, 7, 8}, {0, 0, 0, 0}};
        String[] due = {"iittoo", "iiiooo", "iiiooo", "iittto", "itttoo", "iooiio", "itttto"};
        int[] left = {1, 0, 0, 1, 2, 0, 2};
        for (int i = 0; i < marks.length; i++) {
            PianoRounds x = closed(3, 90, 50, 50, 50, 50, 10);
            for (int e = 1; e <= 4; e++) {
                Check.markAll(x, e, marks[i][e - 1]);
            }
            Check.due("close()", x.close(), left[i] > 0 ? 2 : 3);
            Check.same("in, tied or out, by marks " + i, Check.verdicts(x), due[i]);
            Check.due("places left, by marks " + i, x.info(11), left[i]);
        }
    }

    private static void nextTieRoundBeginsAnew() {
        Doc.edge(PART, "if some stay tied, another tie round begins with them alone, without marks");
        PianoRounds x = closed(2, 50, 50, 50, 50);
        Check.markEach(x, 9, 5, 5);
        Check.marks(x, 3, 4, 4);
        x.abstain(2, 3);
        x.bar(2, 1, true);
        x.close();
        tie(x, 2, 1, 2);
        Check.same("in, tied or out", Check.verdicts(x), "itto");
        for (int e = 0; e < 4; e++) {
            for (int j = 0; j < 3; j++) {
                Check.due("tie mark of " + j + " for " + e, x.marked(j, e, true), -1);
            }
            Check.due("tie marks of " + e, x.entrant(e, 3), 0);
            Check.due("tie score of " + e, x.entrant(e, 7), -1);
        }
        Check.state(x, "close() without marks", () -> x.close());
        Check.state(x, "mark of one who was tied and goes on", () -> x.mark(0, 0, 1));
        Check.state(x, "mark of one who was tied and is out", () -> x.mark(0, 3, 1));
        Check.due("mark of a tied one", x.mark(0, 1, 1), 1);
    }

    /** Five players in the stage order 0 2 4 3 1, all tied for these places in the third tie round. */
    private static PianoRounds thirdTieRound(int places) {
        PianoRounds x = Check.entrants(5, 3, places);
        x.begin(123456789);
        Check.same("stage order", Check.order(x), "0 2 4 3 1");
        Check.playAll(x);
        Check.closeWith(x, 50, 50, 50, 50, 50);
        for (int number = 1; number < 3; number++) {
            tie(x, 5, places, number);
            Check.due("close()", Check.closeWith(x, 5, 5, 5, 5, 5), 2);
        }
        tie(x, 5, places, 3);
        return x;
    }

    private static void thirdTieRoundGoesByTheStageOrder() {
        Doc.edge(PART, "But in the third tie round of a round nobody stays tied: of those who would, the ones who come "
                + "first in the stage order go on, as many as there are places left, and the others are out.");
        String[] due = {"ioooo", "ioioo", "ioioi", "ioiii"};
        for (int places = 1; places <= 4; places++) {
            PianoRounds x = thirdTieRound(places);
            Check.due("close() of the third", Check.closeWith(x, 5, 5, 5, 5, 5), 3);
            Check.same("in, tied or out", Check.verdicts(x), due[places - 1]);
        }
    }

    private static void thirdTieRoundGoesByScoresFirst() {
        Doc.edge(PART, "of those who would, the ones who come first in the stage order go on");
        int[][] marks = {{5, 9, 5, 5, 1}, {5, 9, 5, 9, 5}, {1, 2, 3, 4, 5}, {1, 7, 1, 1, 7}, {0, 0, 0, 0, 1}};
        String[] due = {"iiooo", "oioio", "ooiii", "oiooi", "ioooi"};
        int[] places = {2, 2, 3, 2, 2};
        for (int i = 0; i < marks.length; i++) {
            PianoRounds x = thirdTieRound(places[i]);
            Check.due("close() of the third, by marks " + i, Check.closeWith(x, marks[i]), 3);
            Check.same("in, tied or out, by marks " + i, Check.verdicts(x), due[i]);
        }
    }

    private static void eachRoundHasThreeTieRounds() {
        Doc.edge(PART, "in the third tie round of a round nobody stays tied");
        PianoRounds x = Check.rounds(2, 3, 3, 2);
        x.setRule(1, 5, 1);
        x.begin(1);
        for (int round = 0; round < 2; round++) {
            Check.due("round", x.info(4), round);
            Check.playAll(x);
            Check.markPlayers(x, 50);
            Check.due("close()", x.close(), 2);
            for (int number = 1; number <= 3; number++) {
                tie(x, 3 - round, 2 - round, number);
                Check.markPlayers(x, 5);
                Check.due("close() of tie round " + number, x.close(), number < 3 ? 2 : round == 0 ? 1 : 3);
            }
        }
    }

    private static void nextRoundBegins() {
        Doc.edge(PART, "When all is decided, the next round begins, if there is one");
        PianoRounds x = Check.rounds(3, 3, 3, 2);
        x.begin(0);
        Check.playAll(x);
        Check.due("close() without a tie", Check.closeWith(x, 90, 80, 70), 1);
        Check.due("round", x.info(4), 1);
        Check.due("players", x.info(8), 2);
        Check.due("players who have played", x.info(9), 0);
        for (int e = 0; e < 3; e++) {
            Check.due("slips", x.entrant(e, 2), -1);
            Check.due("a mark", x.marked(0, e, false), -1);
            Check.due("complete", x.entrant(e, 5), 0);
        }
        PianoRounds y = Check.rounds(2, 2, 3, 1);
        y.begin(0);
        Check.playAll(y);
        Check.closeWith(y, 50, 50);
        Check.due("close() of a tie round", Check.closeWith(y, 3, 4), 1);
        Check.due("round", y.info(4), 1);
        Check.due("tied ones", y.info(10), 0);
        Check.due("places left", y.info(11), 0);
        Check.due("number of the tie round", y.info(12), 0);
        Check.due("a tie mark", y.marked(0, 1, true), -1);
    }

    private static void lastRoundIsOver() {
        Doc.edge(PART, "otherwise the competition is over, and those who go on are still in");
        PianoRounds x = closed(2, 10, 90, 80);
        Check.due("state", x.info(3), 3);
        Check.same("in, tied or out", Check.verdicts(x), "oii");
        PianoRounds y = closed(2, 50, 90, 50);
        Check.markAll(y, 0, 1);
        Check.markAll(y, 2, 0);
        Check.due("close() of a tie round", y.close(), 3);
        Check.same("in, tied or out", Check.verdicts(y), "iio");
        Check.due("tied ones", y.info(10), 0);
        PianoRounds last = Check.rounds(4, 1, 3, 1);
        last.begin(0);
        for (int round = 0; round < 4; round++) {
            Check.due("round", last.info(4), round);
            Check.playAll(last);
            Check.due("close()", Check.closeWith(last, 0), round < 3 ? 1 : 3);
        }
        Check.due("the winner is in", last.entrant(0, 0), 1);
    }

    // ---- Promise 17

    private static void closeTellsTheState() {
        Doc.edge("Promise 17", "Returns the state then.");
        PianoRounds x = Check.rounds(2, 2, 3, 1);
        x.begin(0);
        Check.playAll(x);
        Check.due("to a tie round", Check.closeWith(x, 50, 50), 2);
        Check.due("to another tie round", Check.closeWith(x, 5, 5), 2);
        Check.due("to the next round", Check.closeWith(x, 5, 6), 1);
        Check.playAll(x);
        Check.markAll(x, 1, 0);
        Check.due("to the end", x.close(), 3);
        x.undo();
        Check.due("state after undo()", x.info(3), 1);
    }

    private static void closeRefusesInOtherStates() {
        Doc.edge("Promise 17", "Throws `IllegalStateException` if the state is neither 1 nor 2");
        for (int state : new int[] {0, 3}) {
            PianoRounds x = Check.inState(state);
            Check.state(x, "close() in state " + state, () -> x.close());
        }
        PianoRounds none = new PianoRounds();
        Check.state(none, "close() of a new object", () -> none.close());
        none.begin(0);
        Check.state(none, "close() when over without players", () -> none.close());
    }

    private static void closeRefusesTooEarly() {
        Doc.edge("Promise 17", "or it cannot be closed yet");
        PianoRounds x = Check.entrants(2, 3, 1);
        x.begin(0);
        Check.state(x, "close() before the playing", () -> x.close());
        Check.playAll(x);
        Check.state(x, "close() before the marks", () -> x.close());
        Check.markAll(x, 0, 50);
        Check.state(x, "close() before the marks of the other one", () -> x.close());
        Check.due("close()", Check.closeWith(x, 50, 50), 2);
        Check.state(x, "close() before the tie marks", () -> x.close());
        Check.markAll(x, 0, 5);
        Check.state(x, "close() before the tie marks of the other one", () -> x.close());
        Check.due("close() of the tie round", Check.closeWith(x, 5, 4), 3);
    }
}
