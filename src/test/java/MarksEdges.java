/** Edges of marks, means and scores: that part of "Description", and promises 15 and 16. */
final class MarksEdges {
    private static final String PART = "MARKS";

    static void run() {
        Check.each(
                MarksEdges::playersPlayInTheStageOrder,
                MarksEdges::jurorsMarkThoseWhoHavePlayed,
                MarksEdges::laterMarksTakeThePlace,
                MarksEdges::completeWhenEachJurorIsDone,
                MarksEdges::completeWithHalfOfTheMarks,
                MarksEdges::neverCompleteWithTooManyBars,
                MarksEdges::onlyMarksOfThoseNotBarredCount,
                MarksEdges::stateThreeTellsTheLastRound,
                MarksEdges::stateThreeTellsARoundWithoutPlayers,
                MarksEdges::penaltyCountsAsItIsNow,
                MarksEdges::outerMarksAreLeftOutOfFour,
                MarksEdges::meansAreRoundedDown,
                MarksEdges::scoresAreAtLeastZero,
                MarksEdges::penaltyIsZeroToHundred,
                MarksEdges::markTakesMarks,
                MarksEdges::markTellsHowManyCount,
                MarksEdges::markRefusesNoJurorOrEntrant,
                MarksEdges::markRefusesMarks,
                MarksEdges::markRefusesInOtherStates,
                MarksEdges::markRefusesOthersThanPlayers,
                MarksEdges::markRefusesOthersThanTiedOnes,
                MarksEdges::abstainTellsHowManyCount,
                MarksEdges::abstainRefusesNoJurorOrEntrant,
                MarksEdges::abstainRefusesAsMark);
    }

    /** One player who has played with these slips, and so many jurors. */
    private static PianoRounds one(int jurors, int slips) {
        PianoRounds x = Check.entrants(1, jurors, 1);
        x.begin(0);
        x.play(slips);
        return x;
    }

    // ---- Description

    private static void playersPlayInTheStageOrder() {
        Doc.edge(PART, "In a round the players play one after the other in the stage order, with slips (0 to 20).");
        PianoRounds x = Check.entrants(12, 3, 12);
        x.begin(4711);
        for (int k = 0; k < 12; k++) {
            int player = x.stage(k);
            Check.due("slips before", x.entrant(player, 2), -1);
            Check.due("player", x.play(k == 0 ? 20 : 0), player);
            Check.due("slips", x.entrant(player, 2), k == 0 ? 20 : 0);
            Check.due("players who have played", x.info(9), k + 1);
        }
        Check.state(x, "a 13th player", () -> x.play(0));
    }

    private static void jurorsMarkThoseWhoHavePlayed() {
        Doc.edge(PART, "A juror who is not barred from a player can mark one who has played, with 0 to 100, or abstain");
        PianoRounds x = Check.entrants(2, 3, 2);
        x.begin(1);
        int first = x.play(0);
        int second = x.stage(1);
        Check.due("mark 0", x.mark(0, first, 0), 1);
        Check.due("mark 100", x.mark(1, first, 100), 2);
        Check.due("abstain", x.abstain(2, first), 2);
        Check.argument(x, "mark -1", () -> x.mark(0, first, -1));
        Check.argument(x, "mark 101", () -> x.mark(0, first, 101));
        Check.state(x, "mark of one who has not played", () -> x.mark(0, second, 1));
        x.bar(0, first, true);
        Check.state(x, "mark of one who is barred", () -> x.mark(0, first, 1));
        x.play(0);
        Check.due("the same juror marks the other player", x.mark(0, second, 1), 1);
    }

    private static void laterMarksTakeThePlace() {
        Doc.edge(PART, "a later mark or abstention takes the place of an earlier one");
        PianoRounds x = one(3, 0);
        x.mark(0, 0, 100);
        Check.due("a mark for a mark", x.mark(0, 0, 0), 1);
        Check.due("the mark", x.marked(0, 0, false), 0);
        Check.due("an abstention for a mark", x.abstain(0, 0), 0);
        Check.due("the abstention", x.marked(0, 0, false), -2);
        Check.due("an abstention for an abstention", x.abstain(0, 0), 0);
        Check.due("a mark for an abstention", x.mark(0, 0, 7), 1);
        Check.due("the last mark", x.marked(0, 0, false), 7);
        Check.due("score", x.entrant(0, 4), 7000);
    }

    private static void completeWhenEachJurorIsDone() {
        Doc.edge(PART, "The performance of a player is complete if the player has played, "
                + "each juror has marked, abstained or is barred now");
        PianoRounds x = Check.entrants(1, 5, 1);
        x.begin(0);
        Check.due("complete before the playing", x.entrant(0, 5), 0);
        x.play(0);
        Check.marks(x, 0, 50, 50, 50);
        x.abstain(3, 0);
        Check.due("complete without the last juror", x.entrant(0, 5), 0);
        Check.state(x, "close() without the last juror", () -> x.close());
        x.bar(4, 0, true);
        Check.due("complete when the last one is barred", x.entrant(0, 5), 1);
        x.bar(4, 0, false);
        Check.due("complete when the bar has ended", x.entrant(0, 5), 0);
        x.abstain(4, 0);
        Check.due("complete when the last one abstains", x.entrant(0, 5), 1);
        x.undo();
        x.mark(4, 0, 0);
        Check.due("complete when the last one marks", x.entrant(0, 5), 1);
    }

    private static void completeWithHalfOfTheMarks() {
        Doc.edge(PART, "at least (J + 1) / 2 jurors (rounded down) have marked and are not barred");
        int[] least = {2, 2, 3, 3, 4};
        for (int jurors = 3; jurors <= 7; jurors++) {
            int marks = least[jurors - 3];
            PianoRounds x = one(jurors, 0);
            Check.markAndAbstain(x, 0, marks - 1, 50);
            Check.due("complete with " + (marks - 1) + " marks of " + jurors, x.entrant(0, 5), 0);
            Check.state(x, "close()", () -> x.close());
            x.mark(jurors - 1, 0, 50);
            Check.due("complete with " + marks + " marks of " + jurors, x.entrant(0, 5), 1);
            x.bar(0, 0, true);
            Check.due("complete when one of them is barred", x.entrant(0, 5), 0);
            x.bar(0, 0, false);
            Check.due("close()", x.close(), 3);
        }
    }

    private static void neverCompleteWithTooManyBars() {
        Doc.edge(PART, "(so never, if too many are barred)");
        int[] tooMany = {2, 3, 3, 4, 4};
        for (int jurors = 3; jurors <= 7; jurors++) {
            PianoRounds x = one(jurors, 0);
            Check.markAll(x, 0, 50);
            for (int j = 0; j < tooMany[jurors - 3]; j++) {
                Check.due("complete with " + j + " barred of " + jurors, x.entrant(0, 5), 1);
                x.bar(j, 0, true);
            }
            Check.due("complete with too many barred of " + jurors, x.entrant(0, 5), 0);
            Check.state(x, "close() with too many barred", () -> x.close());
        }
        PianoRounds x = one(3, 0);
        for (int j = 0; j < 3; j++) {
            x.bar(j, 0, true);
        }
        Check.due("complete when all are barred", x.entrant(0, 5), 0);
    }

    private static void onlyMarksOfThoseNotBarredCount() {
        Doc.edge(PART, "Only marks of jurors who are not barred count "
                + "(those of one who is barred are kept, and count again when that ends).");
        PianoRounds x = one(4, 0);
        Check.marks(x, 0, 10, 20, 40, 80);
        Check.due("score of four marks", x.entrant(0, 4), 30000);
        x.bar(3, 0, true);
        Check.due("score without the last", x.entrant(0, 4), 23333);
        Check.due("marks that count", x.entrant(0, 3), 3);
        Check.due("the mark is kept", x.marked(3, 0, false), 80);
        x.bar(0, 0, true);
        x.bar(1, 0, true);
        Check.due("score of one mark", x.entrant(0, 4), 40000);
        x.bar(2, 0, true);
        Check.due("score when all are barred", x.entrant(0, 4), -1);
        Check.due("marks that count when all are barred", x.entrant(0, 3), 0);
        for (int j = 0; j < 4; j++) {
            x.bar(j, 0, false);
        }
        Check.due("score when the bars have ended", x.entrant(0, 4), 30000);
    }

    private static void stateThreeTellsTheLastRound() {
        Doc.edge(PART, "In state 3 all that is told of players and marks is that of the last round that had begun");
        PianoRounds x = Check.rounds(2, 3, 3, 2);
        x.clearProgram(1, 1);
        x.begin(6);
        Check.playAll(x);
        Check.closeWith(x, 50, 60, 40);
        Check.due("round", x.info(4), 1);
        x.play(3);
        Check.marks(x, 0, 70, 71, 72);
        Check.due("close()", x.close(), 3);
        Check.due("players", x.info(8), 1);
        Check.due("players who have played", x.info(9), 1);
        Check.due("stage(0)", x.stage(0), 0);
        Check.due("its place", x.entrant(0, 1), 0);
        Check.due("its slips", x.entrant(0, 2), 3);
        Check.due("its marks that count", x.entrant(0, 3), 3);
        Check.due("its score", x.entrant(0, 4), 69500);
        Check.due("its performance is complete", x.entrant(0, 5), 1);
        Check.due("a mark", x.marked(2, 0, false), 72);
        Check.due("a mark of round 0", x.marked(0, 1, false), -1);
        Check.due("slips of round 0", x.entrant(2, 2), -1);
        x.bar(2, 0, true);
        Check.due("the score when a juror is barred", x.entrant(0, 4), 69000);
    }

    private static void stateThreeTellsARoundWithoutPlayers() {
        Doc.edge(PART, "(also if it had no players)");
        PianoRounds x = Check.rounds(2, 2, 3, 2);
        x.clearProgram(0, 1);
        x.clearProgram(1, 1);
        x.begin(6);
        Check.playAll(x);
        Check.due("close()", Check.closeWith(x, 50, 60), 3);
        Check.due("round", x.info(4), 1);
        Check.due("players", x.info(8), 0);
        Check.due("players who have played", x.info(9), 0);
        Check.due("stage(0)", x.stage(0), -1);
        int[] facts = {0, -1, -1, 0, -1, 0, 0, -1};
        for (int what = 0; what < facts.length; what++) {
            Check.due("entrant(1, " + what + ")", x.entrant(1, what), facts[what]);
        }
        Check.due("a mark", x.marked(0, 1, false), -1);
        Check.due("the score of round 0", x.history(1, 0), 60000);
    }

    private static void penaltyCountsAsItIsNow() {
        Doc.edge(PART, "the penalty counts as it is now, in each state");
        PianoRounds x = Check.entrants(2, 3, 1);
        x.begin(0);
        int first = x.play(2);
        x.play(2);
        Check.markEach(x, 50, 50);
        Check.due("in a round", x.entrant(first, 4), 49000);
        x.set(2, 60);
        Check.due("in a round, then", x.entrant(first, 4), 48800);
        x.close();
        Check.due("in a tie round", x.entrant(first, 4), 48800);
        x.set(2, 0);
        Check.due("in a tie round, then", x.entrant(first, 4), 50000);
        Check.closeWith(x, 5, 6);
        x.set(2, 100);
        Check.due("in state 3", x.entrant(first, 4), 48000);
        Check.due("the score of the closing", x.history(first, 0), 48800);
    }

    private static int meanOf(int... marks) {
        PianoRounds x = one(7, 0);
        Check.marks(x, 0, marks);
        return x.entrant(0, 4);
    }

    private static void outerMarksAreLeftOutOfFour() {
        Doc.edge(PART, "if there are at least 4, one of the lowest and one of the highest are left out");
        Check.due("mean of 3 marks", meanOf(0, 100, 50), 50000);
        Check.due("mean of 3 other marks", meanOf(0, 0, 90), 30000);
        Check.due("mean of 4 marks", meanOf(100, 10, 20, 0), 15000);
        Check.due("one of two lowest, one of two highest", meanOf(0, 100, 100, 0), 50000);
        Check.due("one of three highest", meanOf(100, 100, 100, 0), 100000);
        Check.due("one of three lowest", meanOf(7, 7, 7, 100), 7000);
        Check.due("all as high as can be", meanOf(100, 100, 100, 100), 100000);
        Check.due("all as low as can be", meanOf(0, 0, 0, 0), 0);
        Check.due("mean of 7 marks", meanOf(100, 1, 2, 3, 4, 5, 0), 3000);
    }

    private static void meansAreRoundedDown() {
        Doc.edge(PART, "the sum of the others is multiplied by 1000 and divided by their number, rounded down");
        Check.due("1 / 3", meanOf(0, 0, 1), 333);
        Check.due("2 / 3", meanOf(0, 1, 1), 666);
        Check.due("1 / 2", meanOf(0, 1), 500);
        Check.due("299 / 3", meanOf(100, 100, 99), 99666);
        Check.due("1 / 4, of six", meanOf(0, 0, 0, 0, 1, 1), 250);
        Check.due("4 / 5, of seven", meanOf(0, 0, 0, 1, 1, 2, 3), 800);
        Check.due("a single 100", meanOf(100), 100000);
        Check.due("a single 0", meanOf(0), 0);
    }

    private static void scoresAreAtLeastZero() {
        Doc.edge(PART, "The score of a player who has at least one mark that counts is that mean, "
                + "minus the penalty times 10 for each slip, but at least 0.");
        PianoRounds x = one(3, 20);
        Check.due("score without marks", x.entrant(0, 4), -1);
        x.abstain(0, 0);
        Check.due("score of an abstention", x.entrant(0, 4), -1);
        x.mark(0, 0, 10);
        Check.due("10000 - 20 * 500", x.entrant(0, 4), 0);
        x.mark(0, 0, 9);
        Check.due("9000 - 20 * 500", x.entrant(0, 4), 0);
        x.mark(0, 0, 11);
        Check.due("11000 - 20 * 500", x.entrant(0, 4), 1000);
        x.set(2, 100);
        Check.due("11000 - 20 * 1000", x.entrant(0, 4), 0);
        x.set(2, 0);
        Check.due("11000 - 20 * 0", x.entrant(0, 4), 11000);
    }

    private static void penaltyIsZeroToHundred() {
        Doc.edge(PART, "(The penalty is 0 to 100, initially 50.)");
        PianoRounds x = one(3, 1);
        x.mark(0, 0, 100);
        Check.due("at first", x.info(2), 50);
        Check.due("score at first", x.entrant(0, 4), 99500);
        Check.argument(x, "a penalty of -1", () -> x.set(2, -1));
        Check.argument(x, "a penalty of 101", () -> x.set(2, 101));
        Check.due("a penalty of 100", x.set(2, 100), 50);
        Check.due("score with 100", x.entrant(0, 4), 99000);
        Check.due("a penalty of 0", x.set(2, 0), 100);
        Check.due("score with 0", x.entrant(0, 4), 100000);
    }

    // ---- Promise 15

    private static void markTakesMarks() {
        Doc.edge("Promise 15", "`mark`: 0 to 100, in a tie round 0 to 10");
        PianoRounds x = Check.inState(1);
        for (int mark : new int[] {0, 1, 10, 11, 99, 100}) {
            x.mark(2, 2, mark);
            Check.due("mark", x.marked(2, 2, false), mark);
        }
        PianoRounds tie = Check.inState(2);
        for (int mark : new int[] {0, 1, 9, 10}) {
            tie.mark(2, 2, mark);
            Check.due("mark of a tie round", tie.marked(2, 2, true), mark);
        }
        Check.argument(tie, "mark 11 in a tie round", () -> tie.mark(2, 2, 11));
    }

    private static void markTellsHowManyCount() {
        Doc.edge("Promise 15", "Returns how many marks that count this entrant has then.");
        PianoRounds x = one(7, 0);
        for (int j = 0; j < 7; j++) {
            Check.due("mark of juror " + j, x.mark(j, 0, 0), j + 1);
        }
        Check.due("a second mark of juror 6", x.mark(6, 0, 1), 7);
        x.bar(0, 0, true);
        x.abstain(1, 0);
        Check.due("one is barred, one abstains", x.mark(6, 0, 2), 5);
        PianoRounds tie = Check.inState(2);
        Check.due("the first of a tie round", tie.mark(0, 1, 0), 1);
        Check.due("the first of another tied one", tie.mark(0, 2, 0), 1);
    }

    private static void markRefusesNoJurorOrEntrant() {
        Doc.edge("Promise 15", "Throws `IndexOutOfBoundsException` if there is no such juror or entrant");
        for (int state = 0; state <= 3; state++) {
            PianoRounds x = Check.inState(state);
            for (int none : Check.around(0, 2)) {
                Check.index(x, "mark(" + none + ", 0, 1) in state " + state, () -> x.mark(none, 0, 1));
                Check.index(x, "mark(0, " + none + ", 1) in state " + state, () -> x.mark(0, none, 1));
            }
        }
    }

    private static void markRefusesMarks() {
        Doc.edge("Promise 15", "Throws `IllegalArgumentException` if mark is not 0 to 100, "
                + "or it is greater than 10 in a tie round");
        for (int state = 0; state <= 3; state++) {
            PianoRounds x = Check.inState(state);
            for (int mark : Check.around(0, 100)) {
                Check.argument(x, "mark(0, 0, " + mark + ") in state " + state, () -> x.mark(0, 0, mark));
            }
        }
        PianoRounds tie = Check.inState(2);
        Check.argument(tie, "mark 11 in a tie round", () -> tie.mark(0, 0, 11));
        Check.argument(tie, "mark 100 in a tie round", () -> tie.mark(0, 0, 100));
        PianoRounds two = twoTied();
        Check.argument(two, "mark 11 of one who is not tied", () -> two.mark(0, 0, 11));
        PianoRounds over = Check.inState(3);
        Check.state(over, "mark 11 in state 3", () -> over.mark(0, 0, 11));
    }

    private static void markRefusesInOtherStates() {
        Doc.edge("Promise 15", "Throws `IllegalStateException` if the state is neither 1 nor 2");
        for (int state : new int[] {0, 3}) {
            PianoRounds x = Check.inState(state);
            Check.state(x, "mark in state " + state, () -> x.mark(0, 0, 1));
        }
    }

    private static void markRefusesOthersThanPlayers() {
        Doc.edge("Promise 15", "the juror is barred from the entrant, or the entrant is not a player who has played");
        PianoRounds x = Check.entrants(4, 3, 4);
        x.withdraw(3);
        x.clearProgram(2, 0);
        x.begin(0);
        int first = x.stage(0);
        int second = x.stage(1);
        Check.state(x, "a player before all", () -> x.mark(0, first, 1));
        x.play(0);
        Check.state(x, "the next player", () -> x.mark(0, second, 1));
        Check.state(x, "one who has a flaw", () -> x.mark(0, 2, 1));
        Check.state(x, "one who has withdrawn", () -> x.mark(0, 3, 1));
        x.bar(0, first, true);
        Check.state(x, "a juror who is barred", () -> x.mark(0, first, 1));
        Check.due("a juror who is not", x.mark(1, first, 1), 1);
        x.withdraw(second);
        Check.state(x, "one who withdraws in the round", () -> x.mark(0, second, 1));
    }

    /** Entrant 0 goes on, 1 and 2 are tied for one place, 3 is out. */
    private static PianoRounds twoTied() {
        PianoRounds x = Check.played(4, 3, 2);
        Check.closeWith(x, 90, 50, 50, 10);
        return x;
    }

    private static void markRefusesOthersThanTiedOnes() {
        Doc.edge("Promise 15", "or, in a tie round, not a tied one");
        PianoRounds x = twoTied();
        Check.state(x, "one who goes on", () -> x.mark(0, 0, 1));
        Check.state(x, "one who is out", () -> x.mark(0, 3, 1));
        Check.due("a tied one", x.mark(0, 1, 1), 1);
        x.bar(1, 2, true);
        Check.state(x, "a juror who is barred from a tied one", () -> x.mark(1, 2, 1));
    }

    // ---- Promise 16

    private static void abstainTellsHowManyCount() {
        Doc.edge("Promise 16", "Returns how many marks that count this entrant has then.");
        PianoRounds x = one(5, 0);
        Check.due("the first abstains", x.abstain(0, 0), 0);
        Check.marks(x, 0, 1, 2, 3, 4, 5);
        Check.due("one of five", x.abstain(4, 0), 4);
        Check.due("the same again", x.abstain(4, 0), 4);
        x.bar(0, 0, true);
        Check.due("another one, when one is barred", x.abstain(3, 0), 2);
        PianoRounds tie = Check.inState(2);
        Check.due("the first of a tie round", tie.abstain(0, 0), 0);
        tie.mark(1, 0, 5);
        Check.due("the next of a tie round", tie.abstain(2, 0), 1);
    }

    private static void abstainRefusesNoJurorOrEntrant() {
        Doc.edge("Promise 16", "Throws `IndexOutOfBoundsException` if there is no such juror or entrant");
        for (int state = 0; state <= 3; state++) {
            PianoRounds x = Check.inState(state);
            for (int none : Check.around(0, 2)) {
                Check.index(x, "abstain(" + none + ", 0) in state " + state, () -> x.abstain(none, 0));
                Check.index(x, "abstain(0, " + none + ") in state " + state, () -> x.abstain(0, none));
            }
        }
    }

    private static void abstainRefusesAsMark() {
        Doc.edge("Promise 16", "Throws `IllegalStateException` as for mark()");
        for (int state : new int[] {0, 3}) {
            PianoRounds x = Check.inState(state);
            Check.state(x, "abstain in state " + state, () -> x.abstain(0, 0));
        }
        PianoRounds x = Check.entrants(3, 3, 3);
        x.withdraw(2);
        x.begin(0);
        int first = x.play(0);
        int second = x.stage(1);
        Check.state(x, "one who has not played", () -> x.abstain(0, second));
        Check.state(x, "one who has withdrawn", () -> x.abstain(0, 2));
        x.bar(0, first, true);
        Check.state(x, "a juror who is barred", () -> x.abstain(0, first));
        PianoRounds tie = twoTied();
        Check.state(tie, "one who goes on", () -> tie.abstain(0, 0));
        Check.state(tie, "one who is out", () -> tie.abstain(0, 3));
        tie.bar(1, 2, true);
        Check.state(tie, "a juror who is barred from a tied one", () -> tie.abstain(1, 2));
    }
}
