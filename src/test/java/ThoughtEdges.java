/** Edges of what is told in thought: promises 24 to 26. */
final class ThoughtEdges {
    static void run() {
        Check.each(
                ThoughtEdges::wouldBeAsCloseDecides,
                ThoughtEdges::wouldBeTellsThreeNumbers,
                ThoughtEdges::wouldBeIsNone,
                ThoughtEdges::wouldBeRefusesWhat,
                ThoughtEdges::neededMarkIsTheLowest,
                ThoughtEdges::neededMarkDoesNotCountTheOwnMark,
                ThoughtEdges::neededMarkTakesScores,
                ThoughtEdges::neededMarkIsZeroToHundred,
                ThoughtEdges::neededMarkIsNone,
                ThoughtEdges::neededMarkRefusesNoJurorOrEntrant,
                ThoughtEdges::neededMarkRefusesScores,
                ThoughtEdges::neededMarkRefusesInOtherStates,
                ThoughtEdges::neededMarkRefusesBarredJurors,
                ThoughtEdges::neededMarkRefusesOthersThanPlayers,
                ThoughtEdges::strangestOverComparedMarks,
                ThoughtEdges::strangestByTheMeanOfTheOthers,
                ThoughtEdges::strangestOfSeveralIsTheLowest,
                ThoughtEdges::strangestIsNone,
                ThoughtEdges::strangestOfNoDistance);
    }

    // ---- Promise 24

    private static void wouldBeAsCloseDecides() {
        Doc.edge("Promise 24", "Returns how many players would go on for certain, have to go into a tie round, or be out, "
                + "if the round were closed now.");
        int[][] marks = {{1, 2, 3}, {5, 5, 5}, {9, 5, 5, 1}, {9, 9, 5, 1}, {9, 5, 5, 5}, {9, 8, 7, 6}, {5, 5, 5, 5}};
        int[][] due = {{3, 0, 0}, {3, 0, 0}, {3, 0, 1}, {3, 0, 1}, {1, 3, 0}, {3, 0, 1}, {0, 4, 0}};
        for (int i = 0; i < marks.length; i++) {
            PianoRounds x = Check.played(marks[i].length, 3, 3);
            Check.markEach(x, marks[i]);
            long before = x.checksum();
            for (int what = 0; what <= 2; what++) {
                Check.due("wouldBe(" + what + ") by marks " + i, x.wouldBe(what), due[i][what]);
            }
            Check.due("checksum() then", x.checksum(), before);
            x.close();
            Check.due("tied when it is closed", x.info(10), due[i][1]);
            Check.due("in when it is closed", x.info(7), due[i][0] + due[i][1]);
        }
    }

    private static void wouldBeTellsThreeNumbers() {
        Doc.edge("Promise 24", "`what`: 0 go on, 1 tied, 2 out");
        PianoRounds x = Check.played(6, 3, 2);
        Check.markEach(x, 4, 9, 5, 5, 1, 0);
        Check.due("go on", x.wouldBe(0), 1);
        Check.due("tied", x.wouldBe(1), 2);
        Check.due("out", x.wouldBe(2), 3);
    }

    private static void wouldBeIsNone() {
        Doc.edge("Promise 24", "NONE if the round cannot be closed yet, or the state is not 1.");
        PianoRounds x = Check.entrants(2, 3, 1);
        x.begin(0);
        int first = x.play(0);
        int second = x.stage(1);
        Check.markAll(x, first, 50);
        none(x, "before the last one plays");
        x.play(0);
        Check.marks(x, second, 40, 40);
        none(x, "before the last mark");
        x.mark(2, second, 40);
        Check.due("wouldBe(0) with the last mark", x.wouldBe(0), 1);
        for (int state : new int[] {0, 2, 3}) {
            none(Check.inState(state), "in state " + state);
        }
        PianoRounds tie = Check.inState(2);
        Check.markEach(tie, 5, 5, 5);
        none(tie, "in a tie round that can be closed");
    }

    private static void none(PianoRounds x, String when) {
        for (int what = 0; what <= 2; what++) {
            Check.due("wouldBe(" + what + ") " + when, x.wouldBe(what), -1);
        }
    }

    private static void wouldBeRefusesWhat() {
        Doc.edge("Promise 24", "Throws `IllegalArgumentException` if what is not 0 to 2");
        for (int state = 0; state <= 3; state++) {
            PianoRounds x = Check.inState(state);
            for (int what : Check.around(0, 2)) {
                Check.argument(x, "wouldBe(" + what + ") in state " + state, () -> x.wouldBe(what));
            }
        }
    }

    // ---- Promise 25

    private static void neededMarkIsTheLowest() {
        Doc.edge("Promise 25", "Returns the lowest mark of a juror with which the score of a player would be at least some "
                + "number, all other marks and slips being as they are");
        PianoRounds x = Check.entrants(1, 4, 1);
        x.begin(0);
        x.play(3);
        Check.due("alone, 40000 - 1500", x.neededMark(0, 0, 38500), 40);
        Check.due("alone, a little more", x.neededMark(0, 0, 38501), 41);
        Check.marks(x, 0, 30, 50);
        Check.due("(30 + 50 + 42) / 3", x.neededMark(2, 0, 39166), 42);
        Check.due("(30 + 50 + 43) / 3", x.neededMark(2, 0, 39167), 43);
        x.mark(2, 0, 60);
        Check.due("the lowest and the highest of four", x.neededMark(3, 0, 38501), 31);
        Check.due("the middle ones of four", x.neededMark(3, 0, 53500), 60);
        x.bar(2, 0, true);
        Check.due("a barred mark does not count", x.neededMark(3, 0, 39166), 42);
    }

    private static void neededMarkDoesNotCountTheOwnMark() {
        Doc.edge("Promise 25", "(a mark or abstention of this juror does not count)");
        PianoRounds x = Check.played(1, 3, 1);
        x.mark(1, 0, 20);
        Check.due("without an own one", x.neededMark(0, 0, 30000), 40);
        x.mark(0, 0, 100);
        Check.due("with an own mark", x.neededMark(0, 0, 30000), 40);
        x.abstain(0, 0);
        Check.due("with an own abstention", x.neededMark(0, 0, 30000), 40);
        Check.due("the abstention stays", x.marked(0, 0, false), -2);
    }

    private static void neededMarkTakesScores() {
        Doc.edge("Promise 25", "`score`: 0 to 100000");
        PianoRounds x = Check.played(1, 3, 1);
        Check.due("score 0", x.neededMark(0, 0, 0), 0);
        Check.due("score 1", x.neededMark(0, 0, 1), 1);
        Check.due("score 99999", x.neededMark(0, 0, 99999), 100);
        Check.due("score 100000", x.neededMark(0, 0, 100000), 100);
    }

    private static void neededMarkIsZeroToHundred() {
        Doc.edge("Promise 25", "Returns the mark, 0 to 100");
        PianoRounds x = Check.entrants(1, 3, 1);
        x.begin(0);
        x.play(20);
        Check.due("a score of 0 in spite of 20 slips", x.neededMark(0, 0, 0), 0);
        Check.due("a score of 1 in spite of 20 slips", x.neededMark(0, 0, 1), 11);
        Check.due("the greatest score with 20 slips", x.neededMark(0, 0, 90000), 100);
        x.mark(1, 0, 90);
        Check.due("what the mark of another one is enough for", x.neededMark(0, 0, 35000), 0);
        Check.due("a little more", x.neededMark(0, 0, 35001), 1);
    }

    private static void neededMarkIsNone() {
        Doc.edge("Promise 25", "NONE if there is none.");
        PianoRounds x = Check.entrants(1, 3, 1);
        x.begin(0);
        x.play(1);
        Check.due("100000 with a slip", x.neededMark(0, 0, 100000), -1);
        Check.due("99501 with a slip", x.neededMark(0, 0, 99501), -1);
        Check.due("99500 with a slip", x.neededMark(0, 0, 99500), 100);
        x.mark(1, 0, 99);
        Check.due("99500 with the mark 99 of another one", x.neededMark(0, 0, 99500), -1);
        Check.due("99000 with the mark 99 of another one", x.neededMark(0, 0, 99000), 100);
    }

    private static void neededMarkRefusesNoJurorOrEntrant() {
        Doc.edge("Promise 25", "Throws `IndexOutOfBoundsException` if there is no such juror or entrant");
        for (int state = 0; state <= 3; state++) {
            PianoRounds x = Check.inState(state);
            for (int none : Check.around(0, 2)) {
                Check.index(x, "neededMark(" + none + ", 0, 1) in state " + state, () -> x.neededMark(none, 0, 1));
                Check.index(x, "neededMark(0, " + none + ", 1) in state " + state, () -> x.neededMark(0, none, 1));
            }
        }
    }

    private static void neededMarkRefusesScores() {
        Doc.edge("Promise 25", "Throws `IllegalArgumentException` if score is out of range");
        for (int state = 0; state <= 3; state++) {
            PianoRounds x = Check.inState(state);
            for (int score : Check.around(0, 100000)) {
                Check.argument(x, "neededMark(0, 0, " + score + ")", () -> x.neededMark(0, 0, score));
            }
        }
    }

    private static void neededMarkRefusesInOtherStates() {
        Doc.edge("Promise 25", "Throws `IllegalStateException` if the state is not 1");
        for (int state : new int[] {0, 2, 3}) {
            PianoRounds x = Check.inState(state);
            Check.state(x, "neededMark in state " + state, () -> x.neededMark(0, 0, 0));
        }
    }

    private static void neededMarkRefusesBarredJurors() {
        Doc.edge("Promise 25", "the juror is barred from the entrant");
        PianoRounds x = Check.inState(1);
        x.mark(0, 1, 5);
        x.bar(0, 1, true);
        Check.state(x, "neededMark of a barred juror", () -> x.neededMark(0, 1, 0));
        Check.due("of the same juror for another one", x.neededMark(0, 2, 0), 0);
        Check.due("of another juror", x.neededMark(1, 1, 0), 0);
        x.bar(0, 1, false);
        Check.due("when the bar has ended", x.neededMark(0, 1, 0), 0);
    }

    private static void neededMarkRefusesOthersThanPlayers() {
        Doc.edge("Promise 25", "or it is not a player who has played");
        PianoRounds x = Check.entrants(3, 3, 1);
        x.withdraw(2);
        x.begin(0);
        int first = x.stage(0);
        int second = x.stage(1);
        Check.state(x, "neededMark before the playing", () -> x.neededMark(0, first, 0));
        x.play(0);
        Check.due("of a player who has played", x.neededMark(0, first, 0), 0);
        Check.state(x, "neededMark of the next one", () -> x.neededMark(0, second, 0));
        Check.state(x, "neededMark of one who is out", () -> x.neededMark(0, 2, 0));
    }

    // ---- Promise 26

    private static void strangestOverComparedMarks() {
        Doc.edge("Promise 26", "over all players whom the juror has marked so that it counts "
                + "and who have a mark that counts of another one");
        PianoRounds x = Check.inState(1);
        x.mark(0, 0, 100);
        x.mark(1, 1, 50);
        x.mark(2, 1, 51);
        Check.due("the mark 100 has no other one", x.strangestJuror(), 1);
        x.mark(1, 0, 99);
        Check.due("sums 1000, 2000, 1000", x.strangestJuror(), 1);
        x.mark(2, 2, 70);
        x.mark(0, 2, 72);
        Check.due("sums 3000, 2000, 3000", x.strangestJuror(), 0);
        x.bar(0, 2, true);
        Check.due("sums 1000, 2000, 1000 again", x.strangestJuror(), 1);
        x.bar(1, 0, true);
        Check.due("sums none, 1000, 1000", x.strangestJuror(), 1);
        x.abstain(1, 1);
        Check.due("no compared marks", x.strangestJuror(), -1);
    }

    private static void strangestByTheMeanOfTheOthers() {
        Doc.edge("Promise 26", "of the absolute values of 1000 * (its mark) minus the mean (found as above) "
                + "of the marks of the others that count");
        PianoRounds trimmed = Check.played(1, 5, 1);
        Check.marks(trimmed, 0, 0, 100, 10, 10, 10);
        Check.due("10000, 90000, then less, by the middle ones of the others", trimmed.strangestJuror(), 1);
        Check.marks(trimmed, 0, 0, 0, 2, 2, 3);
        Check.due("2000, 2000, 1000, 1000, 2000 by the middle ones of the others", trimmed.strangestJuror(), 0);
        PianoRounds rounded = Check.played(1, 4, 1);
        Check.marks(rounded, 0, 0, 0, 1, 1);
        Check.due("666, 666, 667, 667 by means rounded down", rounded.strangestJuror(), 2);
        rounded.bar(0, 0, true);
        Check.due("none, 1000, 500, 500", rounded.strangestJuror(), 1);
        PianoRounds signs = Check.played(2, 3, 2);
        Check.marks(signs, 0, 90, 50, 50);
        Check.marks(signs, 1, 10, 50, 53);
        Check.due("a mark above and one below do not cancel out", signs.strangestJuror(), 0);
    }

    private static void strangestOfSeveralIsTheLowest() {
        Doc.edge("Promise 26", "of several the lowest one.");
        PianoRounds x = Check.played(1, 7, 1);
        Check.marks(x, 0, 50, 50, 50, 50, 50, 60, 40);
        Check.due("5 and 6 are as far", x.strangestJuror(), 5);
        x.bar(5, 0, true);
        Check.due("6 alone", x.strangestJuror(), 6);
        x.bar(6, 0, true);
        Check.due("all alike", x.strangestJuror(), 0);
        x.bar(0, 0, true);
        Check.due("all alike, without 0", x.strangestJuror(), 1);
    }

    private static void strangestIsNone() {
        Doc.edge("Promise 26", "NONE if the state is not 1, or there is no such mark");
        for (int state = 0; state <= 3; state++) {
            Check.due("in state " + state + ", without marks in state 1", Check.inState(state).strangestJuror(), -1);
        }
        PianoRounds x = Check.inState(1);
        x.mark(0, 0, 10);
        Check.due("with a single mark", x.strangestJuror(), -1);
        x.abstain(1, 0);
        Check.due("with an abstention beside it", x.strangestJuror(), -1);
        x.mark(1, 0, 90);
        x.bar(1, 0, true);
        Check.due("with a barred mark beside it", x.strangestJuror(), -1);
        x.mark(2, 1, 90);
        Check.due("with single marks of two players", x.strangestJuror(), -1);
        PianoRounds tie = Check.inState(2);
        Check.markEach(tie, 1, 5, 9);
        Check.due("with tie marks", tie.strangestJuror(), -1);
    }

    private static void strangestOfNoDistance() {
        Doc.edge("Promise 26", "(a sum of 0 is one)");
        PianoRounds x = Check.inState(1);
        x.mark(1, 0, 50);
        x.mark(2, 0, 50);
        Check.due("two marks alike", x.strangestJuror(), 1);
        x.mark(0, 0, 50);
        Check.due("three marks alike", x.strangestJuror(), 0);
    }
}
