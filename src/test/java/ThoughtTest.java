/** Promises 24 to 26: wouldBe, neededMark, strangestJuror. */
final class ThoughtTest {
    public static void main(String[] args) {
        wouldBe();
        neededMark();
        neededMarkWithTrimming();
        strangestJuror();
        strangestJurorEdges();
        Check.end();
    }

    private static void outcome(PianoRounds x, int on, int tied, int out) {
        Check.due("wouldBe(0)", x.wouldBe(0), on);
        Check.due("wouldBe(1)", x.wouldBe(1), tied);
        Check.due("wouldBe(2)", x.wouldBe(2), out);
    }

    private static void wouldBe() {
        PianoRounds x = Check.entrants(5, 3, 3);
        Check.argument(x, "wouldBe(-1)", () -> x.wouldBe(-1));
        Check.argument(x, "wouldBe(3)", () -> x.wouldBe(3));
        outcome(x, -1, -1, -1);
        x.begin(8);
        Check.playAll(x);
        Check.markAll(x, 0, 90);
        Check.markAll(x, 1, 80);
        Check.markAll(x, 2, 70);
        Check.markAll(x, 3, 60);
        outcome(x, -1, -1, -1);
        Check.markAll(x, 4, 50);
        outcome(x, 3, 0, 2);
        Check.markAll(x, 3, 70);
        outcome(x, 2, 2, 1);
        Check.markAll(x, 1, 70);
        outcome(x, 1, 3, 1);
        Check.markAll(x, 2, 90);
        Check.markAll(x, 3, 10);
        outcome(x, 3, 0, 2);
        for (int e = 0; e < 5; e++) {
            Check.markAll(x, e, 5);
        }
        outcome(x, 0, 5, 0);
        long before = x.checksum();
        x.wouldBe(1);
        Check.due("wouldBe changes nothing", x.checksum(), before);
        x.close();
        outcome(x, -1, -1, -1);
        PianoRounds few = Check.played(3, 3, 3);
        for (int e = 0; e < 3; e++) {
            Check.markAll(few, e, 5);
        }
        outcome(few, 3, 0, 0);
        few.close();
        outcome(few, -1, -1, -1);
    }

    private static void neededMark() {
        PianoRounds x = Check.entrants(2, 3, 1);
        Check.state(x, "neededMark before the round", () -> x.neededMark(0, 0, 0));
        x.begin(2);
        int first = x.stage(0);
        int second = x.stage(1);
        x.play(2);
        Check.index(x, "neededMark(3, ..)", () -> x.neededMark(3, first, 0));
        Check.index(x, "neededMark(-1, ..)", () -> x.neededMark(-1, first, 0));
        Check.index(x, "neededMark(.., 2, -1)", () -> x.neededMark(0, 2, -1));
        Check.index(x, "neededMark(.., -1, 0)", () -> x.neededMark(0, -1, 0));
        Check.argument(x, "neededMark for -1", () -> x.neededMark(0, first, -1));
        Check.argument(x, "neededMark for 100001", () -> x.neededMark(0, second, 100001));
        Check.state(x, "neededMark of one who has not played", () -> x.neededMark(0, second, 0));
        Check.due("score 0 needs 0", x.neededMark(0, first, 0), 0);
        Check.due("score 50000 with 2 slips", x.neededMark(0, first, 50000), 51);
        Check.due("score 49001 with 2 slips", x.neededMark(0, first, 49001), 51);
        Check.due("score 49000 with 2 slips", x.neededMark(0, first, 49000), 50);
        Check.due("score 99000 with 2 slips", x.neededMark(0, first, 99000), 100);
        Check.due("score 99001 with 2 slips", x.neededMark(0, first, 99001), -1);
        Check.due("score 100000 with 2 slips", x.neededMark(0, first, 100000), -1);
        x.set(2, 0);
        Check.due("score 100000 without penalty", x.neededMark(0, first, 100000), 100);
        x.mark(1, first, 40);
        Check.due("with the mark 40 of another", x.neededMark(0, first, 50000), 60);
        x.mark(0, first, 99);
        Check.due("its own mark does not count", x.neededMark(0, first, 50000), 60);
        x.abstain(0, first);
        Check.due("its abstention does not count", x.neededMark(0, first, 50000), 60);
        Check.due("too much for it", x.neededMark(0, first, 70001), -1);
        x.bar(1, first, true);
        Check.due("a barred mark does not count", x.neededMark(0, first, 50000), 50);
        Check.state(x, "neededMark of a barred juror", () -> x.neededMark(1, first, 0));
        x.bar(1, first, false);
        x.play(0);
        Check.markAll(x, first, 50);
        Check.markAll(x, second, 50);
        x.close();
        Check.state(x, "neededMark in a tie round", () -> x.neededMark(0, first, 0));
        PianoRounds over = Check.played(1, 3, 1);
        Check.markAll(over, 0, 50);
        over.close();
        Check.state(over, "neededMark in state 3", () -> over.neededMark(0, 0, 0));
    }

    private static void neededMarkWithTrimming() {
        PianoRounds x = Check.played(1, 5, 1);
        Check.marks(x, 0, 40, 50, 60, 70);
        Check.due("(50 + 60 + 50) / 3", x.neededMark(4, 0, 53333), 50);
        Check.due("(50 + 60 + 51) / 3", x.neededMark(4, 0, 53334), 51);
        Check.due("(50 + 60 + 0, left out) / 3: the 40 counts", x.neededMark(4, 0, 50000), 0);
        Check.due("(50 + 60 + 70) / 3", x.neededMark(4, 0, 60000), 70);
        Check.due("no mark is worth more", x.neededMark(4, 0, 60001), -1);
        Check.due("in place of the 70", x.neededMark(3, 0, 50000), 50);
    }

    private static void strangestJuror() {
        PianoRounds x = Check.entrants(2, 4, 1);
        Check.due("before the round", x.strangestJuror(), -1);
        x.begin(2);
        Check.playAll(x);
        Check.due("without marks", x.strangestJuror(), -1);
        x.mark(2, 0, 50);
        Check.due("with a single mark", x.strangestJuror(), -1);
        x.mark(1, 1, 50);
        Check.due("with single marks of different players", x.strangestJuror(), -1);
        x.mark(3, 1, 50);
        Check.due("a sum of 0 is one", x.strangestJuror(), 1);
        x.mark(3, 0, 60);
        Check.due("2 and 3 are 10 apart", x.strangestJuror(), 2);
        x.mark(0, 1, 55);
        Check.due("sums: 5000, 2500, 10000, 12500", x.strangestJuror(), 3);
        x.bar(3, 0, true);
        Check.due("sums: 5000, 2500, none, 2500", x.strangestJuror(), 0);
        x.abstain(0, 1);
        Check.due("sums: none, 0, none, 0", x.strangestJuror(), 1);
        x.bar(1, 1, true);
        Check.due("only single marks that count", x.strangestJuror(), -1);
    }

    private static void strangestJurorEdges() {
        PianoRounds x = Check.played(1, 5, 1);
        Check.marks(x, 0, 0, 100, 10, 10, 10);
        Check.due("the others' mean is trimmed: 10000 - 0, 100000 - 10000", x.strangestJuror(), 1);
        Check.marks(x, 0, 20, 20, 20, 20, 20);
        Check.due("all alike", x.strangestJuror(), 0);
        Check.marks(x, 0, 80, 50, 20, 50, 50);
        Check.due("of several the lowest", x.strangestJuror(), 0);
        x.close();
        Check.due("in state 3", x.strangestJuror(), -1);
        PianoRounds tie = Check.played(2, 3, 1);
        Check.markAll(tie, 0, 5);
        Check.markAll(tie, 1, 5);
        Check.due("in the round", tie.strangestJuror(), 0);
        tie.close();
        Check.due("in a tie round", tie.strangestJuror(), -1);
    }
}
