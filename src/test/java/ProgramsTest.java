/** Promises 9 to 12: programs and their flaws. */
final class ProgramsTest {
    public static void main(String[] args) {
        setProgram();
        clearProgram();
        program();
        flawsInOrder();
        flawOfLengths();
        flawOfErasAndComposers();
        flawOfRepeatedWorks();
        Check.end();
    }

    /** Works 0 to 3 of 10, 20, 30 and 40 minutes; composers 0 0 1 2, eras 0 1 1 4. */
    private static PianoRounds works() {
        PianoRounds x = new PianoRounds();
        x.addWork(0, 0, 10);
        x.addWork(0, 1, 20);
        x.addWork(1, 1, 30);
        x.addWork(2, 4, 40);
        x.addEntrant();
        x.addEntrant();
        return x;
    }

    private static void is(PianoRounds x, int entrant, int round, String want) {
        Check.same("program of " + entrant + " for round " + round, Check.program(x, entrant, round), want);
    }

    private static void setProgram() {
        PianoRounds x = works();
        Check.text(x, "3,0,02,1");
        Check.due("setProgram(1, 3)", x.setProgram(1, 3), 4);
        is(x, 1, 3, "3 0 2 1");
        is(x, 1, 2, "-1 -1 -1 -1");
        is(x, 0, 3, "-1 -1 -1 -1");
        Check.due("the text stays", x.clearText(), 8);
        Check.text(x, "2");
        Check.due("a shorter program", x.setProgram(1, 3), 1);
        is(x, 1, 3, "2 -1 -1 -1");
        x.undo();
        is(x, 1, 3, "3 0 2 1");
        Check.text(x, "4");
        Check.argument(x, "setProgram of no work", () -> x.setProgram(0, 0));
        Check.index(x, "setProgram(2, 0)", () -> x.setProgram(2, 0));
        Check.index(x, "setProgram(-1, 0)", () -> x.setProgram(-1, 0));
        Check.index(x, "setProgram(0, 4)", () -> x.setProgram(0, 4));
        Check.index(x, "setProgram(0, -1)", () -> x.setProgram(0, -1));
        x.clearText();
        Check.argument(x, "setProgram of the empty text", () -> x.setProgram(0, 0));
        PianoRounds begun = Check.played(1, 3, 1);
        Check.text(begun, "1,2");
        Check.due("setProgram in a round", begun.setProgram(0, 0), 2);
    }

    private static void clearProgram() {
        PianoRounds x = works();
        Check.text(x, "3,0,2");
        x.setProgram(0, 1);
        x.setProgram(0, 2);
        Check.due("clearProgram(0, 1)", x.clearProgram(0, 1), 3);
        is(x, 0, 1, "-1 -1 -1 -1");
        is(x, 0, 2, "3 0 2 -1");
        Check.due("clearProgram(0, 1) again", x.clearProgram(0, 1), 0);
        x.undo();
        x.undo();
        is(x, 0, 1, "3 0 2 -1");
        Check.index(x, "clearProgram(2, 0)", () -> x.clearProgram(2, 0));
        Check.index(x, "clearProgram(-1, 0)", () -> x.clearProgram(-1, 0));
        Check.index(x, "clearProgram(0, 4)", () -> x.clearProgram(0, 4));
        Check.index(x, "clearProgram(0, -1)", () -> x.clearProgram(0, -1));
        PianoRounds begun = Check.played(1, 3, 1);
        Check.due("clearProgram in a round", begun.clearProgram(0, 0), 1);
        Check.due("the player stays", begun.info(8), 1);
        Check.due("flaw then", begun.flaw(0, 0), 1);
    }

    private static void program() {
        PianoRounds x = works();
        Check.text(x, "1,3");
        x.setProgram(1, 0);
        Check.due("program(1, 0, 0)", x.program(1, 0, 0), 1);
        Check.due("program(1, 0, 1)", x.program(1, 0, 1), 3);
        Check.due("program(1, 0, 2)", x.program(1, 0, 2), -1);
        Check.due("program(1, 0, 4)", x.program(1, 0, 4), -1);
        Check.due("program(1, 0, -1)", x.program(1, 0, -1), -1);
        Check.due("program(1, 0, huge)", x.program(1, 0, Integer.MAX_VALUE), -1);
        Check.due("program(1, 0, least)", x.program(1, 0, Integer.MIN_VALUE), -1);
        Check.index(x, "program(2, 0, 0)", () -> x.program(2, 0, 0));
        Check.index(x, "program(-1, 0, 0)", () -> x.program(-1, 0, 0));
        Check.index(x, "program(0, 4, 0)", () -> x.program(0, 4, 0));
        Check.index(x, "program(0, -1, -1)", () -> x.program(0, -1, -1));
    }

    private static void flawsInOrder() {
        PianoRounds x = works();
        Check.index(x, "flaw(2, 0)", () -> x.flaw(2, 0));
        Check.index(x, "flaw(-1, 0)", () -> x.flaw(-1, 0));
        Check.index(x, "flaw(0, 4)", () -> x.flaw(0, 4));
        Check.index(x, "flaw(0, -1)", () -> x.flaw(0, -1));
        Check.text(x, "0,1");
        x.setProgram(0, 0);
        x.setRule(1, 0, 31);
        x.setRule(1, 1, 29);
        x.setRule(1, 2, 16);
        x.setRule(1, 3, 1);
        x.setRule(1, 4, 1);
        Check.due("flaw: no works", x.flaw(0, 1), 1);
        x.setProgram(0, 1);
        Check.due("flaw: too short comes first", x.flaw(0, 1), 2);
        x.setRule(1, 0, 30);
        Check.due("flaw: then too long", x.flaw(0, 1), 3);
        x.setRule(1, 1, 30);
        Check.due("flaw: then the eras", x.flaw(0, 1), 4);
        x.setRule(1, 2, 3);
        Check.due("flaw: then the composers", x.flaw(0, 1), 5);
        x.setRule(1, 3, 2);
        Check.due("flaw: then the works that are not new", x.flaw(0, 1), 6);
        x.setRule(1, 4, 0);
        Check.due("flaw: none", x.flaw(0, 1), 0);
        Check.due("flaw of the other entrant", x.flaw(1, 1), 1);
    }

    private static void flawOfLengths() {
        PianoRounds x = works();
        Check.text(x, "0,3");
        x.setProgram(0, 0);
        x.setRule(0, 0, 50);
        x.setRule(0, 1, 50);
        Check.due("flaw of 50 minutes, 50 to 50", x.flaw(0, 0), 0);
        x.setRule(0, 0, 51);
        Check.due("flaw of 50 minutes, 51 to 50", x.flaw(0, 0), 2);
        x.setRule(0, 0, 1);
        x.setRule(0, 1, 49);
        Check.due("flaw of 50 minutes, 1 to 49", x.flaw(0, 0), 3);
    }

    private static void flawOfErasAndComposers() {
        PianoRounds x = works();
        Check.text(x, "3,2");
        x.setProgram(0, 0);
        x.setRule(0, 2, 16 + 2);
        Check.due("flaw: all eras of the set are there", x.flaw(0, 0), 0);
        x.setRule(0, 2, 2);
        Check.due("flaw: more eras than those of the set", x.flaw(0, 0), 0);
        x.setRule(0, 2, 1);
        Check.due("flaw: era 0 is missing", x.flaw(0, 0), 4);
        x.setRule(0, 2, 31);
        Check.due("flaw: some eras are missing", x.flaw(0, 0), 4);
        x.setRule(0, 2, 0);
        x.setRule(0, 3, 1);
        Check.due("flaw: two composers", x.flaw(0, 0), 0);
        Check.text(x, "0,2,1");
        x.setProgram(0, 0);
        Check.due("flaw: two works of a composer, one allowed", x.flaw(0, 0), 5);
        x.setRule(0, 3, 2);
        Check.due("flaw: two works of a composer, two allowed", x.flaw(0, 0), 0);
    }

    private static void flawOfRepeatedWorks() {
        PianoRounds x = works();
        for (int round = 0; round < 4; round++) {
            x.setRule(round, 4, 1);
        }
        Check.text(x, "0,1");
        x.setProgram(0, 2);
        Check.text(x, "2,1");
        x.setProgram(0, 1);
        Check.due("flaw: work 1 is in round 1, too", x.flaw(0, 2), 6);
        Check.due("flaw: a higher round does not count", x.flaw(0, 1), 0);
        Check.due("flaw: another round's work", x.flaw(1, 2), 1);
        Check.text(x, "2");
        x.setProgram(0, 1);
        Check.due("flaw: as the program is now", x.flaw(0, 2), 0);
        Check.text(x, "1");
        x.setProgram(1, 1);
        Check.due("flaw: another entrant's work", x.flaw(0, 2), 0);
        Check.text(x, "3,0");
        x.setProgram(0, 0);
        Check.due("flaw: work 0 is in round 0, too", x.flaw(0, 2), 6);
        Check.text(x, "2,3,0");
        x.setProgram(0, 3);
        Check.due("flaw in round 3", x.flaw(0, 3), 6);
    }
}
