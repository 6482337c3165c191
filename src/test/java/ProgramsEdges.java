/** Edges of rounds' rules, programs and flaws: that part of "Description", and promises 9 to 12. */
final class ProgramsEdges {
    private static final String PART = "ROUNDS AND PROGRAMS";

    static void run() {
        Check.each(
                ProgramsEdges::oneToFourRounds,
                ProgramsEdges::rulesAndProgramsOfAllRounds,
                ProgramsEdges::ruleOfLeastLength,
                ProgramsEdges::ruleOfGreatestLength,
                ProgramsEdges::ruleOfEras,
                ProgramsEdges::ruleOfComposers,
                ProgramsEdges::ruleOfNewWorks,
                ProgramsEdges::ruleOfPlaces,
                ProgramsEdges::eachBitIsAnEra,
                ProgramsEdges::atMostFourDifferentWorks,
                ProgramsEdges::firstFlawThatApplies,
                ProgramsEdges::flawOfNoWorks,
                ProgramsEdges::flawOfTooShort,
                ProgramsEdges::flawOfTooLong,
                ProgramsEdges::flawOfEras,
                ProgramsEdges::flawOfComposers,
                ProgramsEdges::flawOfWorksThatAreNotNew,
                ProgramsEdges::noFlaw,
                ProgramsEdges::setProgramTakesFourRounds,
                ProgramsEdges::setProgramLeavesTheText,
                ProgramsEdges::setProgramTellsTheNumber,
                ProgramsEdges::setProgramRefusesNoEntrantOrRound,
                ProgramsEdges::setProgramRefusesAFault,
                ProgramsEdges::clearProgramTakesFourRounds,
                ProgramsEdges::clearProgramTellsTheNumber,
                ProgramsEdges::clearProgramRefusesNoEntrantOrRound,
                ProgramsEdges::programTakesFourRounds,
                ProgramsEdges::programTakesPlaces,
                ProgramsEdges::programTellsNone,
                ProgramsEdges::programRefusesNoEntrantOrRound,
                ProgramsEdges::flawTakesFourRounds,
                ProgramsEdges::flawIsZeroToSix,
                ProgramsEdges::flawRefusesNoEntrantOrRound);
    }

    /** Two entrants, and works told as composer, era, minutes. */
    private static PianoRounds works(int[]... works) {
        PianoRounds x = new PianoRounds();
        for (int[] work : works) {
            x.addWork(work[0], work[1], work[2]);
        }
        x.addEntrant();
        x.addEntrant();
        return x;
    }

    /** The same with so many works of a minute each, of different composers. */
    private static PianoRounds plainWorks(int count) {
        PianoRounds x = works();
        for (int w = 0; w < count; w++) {
            x.addWork(w % 10, w % 5, 1);
        }
        return x;
    }

    private static int setProgram(PianoRounds x, int entrant, int round, String text) {
        Check.text(x, text);
        return x.setProgram(entrant, round);
    }

    /** The flaw of entrant 0 in round 0 with this program. */
    private static int flawWith(PianoRounds x, String text) {
        setProgram(x, 0, 0, text);
        return x.flaw(0, 0);
    }

    // ---- Description

    private static void oneToFourRounds() {
        Doc.edge(PART, "There are rounds, 1 to 4 of them (initially 1)");
        for (int rounds = 1; rounds <= 4; rounds++) {
            PianoRounds x = Check.entrants(1, 3, 1);
            if (rounds > 1) {
                x.set(1, rounds);
            }
            for (int round = 1; round < 4; round++) {
                x.setProgram(0, round);
            }
            x.begin(0);
            for (int round = 0; round < rounds; round++) {
                Check.due("round, of " + rounds, x.info(4), round);
                Check.playAll(x);
                Check.due("close() of round " + round, Check.closeWith(x, 9), round + 1 < rounds ? 1 : 3);
            }
        }
        PianoRounds x = new PianoRounds();
        Check.due("rounds at first", x.info(1), 1);
        Check.argument(x, "no round", () -> x.set(1, 0));
        Check.argument(x, "5 rounds", () -> x.set(1, 5));
    }

    private static void rulesAndProgramsOfAllRounds() {
        Doc.edge(PART, "rules and programs are kept for all of the rounds 0 to 3");
        PianoRounds x = plainWorks(4);
        for (int round = 0; round < 4; round++) {
            x.setRule(round, 0, round + 2);
            setProgram(x, 1, round, "" + round);
        }
        x.set(1, 4);
        x.set(1, 1);
        for (int round = 0; round < 4; round++) {
            Check.due("rule of round " + round, x.rule(round, 0), round + 2);
            Check.same("program of round " + round, Check.program(x, 1, round), round + " -1 -1 -1");
            Check.due("flaw in round " + round, x.flaw(1, round), 2);
        }
    }

    private static void ruleIs(String words, int what, int lowest, int highest, int first) {
        Doc.edge(PART, words);
        PianoRounds x = new PianoRounds();
        for (int r = 0; r < 4; r++) {
            int round = r;
            Check.due("at first", x.rule(round, what), first);
            Check.argument(x, "too small", () -> x.setRule(round, what, lowest - 1));
            Check.argument(x, "too large", () -> x.setRule(round, what, highest + 1));
            Check.due("the smallest: what was", x.setRule(round, what, lowest), first);
            Check.due("the smallest", x.rule(round, what), lowest);
            Check.due("the largest: what was", x.setRule(round, what, highest), lowest);
            Check.due("the largest", x.rule(round, what), highest);
        }
    }

    private static void ruleOfLeastLength() {
        ruleIs("the least length (1 to 180, initially 1)", 0, 1, 180, 1);
    }

    private static void ruleOfGreatestLength() {
        ruleIs("the greatest length (1 to 180, initially 180)", 1, 1, 180, 180);
    }

    private static void ruleOfEras() {
        ruleIs("eras as a set (0 to 31, bit k for era k, initially 0)", 2, 0, 31, 0);
    }

    private static void ruleOfComposers() {
        ruleIs("how many works of the same composer are allowed (1 to 4, initially 4)", 3, 1, 4, 4);
    }

    private static void ruleOfNewWorks() {
        ruleIs("whether all has to be new (0 or 1, initially 0)", 4, 0, 1, 0);
    }

    private static void ruleOfPlaces() {
        ruleIs("the places (1 to 12, initially 12)", 5, 1, 12, 12);
    }

    private static void eachBitIsAnEra() {
        Doc.edge(PART, "bit k for era k");
        for (int era = 0; era < 5; era++) {
            PianoRounds x = works(new int[] {0, era, 1});
            x.setRule(0, 2, 1 << era);
            Check.due("flaw with the bit of era " + era, flawWith(x, "0"), 0);
            x.setRule(0, 2, 31 - (1 << era));
            Check.due("flaw with all other bits", x.flaw(0, 0), 4);
        }
    }

    private static void atMostFourDifferentWorks() {
        Doc.edge(PART, "at most 4 different works in an order (initially none)");
        PianoRounds x = plainWorks(6);
        for (int e = 0; e < 2; e++) {
            for (int round = 0; round < 4; round++) {
                Check.same("program at first", Check.program(x, e, round), "-1 -1 -1 -1");
            }
        }
        Check.due("four works", setProgram(x, 0, 3, "5,0,4,2"), 4);
        Check.same("their order", Check.program(x, 0, 3), "5 0 4 2");
        Check.text(x, "5,0,4,2,1");
        Check.argument(x, "five works", () -> x.setProgram(0, 3));
        Check.text(x, "5,0,4,5");
        Check.argument(x, "the same work twice", () -> x.setProgram(0, 3));
        Check.same("the program then", Check.program(x, 0, 3), "5 0 4 2");
        Check.due("a shorter one", setProgram(x, 0, 3, "1"), 1);
        Check.same("the shorter one", Check.program(x, 0, 3), "1 -1 -1 -1");
    }

    private static void firstFlawThatApplies() {
        Doc.edge(PART, "The flaw of a program for a round is the first of these that applies");
        PianoRounds x = works(new int[] {3, 0, 10}, new int[] {3, 1, 20});
        int[][] rules = {{0, 31}, {1, 29}, {2, 16}, {3, 1}, {4, 1}};
        for (int[] rule : rules) {
            x.setRule(1, rule[0], rule[1]);
        }
        Check.due("of all", x.flaw(0, 1), 1);
        setProgram(x, 0, 0, "1");
        setProgram(x, 0, 1, "0,1");
        Check.due("of 2 to 6", x.flaw(0, 1), 2);
        x.setRule(1, 0, 30);
        Check.due("of 3 to 6", x.flaw(0, 1), 3);
        x.setRule(1, 1, 30);
        Check.due("of 4 to 6", x.flaw(0, 1), 4);
        x.setRule(1, 2, 3);
        Check.due("of 5 and 6", x.flaw(0, 1), 5);
        x.setRule(1, 3, 2);
        Check.due("of 6", x.flaw(0, 1), 6);
    }

    private static void flawOfNoWorks() {
        Doc.edge(PART, "1: it has no works");
        PianoRounds x = plainWorks(1);
        for (int round = 0; round < 4; round++) {
            Check.due("flaw of an empty program", x.flaw(1, round), 1);
            setProgram(x, 1, round, "0");
            Check.due("flaw of one work", x.flaw(1, round), 0);
            x.clearProgram(1, round);
            Check.due("flaw of an emptied program", x.flaw(1, round), 1);
        }
    }

    private static void flawOfTooShort() {
        Doc.edge(PART, "2: the sum of the lengths of its works is less than the least length");
        PianoRounds x = works(new int[] {0, 0, 60}, new int[] {1, 0, 60}, new int[] {2, 0, 59}, new int[] {3, 0, 1});
        x.setRule(0, 0, 180);
        Check.due("179 of 180 minutes", flawWith(x, "0,1,2"), 2);
        Check.due("180 of 180 minutes", flawWith(x, "0,1,2,3"), 0);
        x.setRule(0, 0, 2);
        Check.due("1 of 2 minutes", flawWith(x, "3"), 2);
        x.setRule(0, 0, 1);
        Check.due("1 of 1 minute", x.flaw(0, 0), 0);
    }

    private static void flawOfTooLong() {
        Doc.edge(PART, "3: it is greater than the greatest length");
        PianoRounds x = works(new int[] {0, 0, 60}, new int[] {1, 0, 60}, new int[] {2, 0, 60}, new int[] {3, 0, 1},
                new int[] {4, 0, 60});
        Check.due("180 of 180 minutes", flawWith(x, "0,1,2"), 0);
        Check.due("181 of 180 minutes", flawWith(x, "0,1,2,3"), 3);
        Check.due("240 of 180 minutes", flawWith(x, "0,1,2,4"), 3);
        x.setRule(0, 1, 1);
        Check.due("1 of 1 minute", flawWith(x, "3"), 0);
        Check.due("60 of 1 minute", flawWith(x, "4"), 3);
    }

    private static void flawOfEras() {
        Doc.edge(PART, "4: an era of the set is that of none of its works");
        PianoRounds x = works(new int[] {0, 0, 1}, new int[] {0, 1, 1}, new int[] {0, 3, 1}, new int[] {0, 4, 1});
        Check.due("the empty set", flawWith(x, "0"), 0);
        x.setRule(0, 2, 1 + 2 + 8 + 16);
        Check.due("each era has a work", flawWith(x, "3,2,1,0"), 0);
        Check.due("era 4 is missing", flawWith(x, "2,1,0"), 4);
        Check.due("era 0 is missing", flawWith(x, "1,2,3"), 4);
        x.setRule(0, 2, 31);
        Check.due("era 2 is missing", flawWith(x, "3,2,1,0"), 4);
        x.setRule(0, 2, 8);
        Check.due("more eras than the set has", x.flaw(0, 0), 0);
    }

    private static void flawOfComposers() {
        Doc.edge(PART, "5: there are more works of the same composer than allowed");
        PianoRounds x = works(new int[] {9, 0, 1}, new int[] {9, 0, 1}, new int[] {9, 0, 1}, new int[] {9, 0, 1},
                new int[] {0, 0, 1}, new int[] {0, 0, 1});
        Check.due("4 of 4 allowed", flawWith(x, "0,1,2,3"), 0);
        x.setRule(0, 3, 3);
        Check.due("4 of 3 allowed", x.flaw(0, 0), 5);
        Check.due("3 of 3 allowed, and another", flawWith(x, "0,1,4,2"), 0);
        x.setRule(0, 3, 2);
        Check.due("3 of 2 allowed, and another", x.flaw(0, 0), 5);
        Check.due("2 and 2 of 2 allowed", flawWith(x, "0,4,1,5"), 0);
        x.setRule(0, 3, 1);
        Check.due("2 of 1 allowed", flawWith(x, "5,4"), 5);
        Check.due("1 and 1 of 1 allowed", flawWith(x, "5,0"), 0);
    }

    private static void flawOfWorksThatAreNotNew() {
        Doc.edge(PART, "6: all has to be new, and one of its works is in a program of the entrant, as it is now, "
                + "for a round with a lower number");
        PianoRounds x = plainWorks(5);
        for (int round = 0; round < 4; round++) {
            x.setRule(round, 4, 1);
            setProgram(x, 0, round, "" + round);
        }
        for (int round = 0; round < 4; round++) {
            Check.due("all new in round " + round, x.flaw(0, round), 0);
        }
        for (int round = 1; round < 4; round++) {
            for (int lower = 0; lower < round; lower++) {
                setProgram(x, 0, round, "4," + lower);
                Check.due("a work of round " + lower + " in round " + round, x.flaw(0, round), 6);
            }
            setProgram(x, 0, round, "" + round);
        }
        setProgram(x, 0, 1, "3");
        Check.due("a work of a higher round", x.flaw(0, 1), 0);
        Check.due("round 3 then", x.flaw(0, 3), 6);
        x.setRule(3, 4, 0);
        Check.due("round 3, when it has not to be new", x.flaw(0, 3), 0);
        x.undo();
        setProgram(x, 1, 0, "3");
        x.clearProgram(0, 1);
        Check.due("as the programs are now, and a work of another entrant", x.flaw(0, 3), 0);
        PianoRounds begun = Check.entrants(1, 3, 1);
        begun.setRule(1, 4, 1);
        begun.setProgram(0, 1);
        begun.begin(0);
        begun.play(0);
        Check.due("a work that has been played", begun.flaw(0, 1), 6);
        setProgram(begun, 0, 0, "2");
        Check.due("as the program is now, not as it was played", begun.flaw(0, 1), 0);
    }

    private static void noFlaw() {
        Doc.edge(PART, "If none applies, it is 0.");
        PianoRounds x = works(new int[] {0, 0, 30}, new int[] {1, 4, 30});
        int[][] rules = {{0, 60}, {1, 60}, {2, 17}, {3, 1}, {4, 1}};
        for (int round = 0; round < 4; round++) {
            for (int[] rule : rules) {
                x.setRule(round, rule[0], rule[1]);
            }
        }
        setProgram(x, 0, 3, "1,0");
        Check.due("all rules are just kept", x.flaw(0, 3), 0);
    }

    // ---- Promise 9

    private static void setProgramTakesFourRounds() {
        Doc.edge("Promise 9", "`round`: a round, 0 to 3");
        PianoRounds x = plainWorks(4);
        for (int round = 0; round < 4; round++) {
            setProgram(x, 1, round, "" + round);
        }
        for (int round = 0; round < 4; round++) {
            Check.due("work of round " + round, x.program(1, round, 0), round);
            Check.due("work of the other entrant", x.program(0, round, 0), -1);
        }
    }

    private static void setProgramLeavesTheText() {
        Doc.edge("Promise 9", "the text stays.");
        PianoRounds x = plainWorks(12);
        setProgram(x, 0, 0, "11,10");
        Check.due("the same text once more", x.setProgram(1, 2), 2);
        Check.same("program", Check.program(x, 1, 2), "11 10 -1 -1");
        Check.due("its length", x.clearText(), 5);
    }

    private static void setProgramTellsTheNumber() {
        Doc.edge("Promise 9", "Returns the number of works.");
        PianoRounds x = plainWorks(30);
        Check.due("one", setProgram(x, 0, 0, "29"), 1);
        Check.due("two", setProgram(x, 0, 0, "00,1"), 2);
        Check.due("three", setProgram(x, 0, 0, "9,10,11"), 3);
        Check.due("four", setProgram(x, 0, 0, "29,28,27,26"), 4);
    }

    private static void setProgramRefusesNoEntrantOrRound() {
        Doc.edge("Promise 9", "Throws `IndexOutOfBoundsException` if there is no such entrant or round");
        PianoRounds x = plainWorks(1);
        Check.text(x, "0");
        for (int entrant : Check.around(0, 1)) {
            Check.index(x, "setProgram(" + entrant + ", 0) of two", () -> x.setProgram(entrant, 0));
        }
        for (int round : Check.around(0, 3)) {
            Check.index(x, "setProgram(0, " + round + ")", () -> x.setProgram(0, round));
        }
    }

    private static void setProgramRefusesAFault() {
        Doc.edge("Promise 9", "Throws `IllegalArgumentException` if the text has a fault");
        PianoRounds x = plainWorks(5);
        setProgram(x, 0, 0, "3,1");
        String[] faults = {"", ",", "1,", "1,,2", "x", "0 ", "012", "0,1,2,3,", "0,1,2,3,4", "5", "0,5", "1,01", "0,1,0"};
        for (String fault : faults) {
            Check.text(x, fault);
            Check.argument(x, "setProgram(0, 0) of \"" + fault + "\"", () -> x.setProgram(0, 0));
        }
        Check.same("the program then", Check.program(x, 0, 0), "3 1 -1 -1");
    }

    // ---- Promise 10

    private static void clearProgramTakesFourRounds() {
        Doc.edge("Promise 10", "`round`: a round, 0 to 3");
        for (int round = 0; round < 4; round++) {
            PianoRounds x = Check.rounds(1, 2, 3, 1);
            Check.due("clearProgram(1, " + round + ")", x.clearProgram(1, round), 1);
            for (int told = 0; told < 4; told++) {
                Check.due("program(1, " + told + ", 0)", x.program(1, told, 0), told == round ? -1 : 0);
                Check.due("program(0, " + told + ", 0)", x.program(0, told, 0), 0);
            }
        }
    }

    private static void clearProgramTellsTheNumber() {
        Doc.edge("Promise 10", "Returns the number of works that it had.");
        PianoRounds x = plainWorks(4);
        Check.due("none", x.clearProgram(1, 3), 0);
        setProgram(x, 1, 3, "0");
        Check.due("one", x.clearProgram(1, 3), 1);
        setProgram(x, 1, 3, "0,1,2,3");
        Check.due("four", x.clearProgram(1, 3), 4);
        Check.due("none then", x.clearProgram(1, 3), 0);
        Check.same("the program then", Check.program(x, 1, 3), "-1 -1 -1 -1");
    }

    private static void clearProgramRefusesNoEntrantOrRound() {
        Doc.edge("Promise 10", "Throws `IndexOutOfBoundsException` if there is no such entrant or round");
        PianoRounds x = plainWorks(1);
        for (int entrant : Check.around(0, 1)) {
            Check.index(x, "clearProgram(" + entrant + ", 0) of two", () -> x.clearProgram(entrant, 0));
        }
        for (int round : Check.around(0, 3)) {
            Check.index(x, "clearProgram(0, " + round + ")", () -> x.clearProgram(0, round));
        }
    }

    // ---- Promise 11

    private static void programTakesFourRounds() {
        Doc.edge("Promise 11", "`round`: a round, 0 to 3");
        PianoRounds x = plainWorks(4);
        for (int round = 0; round < 4; round++) {
            setProgram(x, 0, round, "" + round);
            Check.due("program(0, " + round + ", 0)", x.program(0, round, 0), round);
        }
    }

    private static void programTakesPlaces() {
        Doc.edge("Promise 11", "`k`: its place, from 0");
        PianoRounds x = plainWorks(30);
        setProgram(x, 1, 3, "29,0,28,1");
        int[] due = {29, 0, 28, 1};
        for (int k = 0; k < 4; k++) {
            Check.due("program(1, 3, " + k + ")", x.program(1, 3, k), due[k]);
        }
    }

    private static void programTellsNone() {
        Doc.edge("Promise 11", "NONE if there is none at this place (also if k is negative).");
        PianoRounds x = plainWorks(5);
        setProgram(x, 0, 1, "1,2,3,4");
        setProgram(x, 0, 2, "4,3");
        setProgram(x, 1, 0, "2");
        for (int k : Check.around(0, 3)) {
            Check.due("program(0, 1, " + k + ") of four works", x.program(0, 1, k), -1);
        }
        Check.due("the last of four", x.program(0, 1, 3), 4);
        Check.due("the second of two", x.program(0, 2, 1), 3);
        Check.due("the third of two", x.program(0, 2, 2), -1);
        Check.due("the first of none", x.program(0, 3, 0), -1);
    }

    private static void programRefusesNoEntrantOrRound() {
        Doc.edge("Promise 11", "Throws `IndexOutOfBoundsException` if there is no such entrant or round");
        PianoRounds x = plainWorks(1);
        for (int entrant : Check.around(0, 1)) {
            Check.index(x, "program(" + entrant + ", 0, 0) of two", () -> x.program(entrant, 0, 0));
        }
        for (int round : Check.around(0, 3)) {
            Check.index(x, "program(0, " + round + ", -1)", () -> x.program(0, round, -1));
        }
    }

    // ---- Promise 12

    private static void flawTakesFourRounds() {
        Doc.edge("Promise 12", "`round`: a round, 0 to 3");
        for (int round = 0; round < 4; round++) {
            PianoRounds x = Check.rounds(1, 2, 3, 1);
            x.setRule(round, 0, 180);
            for (int told = 0; told < 4; told++) {
                Check.due("flaw(1, " + told + ")", x.flaw(1, told), told == round ? 2 : 0);
            }
        }
    }

    private static void flawIsZeroToSix() {
        Doc.edge("Promise 12", "Returns the flaw, 0 to 6.");
        PianoRounds x = plainWorks(2);
        Check.due("the first flaw", x.flaw(0, 1), 1);
        setProgram(x, 0, 0, "0");
        setProgram(x, 0, 1, "0");
        Check.due("no flaw", x.flaw(0, 1), 0);
        x.setRule(1, 4, 1);
        Check.due("the last flaw", x.flaw(0, 1), 6);
    }

    private static void flawRefusesNoEntrantOrRound() {
        Doc.edge("Promise 12", "Throws `IndexOutOfBoundsException` if there is no such entrant or round");
        PianoRounds x = plainWorks(1);
        for (int entrant : Check.around(0, 1)) {
            Check.index(x, "flaw(" + entrant + ", 0) of two", () -> x.flaw(entrant, 0));
        }
        for (int round : Check.around(0, 3)) {
            Check.index(x, "flaw(0, " + round + ")", () -> x.flaw(0, round));
        }
        PianoRounds none = new PianoRounds();
        Check.index(none, "flaw(0, 0) without entrants", () -> none.flaw(0, 0));
    }
}
