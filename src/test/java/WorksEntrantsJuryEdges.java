/** Edges of works, entrants, jury, settings and rules: that part of "Description", and promises 1 to 8. */
final class WorksEntrantsJuryEdges {
    private static final String PART = "WORKS, ENTRANTS, JURY";

    static void run() {
        Check.each(
                WorksEntrantsJuryEdges::atMostThirtyWorks,
                WorksEntrantsJuryEdges::rangesOfAWork,
                WorksEntrantsJuryEdges::atMostTwelveEntrants,
                WorksEntrantsJuryEdges::threeToSevenJurors,
                WorksEntrantsJuryEdges::nobodyIsBarredAtFirst,
                WorksEntrantsJuryEdges::barringsAreKeptWithoutTheJuror,
                WorksEntrantsJuryEdges::newObjectIsEmpty,
                WorksEntrantsJuryEdges::addWorkTakesComposers,
                WorksEntrantsJuryEdges::addWorkTakesEras,
                WorksEntrantsJuryEdges::addWorkTakesMinutes,
                WorksEntrantsJuryEdges::addWorkRefusesWhatIsOutOfRange,
                WorksEntrantsJuryEdges::addWorkRefusesWhenBegunOrFull,
                WorksEntrantsJuryEdges::workTellsThreeThings,
                WorksEntrantsJuryEdges::workRefusesNoWork,
                WorksEntrantsJuryEdges::workRefusesWhat,
                WorksEntrantsJuryEdges::addEntrantRefusesWhenBegunOrFull,
                WorksEntrantsJuryEdges::barTellsWhatWas,
                WorksEntrantsJuryEdges::barRefusesNoJurorOrEntrant,
                WorksEntrantsJuryEdges::setChangesJustOne,
                WorksEntrantsJuryEdges::setRefusesWhatIsOutOfRange,
                WorksEntrantsJuryEdges::setRefusesWhenBegun,
                WorksEntrantsJuryEdges::setRuleTakesFourRounds,
                WorksEntrantsJuryEdges::setRuleChangesJustOne,
                WorksEntrantsJuryEdges::setRuleRefusesNoRound,
                WorksEntrantsJuryEdges::setRuleRefusesWhatIsOutOfRange,
                WorksEntrantsJuryEdges::setRuleRefusesWhenBegun,
                WorksEntrantsJuryEdges::ruleTakesFourRounds,
                WorksEntrantsJuryEdges::ruleTellsSixRules,
                WorksEntrantsJuryEdges::ruleRefusesNoRound,
                WorksEntrantsJuryEdges::ruleRefusesWhat);
    }

    // ---- Description

    private static void atMostThirtyWorks() {
        Doc.edge(PART, "There are at most 30 works, numbered from 0 in the order in which they were added");
        PianoRounds x = new PianoRounds();
        for (int w = 0; w < 30; w++) {
            Check.due("addWork", x.addWork(w % 10, w % 5, w + 1), w);
        }
        Check.state(x, "addWork, the 31st", () -> x.addWork(0, 0, 1));
        Check.due("works", x.info(5), 30);
        for (int w = 0; w < 30; w++) {
            Check.due("composer of " + w, x.work(w, 0), w % 10);
            Check.due("era of " + w, x.work(w, 1), w % 5);
            Check.due("length of " + w, x.work(w, 2), w + 1);
        }
    }

    private static void rangesOfAWork() {
        Doc.edge(PART, "a work has a composer (0 to 9), an era (0 to 4) and a length (1 to 60 minutes)");
        PianoRounds x = new PianoRounds();
        x.addWork(0, 0, 1);
        x.addWork(9, 4, 60);
        Check.due("least composer", x.work(0, 0), 0);
        Check.due("least era", x.work(0, 1), 0);
        Check.due("least length", x.work(0, 2), 1);
        Check.due("greatest composer", x.work(1, 0), 9);
        Check.due("greatest era", x.work(1, 1), 4);
        Check.due("greatest length", x.work(1, 2), 60);
    }

    private static void atMostTwelveEntrants() {
        Doc.edge(PART, "There are at most 12 entrants, numbered from 0");
        PianoRounds x = new PianoRounds();
        for (int e = 0; e < 12; e++) {
            Check.due("addEntrant()", x.addEntrant(), e);
        }
        Check.state(x, "addEntrant(), the 13th", () -> x.addEntrant());
        Check.due("entrants", x.info(6), 12);
        Check.due("the last one is in", x.entrant(11, 0), 1);
        Check.index(x, "entrant(12, 0)", () -> x.entrant(12, 0));
    }

    private static void threeToSevenJurors() {
        Doc.edge(PART, "There are J jurors, 3 to 7 (initially 5), numbered from 0");
        PianoRounds x = new PianoRounds();
        x.addEntrant();
        Check.due("J at first", x.info(0), 5);
        Check.due("juror 4 at first", x.marked(4, 0, false), -1);
        Check.index(x, "juror 5 at first", () -> x.marked(5, 0, false));
        for (int jurors : new int[] {3, 4, 5, 6, 7}) {
            x.set(0, jurors);
            Check.due("J", x.info(0), jurors);
            Check.due("juror 0", x.marked(0, 0, false), -1);
            Check.due("the last juror", x.marked(jurors - 1, 0, false), -1);
            Check.index(x, "a juror behind the last of " + jurors, () -> x.marked(jurors, 0, false));
        }
        Check.argument(x, "2 jurors", () -> x.set(0, 2));
        Check.argument(x, "8 jurors", () -> x.set(0, 8));
    }

    private static void nobodyIsBarredAtFirst() {
        Doc.edge(PART, "A juror may be barred from an entrant (initially none is)");
        PianoRounds x = Check.entrants(12, 7, 12);
        for (int e = 0; e < 12; e++) {
            for (int j = 0; j < 7; j++) {
                Check.due("barred at first: " + j + " from " + e, Check.bar(x, j, e, true), 0);
            }
        }
        Check.due("barred then: the first", Check.bar(x, 0, 0, true), 1);
        Check.due("barred then: the last", Check.bar(x, 6, 11, true), 1);
    }

    private static void barringsAreKeptWithoutTheJuror() {
        Doc.edge(PART, "this is kept also while there is no juror with this number");
        PianoRounds x = Check.entrants(2, 7, 2);
        x.bar(6, 1, true);
        x.bar(3, 0, true);
        x.set(0, 3);
        x.addEntrant();
        x.set(0, 7);
        Check.due("juror 6 is barred from 1", Check.bar(x, 6, 1, false), 1);
        Check.due("juror 3 is barred from 0", Check.bar(x, 3, 0, false), 1);
        Check.due("juror 6 is not barred from 0", Check.bar(x, 6, 0, false), 0);
        x.bar(3, 0, true);
        x.set(0, 3);
        x.begin(0);
        Check.playAll(x);
        Check.markEach(x, 10, 20);
        Check.due("without juror 3: the performance of 0", x.entrant(0, 5), 1);
        Check.due("without juror 3: marks that count of 0", x.entrant(0, 3), 3);
    }

    // ---- Promise 1

    private static void newObjectIsEmpty() {
        Doc.edge("Promise 1", "Creates a competition in state 0 without works and entrants.");
        PianoRounds x = new PianoRounds();
        Check.due("state", x.info(3), 0);
        Check.due("works", x.info(5), 0);
        Check.due("entrants", x.info(6), 0);
        Check.due("entrants who are in", x.info(7), 0);
        Check.index(x, "work(0, 0)", () -> x.work(0, 0));
        Check.index(x, "entrant(0, 0)", () -> x.entrant(0, 0));
    }

    // ---- Promise 2

    private static void addWorkTakesComposers() {
        Doc.edge("Promise 2", "`composer`: 0 to 9");
        PianoRounds x = new PianoRounds();
        for (int composer = 0; composer <= 9; composer++) {
            x.addWork(composer, 0, 1);
            Check.due("composer", x.work(composer, 0), composer);
        }
    }

    private static void addWorkTakesEras() {
        Doc.edge("Promise 2", "`era`: 0 to 4");
        PianoRounds x = new PianoRounds();
        for (int era = 0; era <= 4; era++) {
            x.addWork(0, era, 1);
            Check.due("era", x.work(era, 1), era);
        }
    }

    private static void addWorkTakesMinutes() {
        Doc.edge("Promise 2", "`minutes`: 1 to 60");
        PianoRounds x = new PianoRounds();
        for (int minutes : new int[] {1, 2, 59, 60}) {
            int work = x.addWork(0, 0, minutes);
            Check.due("length", x.work(work, 2), minutes);
        }
    }

    private static void addWorkRefusesWhatIsOutOfRange() {
        Doc.edge("Promise 2", "Throws `IllegalArgumentException` if one of them is out of range");
        PianoRounds x = new PianoRounds();
        for (int composer : Check.around(0, 9)) {
            Check.argument(x, "addWork(" + composer + ", 0, 1)", () -> x.addWork(composer, 0, 1));
        }
        for (int era : Check.around(0, 4)) {
            Check.argument(x, "addWork(0, " + era + ", 1)", () -> x.addWork(0, era, 1));
        }
        for (int minutes : Check.around(1, 60)) {
            Check.argument(x, "addWork(0, 0, " + minutes + ")", () -> x.addWork(0, 0, minutes));
        }
        Check.argument(x, "addWork(10, 5, 61)", () -> x.addWork(10, 5, 61));
        Check.due("works", x.info(5), 0);
    }

    private static void addWorkRefusesWhenBegunOrFull() {
        Doc.edge("Promise 2", "Throws `IllegalStateException` if the state is not 0, or there are 30 works");
        for (int state = 1; state <= 3; state++) {
            PianoRounds begun = Check.inState(state);
            Check.state(begun, "addWork in state " + state, () -> begun.addWork(0, 0, 1));
        }
        PianoRounds x = new PianoRounds();
        for (int w = 0; w < 29; w++) {
            x.addWork(0, 0, 1);
        }
        Check.due("the 30th", x.addWork(0, 0, 1), 29);
        Check.state(x, "the 31st", () -> x.addWork(0, 0, 1));
        x.undo();
        Check.due("the 30th again, after undo()", x.addWork(9, 4, 60), 29);
        Check.due("its length", x.work(29, 2), 60);
    }

    // ---- Promise 3

    private static void workTellsThreeThings() {
        Doc.edge("Promise 3", "`what`: 0 its composer, 1 its era, 2 its length");
        PianoRounds x = new PianoRounds();
        x.addWork(7, 3, 41);
        Check.due("composer", x.work(0, 0), 7);
        Check.due("era", x.work(0, 1), 3);
        Check.due("length", x.work(0, 2), 41);
    }

    private static void workRefusesNoWork() {
        Doc.edge("Promise 3", "Throws `IndexOutOfBoundsException` if there is no such work");
        PianoRounds x = new PianoRounds();
        Check.index(x, "work(0, 0) without works", () -> x.work(0, 0));
        x.addWork(0, 0, 1);
        x.addWork(0, 0, 1);
        for (int work : Check.around(0, 1)) {
            Check.index(x, "work(" + work + ", 0) of two", () -> x.work(work, 0));
        }
        x.undo();
        Check.index(x, "work(1, 0) after undo()", () -> x.work(1, 0));
        for (int w = 1; w < 30; w++) {
            x.addWork(0, 0, 1);
        }
        Check.index(x, "work(30, 0) of thirty", () -> x.work(30, 0));
    }

    private static void workRefusesWhat() {
        Doc.edge("Promise 3", "Throws `IllegalArgumentException` if what is not 0 to 2");
        PianoRounds x = new PianoRounds();
        x.addWork(0, 0, 1);
        for (int what : Check.around(0, 2)) {
            Check.argument(x, "work(0, " + what + ")", () -> x.work(0, what));
        }
    }

    // ---- Promise 4

    private static void addEntrantRefusesWhenBegunOrFull() {
        Doc.edge("Promise 4", "Throws `IllegalStateException` if the state is not 0, or there are 12 entrants");
        for (int state = 1; state <= 3; state++) {
            PianoRounds begun = Check.inState(state);
            Check.state(begun, "addEntrant() in state " + state, () -> begun.addEntrant());
        }
        PianoRounds x = Check.entrants(11, 3, 1);
        Check.due("the 12th", x.addEntrant(), 11);
        Check.state(x, "the 13th", () -> x.addEntrant());
        x.withdraw(0);
        Check.state(x, "the 13th, when one is out", () -> x.addEntrant());
        x.undo();
        x.undo();
        Check.due("the 12th again, after undo()", x.addEntrant(), 11);
    }

    // ---- Promise 5

    private static void barTellsWhatWas() {
        Doc.edge("Promise 5", "Returns whether the juror was barred.");
        PianoRounds x = Check.entrants(12, 7, 1);
        Check.due("bar", Check.bar(x, 6, 11, true), 0);
        Check.due("bar again", Check.bar(x, 6, 11, true), 1);
        Check.due("end it", Check.bar(x, 6, 11, false), 1);
        Check.due("end it again", Check.bar(x, 6, 11, false), 0);
        Check.due("bar then", Check.bar(x, 6, 11, true), 0);
    }

    private static void barRefusesNoJurorOrEntrant() {
        Doc.edge("Promise 5", "Throws `IndexOutOfBoundsException` if there is no such juror or entrant");
        for (int jurors = 3; jurors <= 7; jurors++) {
            PianoRounds x = Check.entrants(2, jurors, 1);
            for (int juror : Check.around(0, jurors - 1)) {
                Check.index(x, "bar(" + juror + ", 0) of " + jurors, () -> Check.bar(x, juror, 0, true));
            }
            for (int entrant : Check.around(0, 1)) {
                Check.index(x, "bar(0, " + entrant + ") of two", () -> Check.bar(x, 0, entrant, true));
            }
        }
        PianoRounds none = new PianoRounds();
        Check.index(none, "bar(0, 0) without entrants", () -> Check.bar(none, 0, 0, false));
    }

    // ---- Promise 6

    private static void setChangesJustOne() {
        Doc.edge("Promise 6", "`what`: 0 J, 1 the number of rounds, 2 the penalty");
        int[][] due = {{3, 1, 50}, {5, 3, 50}, {5, 1, 3}};
        for (int what = 0; what < 3; what++) {
            PianoRounds x = new PianoRounds();
            x.set(what, 3);
            for (int told = 0; told < 3; told++) {
                Check.due("info(" + told + ") after set(" + what + ", 3)", x.info(told), due[what][told]);
            }
        }
    }

    private static void setRefusesWhatIsOutOfRange() {
        Doc.edge("Promise 6", "Throws `IllegalArgumentException` if what or value is out of range");
        PianoRounds x = new PianoRounds();
        for (int what : Check.around(0, 2)) {
            Check.argument(x, "set(" + what + ", 3)", () -> x.set(what, 3));
        }
        int[][] ranges = {{3, 7, 5}, {1, 4, 1}, {0, 100, 50}};
        for (int w = 0; w < 3; w++) {
            int what = w;
            int lowest = ranges[what][0];
            int highest = ranges[what][1];
            for (int value : Check.around(lowest, highest)) {
                Check.argument(x, "set(" + what + ", " + value + ")", () -> x.set(what, value));
            }
            Check.due("set(" + what + ", " + lowest + ")", x.set(what, lowest), ranges[what][2]);
            Check.due("set(" + what + ", " + highest + ")", x.set(what, highest), lowest);
            Check.due("info(" + what + ")", x.info(what), highest);
        }
    }

    private static void setRefusesWhenBegun() {
        Doc.edge("Promise 6", "Throws `IllegalStateException` if what is 0 or 1, and the state is not 0");
        for (int state = 1; state <= 3; state++) {
            PianoRounds x = Check.inState(state);
            Check.state(x, "set(0, 3) in state " + state, () -> x.set(0, 3));
            Check.state(x, "set(1, 2) in state " + state, () -> x.set(1, 2));
            Check.due("set(2, 0) in state " + state, x.set(2, 0), 50);
        }
    }

    // ---- Promise 7

    private static void setRuleTakesFourRounds() {
        Doc.edge("Promise 7", "`round`: a round, 0 to 3");
        PianoRounds x = new PianoRounds();
        for (int round = 0; round < 4; round++) {
            Check.due("setRule of round " + round, x.setRule(round, 5, round + 1), 12);
        }
        for (int round = 0; round < 4; round++) {
            Check.due("rule of round " + round, x.rule(round, 5), round + 1);
        }
    }

    private static void setRuleChangesJustOne() {
        Doc.edge("Promise 7", "`what`: 0 the least, 1 the greatest length, 2 the eras, 3 how many works of the same "
                + "composer, 4 whether all has to be new, 5 the places");
        int[] first = {1, 180, 0, 4, 0, 12};
        int[] then = {180, 1, 31, 1, 1, 1};
        for (int what = 0; what < 6; what++) {
            PianoRounds x = new PianoRounds();
            x.setRule(3, what, then[what]);
            for (int told = 0; told < 6; told++) {
                Check.due("rule(3, " + told + ")", x.rule(3, told), told == what ? then[told] : first[told]);
                Check.due("rule(2, " + told + ")", x.rule(2, told), first[told]);
            }
        }
    }

    private static void setRuleRefusesNoRound() {
        Doc.edge("Promise 7", "Throws `IndexOutOfBoundsException` if there is no such round");
        PianoRounds x = new PianoRounds();
        for (int round : Check.around(0, 3)) {
            Check.index(x, "setRule(" + round + ", 5, 1)", () -> x.setRule(round, 5, 1));
        }
    }

    private static void setRuleRefusesWhatIsOutOfRange() {
        Doc.edge("Promise 7", "Throws `IllegalArgumentException` if what or value is out of range");
        PianoRounds x = new PianoRounds();
        for (int what : Check.around(0, 5)) {
            Check.argument(x, "setRule(0, " + what + ", 1)", () -> x.setRule(0, what, 1));
        }
        int[][] ranges = {{1, 180}, {1, 180}, {0, 31}, {1, 4}, {0, 1}, {1, 12}};
        for (int w = 0; w < 6; w++) {
            int what = w;
            for (int value : Check.around(ranges[what][0], ranges[what][1])) {
                Check.argument(x, "setRule(3, " + what + ", " + value + ")", () -> x.setRule(3, what, value));
            }
        }
    }

    private static void setRuleRefusesWhenBegun() {
        Doc.edge("Promise 7", "Throws `IllegalStateException` if the state is not 0");
        for (int state = 1; state <= 3; state++) {
            PianoRounds x = Check.inState(state);
            for (int w = 0; w < 6; w++) {
                int what = w;
                Check.state(x, "setRule(0, " + what + ", 1) in state " + state, () -> x.setRule(0, what, 1));
                Check.state(x, "setRule(3, " + what + ", 1) in state " + state, () -> x.setRule(3, what, 1));
            }
        }
    }

    // ---- Promise 8

    private static void ruleTakesFourRounds() {
        Doc.edge("Promise 8", "`round`: a round, 0 to 3");
        PianoRounds x = new PianoRounds();
        for (int round = 0; round < 4; round++) {
            Check.due("rule(" + round + ", 1)", x.rule(round, 1), 180);
        }
    }

    private static void ruleTellsSixRules() {
        Doc.edge("Promise 8", "`what`: as for setRule()");
        PianoRounds x = new PianoRounds();
        int[] first = {1, 180, 0, 4, 0, 12};
        for (int what = 0; what < 6; what++) {
            Check.due("rule(0, " + what + ")", x.rule(0, what), first[what]);
        }
    }

    private static void ruleRefusesNoRound() {
        Doc.edge("Promise 8", "Throws `IndexOutOfBoundsException` if there is no such round");
        PianoRounds x = new PianoRounds();
        for (int round : Check.around(0, 3)) {
            Check.index(x, "rule(" + round + ", 0)", () -> x.rule(round, 0));
        }
    }

    private static void ruleRefusesWhat() {
        Doc.edge("Promise 8", "Throws `IllegalArgumentException` if what is not 0 to 5");
        PianoRounds x = new PianoRounds();
        for (int what : Check.around(0, 5)) {
            Check.argument(x, "rule(3, " + what + ")", () -> x.rule(3, what));
        }
    }
}
