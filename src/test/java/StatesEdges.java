/** Edges of states, the beginning of rounds and lots: that part of "Description", and promises 13, 14 and 18. */
final class StatesEdges {
    private static final String PART = "STATES";

    static void run() {
        Check.each(
                StatesEdges::notBegunAtFirst,
                StatesEdges::allAreInAtFirst,
                StatesEdges::onlyInStateZero,
                StatesEdges::alwaysToBeChanged,
                StatesEdges::roundBeginsWithThoseWhoAreIn,
                StatesEdges::thoseWithAFlawAreOut,
                StatesEdges::playersAreTheOthers,
                StatesEdges::roundWithoutPlayersIsTheLast,
                StatesEdges::lotsForEachPlace,
                StatesEdges::lotsGoOnFromRoundToRound,
                StatesEdges::lotsWrapAround,
                StatesEdges::lotsChangePlaces,
                StatesEdges::beginTakesSeeds,
                StatesEdges::beginTellsThePlayers,
                StatesEdges::beginRefusesNegativeSeeds,
                StatesEdges::beginRefusesWhenBegun,
                StatesEdges::playTakesSlips,
                StatesEdges::playRefusesSlips,
                StatesEdges::playRefusesWhenNobodyCanPlay,
                StatesEdges::withdrawnPlayerIsNoPlayer,
                StatesEdges::lastPlayerWithdraws,
                StatesEdges::withdrawTellsThoseWhoAreIn,
                StatesEdges::withdrawRefusesNoEntrant,
                StatesEdges::withdrawRefusesTheOthers);
    }

    // ---- Description

    private static void notBegunAtFirst() {
        Doc.edge(PART, "0 not begun (initially), 1 in a round, 2 in a tie round, 3 over");
        Check.due("state of a new object", new PianoRounds().info(3), 0);
        for (int state = 0; state <= 3; state++) {
            Check.due("state", Check.inState(state).info(3), state);
        }
    }

    private static void allAreInAtFirst() {
        Doc.edge(PART, "Each entrant is in, or out (initially all are in).");
        PianoRounds x = new PianoRounds();
        for (int e = 0; e < 12; e++) {
            x.addEntrant();
        }
        for (int e = 0; e < 12; e++) {
            Check.due("entrant " + e + " is in", x.entrant(e, 0), 1);
        }
        x.withdraw(11);
        Check.due("entrant 11 is in", x.entrant(11, 0), 0);
        Check.due("entrants who are in", x.info(7), 11);
    }

    private static void onlyInStateZero() {
        Doc.edge(PART, "Works, entrants, J, the number of rounds, and rules can be changed only in state 0");
        for (int state = 1; state <= 3; state++) {
            PianoRounds x = Check.inState(state);
            Check.state(x, "addWork in state " + state, () -> x.addWork(0, 0, 1));
            Check.state(x, "addEntrant in state " + state, () -> x.addEntrant());
            Check.state(x, "set J in state " + state, () -> x.set(0, 3));
            Check.state(x, "set the rounds in state " + state, () -> x.set(1, 1));
            Check.state(x, "setRule in state " + state, () -> x.setRule(3, 5, 1));
        }
        PianoRounds x = Check.inState(0);
        Check.due("addWork in state 0", x.addWork(0, 0, 1), 3);
        Check.due("addEntrant in state 0", x.addEntrant(), 3);
        Check.due("set J in state 0", x.set(0, 4), 3);
        Check.due("set the rounds in state 0", x.set(1, 4), 1);
        Check.due("setRule in state 0", x.setRule(3, 5, 1), 12);
    }

    private static void alwaysToBeChanged() {
        Doc.edge(PART, "programs, barrings and the penalty always");
        for (int state = 0; state <= 3; state++) {
            PianoRounds x = Check.inState(state);
            Check.due("setProgram in state " + state, x.setProgram(2, 3), 1);
            Check.due("program in state " + state, x.program(2, 3, 0), 0);
            Check.due("clearProgram in state " + state, x.clearProgram(2, 3), 1);
            Check.due("program in state " + state + " then", x.program(2, 3, 0), -1);
            Check.due("bar in state " + state, Check.bar(x, 2, 2, true), 0);
            Check.due("end the bar in state " + state, Check.bar(x, 2, 2, false), 1);
            Check.due("set the penalty in state " + state, x.set(2, 100), 50);
            Check.due("penalty in state " + state, x.info(2), 100);
        }
    }

    private static void roundBeginsWithThoseWhoAreIn() {
        Doc.edge(PART, "A round begins with the entrants who are in");
        PianoRounds x = Check.rounds(2, 4, 3, 2);
        x.withdraw(0);
        Check.due("players of round 0: entrant 0 is out", x.begin(1), 3);
        Check.due("place of entrant 0", x.entrant(0, 1), -1);
        Check.playAll(x);
        Check.markAll(x, 1, 30);
        Check.markAll(x, 2, 40);
        Check.markAll(x, 3, 50);
        Check.due("close() of round 0", x.close(), 1);
        Check.due("players of round 1: 1 is out, too", x.info(8), 2);
        Check.due("place of entrant 1", x.entrant(1, 1), -1);
        Check.due("flaw of entrant 1, all the same", x.flaw(1, 1), 0);
    }

    /** Entrant 1 has this flaw in round 0 (6: in round 1), entrant 0 has none. */
    private static PianoRounds flawed(int flaw) {
        PianoRounds x = Check.rounds(2, 2, 3, 12);
        int other = x.addWork(0, 0, 10);
        int[][] rules = {{0, 5, 12}, {0, 0, 15}, {0, 1, 15}, {0, 2, 1}, {0, 3, 1}, {1, 4, 1}};
        x.setRule(rules[flaw - 1][0], rules[flaw - 1][1], rules[flaw - 1][2]);
        String[] fine = {"0", "1", "0", "0", "0", "0"};
        String[] bad = {"", "0", "1", "1", "0," + other, "0"};
        Check.text(x, fine[flaw - 1]);
        x.setProgram(0, 0);
        x.clearProgram(1, 0);
        if (flaw > 1) {
            Check.text(x, bad[flaw - 1]);
            x.setProgram(1, 0);
        }
        Check.text(x, "1");
        x.setProgram(0, 1);
        return x;
    }

    private static void thoseWithAFlawAreOut() {
        Doc.edge(PART, "those whose program for it has a flaw other than 0 are out then");
        for (int flaw = 1; flaw <= 5; flaw++) {
            PianoRounds x = flawed(flaw);
            Check.due("flaw of entrant 1", x.flaw(1, 0), flaw);
            Check.due("in before the round, with flaw " + flaw, x.entrant(1, 0), 1);
            Check.due("players, with flaw " + flaw, x.begin(3), 1);
            Check.due("in then, with flaw " + flaw, x.entrant(1, 0), 0);
        }
        PianoRounds x = flawed(6);
        Check.due("players of round 0", x.begin(3), 2);
        Check.playAll(x);
        Check.due("flaw of entrant 1 in round 1", x.flaw(1, 1), 6);
        Check.closeWith(x, 50, 90);
        Check.due("players of round 1", x.info(8), 1);
        Check.due("in then, with flaw 6", x.entrant(1, 0), 0);
        x.clearProgram(0, 1);
        Check.due("a flaw during the round: in", x.entrant(0, 0), 1);
        Check.due("a flaw during the round: players", x.info(8), 1);
    }

    private static void playersAreTheOthers() {
        Doc.edge(PART, "The others are the players of the round.");
        PianoRounds x = Check.entrants(12, 3, 12);
        Check.due("all twelve", x.begin(4), 12);
        x.undo();
        for (int e = 0; e < 11; e++) {
            x.clearProgram(e, 0);
        }
        Check.due("the last one alone", x.begin(4), 1);
        Check.due("who it is", x.stage(0), 11);
    }

    private static void roundWithoutPlayersIsTheLast() {
        Doc.edge(PART, "If there are none, the competition is over (in this round).");
        PianoRounds none = new PianoRounds();
        Check.due("begin without entrants", none.begin(5), 0);
        Check.due("state without entrants", none.info(3), 3);
        Check.due("round without entrants", none.info(4), 0);
        PianoRounds flawed = new PianoRounds();
        flawed.set(1, 4);
        flawed.addEntrant();
        Check.due("begin with a flaw only", flawed.begin(5), 0);
        Check.due("state with a flaw only", flawed.info(3), 3);
        Check.due("round with a flaw only", flawed.info(4), 0);
        Check.due("entrants who are in with a flaw only", flawed.info(7), 0);
        PianoRounds x = Check.rounds(4, 2, 3, 12);
        x.clearProgram(0, 2);
        x.clearProgram(1, 2);
        x.begin(5);
        for (int round = 0; round < 2; round++) {
            Check.playAll(x);
            Check.due("close() of round " + round, Check.closeWith(x, 50, 60), round == 0 ? 1 : 3);
        }
        Check.due("the round without players", x.info(4), 2);
        Check.due("its players", x.info(8), 0);
        Check.due("entrants who are in then", x.info(7), 0);
    }

    private static void lotsForEachPlace() {
        Doc.edge(PART, "The stage order is drawn by lots: beginning with the players in ascending order as a row, "
                + "for each i from (number of players - 1) down to 1");
        for (int players = 1; players <= 12; players++) {
            PianoRounds x = Check.entrants(players, 3, 12);
            x.begin(20261120);
            Check.same("order of " + players, Check.order(x), new Lots(20261120).drawFirst(players));
        }
        PianoRounds x = Check.entrants(7, 3, 12);
        x.withdraw(0);
        x.withdraw(5);
        x.clearProgram(2, 0);
        x.begin(20261120);
        Check.same("order of 1, 3, 4, 6", Check.order(x), new Lots(20261120).draw(1, 3, 4, 6));
    }

    private static void lotsGoOnFromRoundToRound() {
        Doc.edge(PART, "the seed x (that of begin() at first, and then as it was left by the lots before, "
                + "also those of earlier rounds)");
        PianoRounds x = Check.rounds(4, 6, 3, 12);
        x.clearProgram(2, 2);
        x.begin(77);
        Lots lots = new Lots(77);
        for (int round = 0; round < 4; round++) {
            String due = round < 2 ? lots.drawFirst(6) : lots.draw(0, 1, 3, 4, 5);
            Check.same("order of round " + round, Check.order(x), due);
            Check.playAll(x);
            Check.markPlayers(x, 50);
            x.close();
        }
    }

    private static void lotsWrapAround() {
        Doc.edge(PART, "becomes (x * 1103515245 + 12345) modulo 2147483648");
        int[] seeds = {0, 1, 2, 1946, 65535, 65536, 1073741823, 1073741824, 2147483646, 2147483647};
        for (int seed : seeds) {
            PianoRounds x = Check.entrants(12, 3, 12);
            x.begin(seed);
            Check.same("order by the seed " + seed, Check.order(x), new Lots(seed).drawFirst(12));
        }
    }

    private static void lotsChangePlaces() {
        Doc.edge(PART, "the player at place i of the row changes places with the one at place (x / 65536) modulo (i + 1)");
        // By hand: 0 leaves 12345, and 12345 / 65536 is 0; 3 leaves 1163074432, which is 17747 times 65536.
        PianoRounds x = Check.entrants(2, 3, 12);
        x.begin(0);
        Check.same("place 1 with place 0", Check.order(x), "1 0");
        x.undo();
        x.begin(3);
        Check.same("place 1 with itself", Check.order(x), "0 1");
    }

    // ---- Promise 13

    private static void beginTakesSeeds() {
        Doc.edge("Promise 13", "`seed`: 0 to 2147483647");
        for (int seed : new int[] {0, 1, 2147483646, 2147483647}) {
            PianoRounds x = Check.entrants(3, 3, 12);
            Check.due("begin(" + seed + ")", x.begin(seed), 3);
            Check.due("state", x.info(3), 1);
        }
    }

    private static void beginTellsThePlayers() {
        Doc.edge("Promise 13", "Returns the number of players.");
        for (int players = 0; players <= 12; players++) {
            PianoRounds x = Check.entrants(players, 3, 12);
            Check.due("begin", x.begin(9), players);
            Check.due("players", x.info(8), players);
        }
    }

    private static void beginRefusesNegativeSeeds() {
        Doc.edge("Promise 13", "Throws `IllegalArgumentException` if seed is negative");
        PianoRounds x = Check.inState(0);
        Check.argument(x, "begin(-1)", () -> x.begin(-1));
        Check.argument(x, "begin of the least number", () -> x.begin(Integer.MIN_VALUE));
    }

    private static void beginRefusesWhenBegun() {
        Doc.edge("Promise 13", "Throws `IllegalStateException` if the state is not 0");
        for (int state = 1; state <= 3; state++) {
            PianoRounds x = Check.inState(state);
            Check.state(x, "begin(0) in state " + state, () -> x.begin(0));
        }
    }

    // ---- Promise 14

    private static void playTakesSlips() {
        Doc.edge("Promise 14", "`slips`: 0 to 20");
        PianoRounds x = Check.entrants(4, 3, 12);
        x.begin(1);
        int[] slips = {0, 1, 19, 20};
        for (int k = 0; k < 4; k++) {
            Check.due("player", x.play(slips[k]), x.stage(k));
            Check.due("slips", x.entrant(x.stage(k), 2), slips[k]);
        }
    }

    private static void playRefusesSlips() {
        Doc.edge("Promise 14", "Throws `IllegalArgumentException` if slips is out of range");
        PianoRounds x = Check.entrants(1, 3, 12);
        x.begin(1);
        for (int slips : Check.around(0, 20)) {
            Check.argument(x, "play(" + slips + ")", () -> x.play(slips));
        }
        Check.due("play(20)", x.play(20), 0);
    }

    private static void playRefusesWhenNobodyCanPlay() {
        Doc.edge("Promise 14", "Throws `IllegalStateException` if the state is not 1, or all have played");
        for (int state : new int[] {0, 2, 3}) {
            PianoRounds x = Check.inState(state);
            Check.state(x, "play(0) in state " + state, () -> x.play(0));
        }
        for (int players : new int[] {1, 2, 12}) {
            PianoRounds x = Check.played(players, 3, 1);
            Check.state(x, "play(0) when all " + players + " have played", () -> x.play(0));
        }
        PianoRounds left = Check.entrants(2, 3, 1);
        left.begin(1);
        left.play(0);
        left.withdraw(left.stage(1));
        Check.state(left, "play(0) when those who are left have played", () -> left.play(0));
    }

    // ---- Promise 18

    private static void withdrawnPlayerIsNoPlayer() {
        Doc.edge("Promise 18", "In a round, a player who has not played yet is no player any more "
                + "(the others stay in their order");
        for (int gone = 1; gone <= 4; gone++) {
            PianoRounds x = Check.entrants(5, 3, 12);
            x.begin(31);
            String[] order = Check.order(x).split(" ");
            x.play(0);
            int entrant = x.stage(gone);
            x.withdraw(entrant);
            Check.due("players", x.info(8), 4);
            Check.due("players who have played", x.info(9), 1);
            Check.due("its place", x.entrant(entrant, 1), -1);
            Check.due("whether it is in", x.entrant(entrant, 0), 0);
            order[gone] = "";
            Check.same("order", Check.order(x), String.join(" ", order).replace("  ", " ").trim());
            Check.due("the next one", x.play(0), x.stage(1));
        }
    }

    private static void lastPlayerWithdraws() {
        Doc.edge("Promise 18", "if there are no players left, the competition is over)");
        PianoRounds x = Check.rounds(2, 3, 3, 12);
        x.withdraw(1);
        x.begin(2);
        x.withdraw(2);
        Check.due("state with one player", x.info(3), 1);
        x.withdraw(0);
        Check.due("state without players", x.info(3), 3);
        Check.due("round", x.info(4), 0);
        Check.due("players", x.info(8), 0);
        Check.due("stage(0)", x.stage(0), -1);
        x.undo();
        x.play(0);
        Check.due("state when the one has played", x.info(3), 1);
        PianoRounds notBegun = Check.entrants(1, 3, 1);
        notBegun.withdraw(0);
        Check.due("state when all withdraw before", notBegun.info(3), 0);
    }

    private static void withdrawTellsThoseWhoAreIn() {
        Doc.edge("Promise 18", "Returns the number of entrants who are in then.");
        PianoRounds x = Check.entrants(12, 3, 12);
        for (int left = 11; left >= 6; left--) {
            Check.due("withdraw before the round", x.withdraw(left), left);
        }
        x.begin(8);
        for (int left = 5; left >= 0; left--) {
            Check.due("withdraw in the round", x.withdraw(left), left);
        }
    }

    private static void withdrawRefusesNoEntrant() {
        Doc.edge("Promise 18", "Throws `IndexOutOfBoundsException` if there is no such entrant");
        PianoRounds x = Check.entrants(3, 3, 1);
        for (int entrant : Check.around(0, 2)) {
            Check.index(x, "withdraw(" + entrant + ") of three", () -> x.withdraw(entrant));
        }
    }

    private static void withdrawRefusesTheOthers() {
        Doc.edge("Promise 18", "Throws `IllegalStateException` if the entrant is out, the state is 2 or 3, "
                + "or it is a player who has played");
        PianoRounds x = Check.entrants(4, 3, 1);
        x.withdraw(0);
        Check.state(x, "one who is out, before the round", () -> x.withdraw(0));
        x.clearProgram(1, 0);
        x.begin(0);
        Check.state(x, "one who has a flaw", () -> x.withdraw(1));
        int first = x.play(0);
        Check.state(x, "one who has played", () -> x.withdraw(first));
        int second = x.play(0);
        Check.state(x, "the last one who has played", () -> x.withdraw(second));
        for (int state = 2; state <= 3; state++) {
            PianoRounds late = Check.inState(state);
            Check.due("in", late.entrant(0, 0), 1);
            Check.state(late, "one who is in, in state " + state, () -> late.withdraw(0));
        }
    }
}
