import java.math.BigInteger;

/** Edges of texts, undo and exceptions: these parts of "Description", and promises 27 to 31. */
final class TextsUndoEdges {
    static void run() {
        Check.each(
                TextsUndoEdges::fiveHundredAndTwelveCalls,
                TextsUndoEdges::noneIsMinusOne,
                TextsUndoEdges::textsHoldFortyCharacters,
                TextsUndoEdges::textsAreNumbersAndCommas,
                TextsUndoEdges::numbersHaveOneOrTwoDigits,
                TextsUndoEdges::charactersThatAreNotAllowed,
                TextsUndoEdges::textsThatEndTooEarly,
                TextsUndoEdges::numbersOfNoWork,
                TextsUndoEdges::numbersToldTwice,
                TextsUndoEdges::firstSuchNumber,
                TextsUndoEdges::misplacedCharactersComeFirst,
                TextsUndoEdges::eachUndoableMethodRecords,
                TextsUndoEdges::callsThatChangeNothingRecord,
                TextsUndoEdges::otherMethodsDoNotRecord,
                TextsUndoEdges::undoLeavesTheText,
                TextsUndoEdges::undoRestoresWhatNoChecksumTells,
                TextsUndoEdges::atMostFourRecords,
                TextsUndoEdges::oldestRecordIsDropped,
                TextsUndoEdges::undoRemovesTheLatest,
                TextsUndoEdges::refusedCallsChangeNothing,
                TextsUndoEdges::firstExceptionIsThrown,
                TextsUndoEdges::typeTakesCodes,
                TextsUndoEdges::typeTellsTheLength,
                TextsUndoEdges::typeRefusesCodes,
                TextsUndoEdges::typeRefusesWhenFull,
                TextsUndoEdges::clearTextTellsTheLength,
                TextsUndoEdges::faultIsAnIndex,
                TextsUndoEdges::faultIsNone,
                TextsUndoEdges::undoRestoresTheLatest,
                TextsUndoEdges::undoTellsHowManyAreLeft,
                TextsUndoEdges::undoRefusesWithoutRecords,
                TextsUndoEdges::checksumWraps,
                TextsUndoEdges::checksumOfWorks,
                TextsUndoEdges::checksumOfRules,
                TextsUndoEdges::checksumOfEntrants,
                TextsUndoEdges::checksumOfPrograms,
                TextsUndoEdges::checksumOfJurors,
                TextsUndoEdges::checksumOfTheStage,
                TextsUndoEdges::checksumOfTheStrangestJuror,
                TextsUndoEdges::checksumOfTheText,
                TextsUndoEdges::checksumOfTheRecords);
    }

    private static final String OF_ALL = "It starts with h = 43009, and for each of the following numbers v, in order, "
            + "h becomes 31 * h + v (long arithmetic that wraps)";

    private static PianoRounds works(int count) {
        PianoRounds x = new PianoRounds();
        for (int w = 0; w < count; w++) {
            x.addWork(0, 0, 1);
        }
        return x;
    }

    private static void faultIs(PianoRounds x, String text, int due) {
        Check.text(x, text);
        Check.due("fault() of \"" + text + "\"", x.fault(), due);
    }

    private static void fill(PianoRounds x) {
        Check.text(x, "0123456789012345678901234567890123456789");
    }

    // ---- What it is, and the constants

    private static void fiveHundredAndTwelveCalls() {
        Doc.edge("What it is", "An object is used for at most 512 calls after it has been made");
        PianoRounds x = new PianoRounds();
        int before = 50;
        for (int call = 1; call <= 512; call++) {
            int penalty = call % 101;
            Check.due("call " + call, x.set(2, penalty), before);
            before = penalty;
        }
        PianoRounds y = new PianoRounds();
        for (int call = 1; call < 512; call += 2) {
            Check.due("call " + call, y.addEntrant(), 0);
            Check.due("call " + (call + 1), y.undo(), 0);
        }
    }

    private static void noneIsMinusOne() {
        Doc.edge("The constants", "`NONE = -1`: Returned where there is no such thing.");
        PianoRounds x = Check.entrants(1, 3, 1);
        Check.due("NONE", PianoRounds.NONE, -1);
        Check.due("no player", x.stage(0), PianoRounds.NONE);
        Check.due("no work", x.program(0, 0, 1), PianoRounds.NONE);
        Check.due("no fault", x.fault(), PianoRounds.NONE);
        Check.due("no score", x.history(0, 0), PianoRounds.NONE);
    }

    // ---- TEXTS

    private static void textsHoldFortyCharacters() {
        Doc.edge("TEXTS", "The text buffer holds at most 40 characters with codes from 32 to 126.");
        PianoRounds x = new PianoRounds();
        for (int length = 1; length <= 40; length++) {
            Check.due("type", x.type(length % 2 == 0 ? 32 : 126), length);
        }
        Check.state(x, "the 41st character", () -> x.type(48));
        Check.due("length", x.clearText(), 40);
        Check.argument(x, "code 31", () -> x.type(31));
        Check.argument(x, "code 127", () -> x.type(127));
    }

    private static void textsAreNumbersAndCommas() {
        Doc.edge("TEXTS", "As a program it is a sequence of numbers of works, at least one, separated by \",\"");
        PianoRounds x = works(10);
        faultIs(x, "", 0);
        faultIs(x, "0", -1);
        faultIs(x, "0,9", -1);
        faultIs(x, "7,8,9", -1);
        faultIs(x, "3,2,1,0", -1);
        faultIs(x, "0 1", 1);
        faultIs(x, "0.1", 1);
        faultIs(x, "0-1", 1);
    }

    private static void numbersHaveOneOrTwoDigits() {
        Doc.edge("TEXTS", "each has 1 or 2 digits, as long as possible (a third digit is not allowed)");
        PianoRounds x = works(12);
        faultIs(x, "1", -1);
        faultIs(x, "01", -1);
        faultIs(x, "11", -1);
        faultIs(x, "12", 0);
        faultIs(x, "001", 2);
        faultIs(x, "1,010", 4);
        faultIs(x, "0000", 2);
        Check.text(x, "11,09");
        x.addEntrant();
        x.setProgram(0, 0);
        Check.same("the program of 11,09", Check.program(x, 0, 0), "11 9 -1 -1");
    }

    private static void charactersThatAreNotAllowed() {
        Doc.edge("TEXTS", "The fault of the text is the index of the first character that is not allowed at its place "
                + "(a \",\" behind the fourth number, too)");
        PianoRounds x = works(10);
        faultIs(x, "/", 0);
        faultIs(x, ":", 0);
        faultIs(x, "1+", 1);
        faultIs(x, "1-", 1);
        faultIs(x, ",1", 0);
        faultIs(x, "1,,2", 2);
        faultIs(x, "1, 2", 2);
        faultIs(x, " 1", 0);
        faultIs(x, "1,2,3,4,", 7);
        faultIs(x, "1,2,3,4,5", 7);
        faultIs(x, "01,02,03,04,", 11);
        faultIs(x, "1,2,3,,", 6);
        faultIs(x, "1,2,3,4x", 7);
        faultIs(x, "x1,,", 0);
    }

    private static void textsThatEndTooEarly() {
        Doc.edge("TEXTS", "the length of the text if it ends too early");
        PianoRounds x = works(10);
        faultIs(x, "", 0);
        faultIs(x, "1,", 2);
        faultIs(x, "01,", 3);
        faultIs(x, "1,2,3,", 6);
        faultIs(x, "01,02,03,", 9);
    }

    private static void numbersOfNoWork() {
        Doc.edge("TEXTS", "if there is no such fault, but a number that is not that of a work");
        PianoRounds none = works(0);
        faultIs(none, "0", 0);
        PianoRounds x = works(3);
        faultIs(x, "2", -1);
        faultIs(x, "3", 0);
        faultIs(x, "2,03", 2);
        faultIs(x, "0,1,2,99", 6);
        PianoRounds full = works(30);
        faultIs(full, "29", -1);
        faultIs(full, "30", 0);
    }

    private static void numbersToldTwice() {
        Doc.edge("TEXTS", "or one that is told twice, the index of the first character of the first such number "
                + "(of the second one of two equal ones)");
        PianoRounds x = works(12);
        faultIs(x, "1,1", 2);
        faultIs(x, "01,1", 3);
        faultIs(x, "1,01", 2);
        faultIs(x, "11,1,11", 5);
        faultIs(x, "0,1,2,0", 6);
        faultIs(x, "0,1,1,0", 4);
        faultIs(x, "1,11,10,01", 8);
        faultIs(x, "1,11,10,0", -1);
    }

    private static void firstSuchNumber() {
        Doc.edge("TEXTS", "the index of the first character of the first such number");
        PianoRounds x = works(12);
        faultIs(x, "1,12,1", 2);
        faultIs(x, "1,1,12", 2);
        faultIs(x, "12,12", 0);
        faultIs(x, "1,12,12", 2);
        faultIs(x, "10,11,99,10", 6);
        faultIs(x, "10,11,10,99", 6);
    }

    private static void misplacedCharactersComeFirst() {
        Doc.edge("TEXTS", "if there is no such fault");
        PianoRounds x = works(2);
        faultIs(x, "9,1,", 4);
        faultIs(x, "1,1,x", 4);
        faultIs(x, "99,99,", 6);
        faultIs(x, "5,6,7,8,9", 7);
    }

    // ---- UNDO

    /** A competition with just three records, so that a fourth one leaves the number as it was after undo(). */
    private static void leaveThreeRecords(PianoRounds x) {
        for (int k = 0; k < 4; k++) {
            x.set(2, x.info(2));
        }
        x.undo();
    }

    private static void undoable(String promise, PianoRounds x, Check.Call made) {
        Doc.edge(promise, "Undoable.");
        leaveThreeRecords(x);
        long before = x.checksum();
        made.answer();
        if (x.checksum() == before) {
            Check.fail("the call has left no trace in the checksum");
        }
        Check.due("records after undo()", x.undo(), 3);
        Check.due("checksum() after undo()", x.checksum(), before);
    }

    private static void eachUndoableMethodRecords() {
        Doc.edge("UNDO", "Every method that is marked \"undoable\" records everything but the text, "
                + "as it was before the call, when it ends normally");
        PianoRounds x = Check.rounds(2, 3, 3, 1);
        undoable("Promise 2", x, () -> x.addWork(9, 4, 60));
        undoable("Promise 4", x, () -> x.addEntrant());
        undoable("Promise 5", x, () -> Check.bar(x, 0, 0, true));
        undoable("Promise 6", x, () -> x.set(0, 7));
        undoable("Promise 6", x, () -> x.set(1, 4));
        undoable("Promise 6", x, () -> x.set(2, 0));
        undoable("Promise 7", x, () -> x.setRule(3, 2, 31));
        undoable("Promise 10", x, () -> x.clearProgram(2, 3));
        undoable("Promise 13", x, () -> x.begin(7));
        undoable("Promise 18", x, () -> x.withdraw(2));
        Check.text(x, "2,1");
        undoable("Promise 9", x, () -> x.setProgram(2, 3));
        PianoRounds y = Check.rounds(2, 3, 3, 1);
        y.begin(7);
        undoable("Promise 14", y, () -> y.play(20));
        undoable("Promise 18", y, () -> y.withdraw(y.stage(1)));
        Check.playAll(y);
        undoable("Promise 15", y, () -> y.mark(2, 2, 0));
        undoable("Promise 16", y, () -> y.abstain(2, 2));
        Check.markEach(y, 5, 5, 5);
        undoable("Promise 17", y, () -> y.close());
        y.close();
        undoable("Promise 15", y, () -> y.mark(0, 0, 10));
        Check.markEach(y, 5, 6, 6);
        undoable("Promise 17", y, () -> y.close());
        y.close();
        Check.markAll(y, 1, 5);
        Check.markAll(y, 2, 4);
        undoable("Promise 17", y, () -> y.close());
    }

    private static void callsThatChangeNothingRecord() {
        Doc.edge("UNDO", "(also if nothing changes)");
        PianoRounds x = Check.entrants(1, 3, 1);
        Check.Call[] calls = {() -> Check.bar(x, 0, 0, false), () -> x.set(0, 3), () -> x.set(1, 1), () -> x.set(2, 50),
            () -> x.setRule(0, 5, 1), () -> x.setProgram(0, 0), () -> x.clearProgram(0, 3)};
        for (Check.Call call : calls) {
            leaveThreeRecords(x);
            long before = x.checksum();
            call.answer();
            Check.due("records after the call and undo()", x.undo(), 3);
            Check.due("checksum() then", x.checksum(), before);
        }
        PianoRounds y = Check.played(1, 3, 1);
        y.mark(0, 0, 7);
        y.mark(0, 0, 7);
        y.abstain(1, 0);
        y.abstain(1, 0);
        for (int left = 3; left >= 0; left--) {
            Check.due("records left", y.undo(), left);
            Check.due("mark of juror 0", y.marked(0, 0, false), left > 0 ? 7 : -1);
            Check.due("abstention of juror 1", y.marked(1, 0, false), left > 2 ? -2 : -1);
        }
    }

    private static void otherMethodsDoNotRecord() {
        Doc.edge("UNDO", "Every method that is marked \"undoable\" records");
        PianoRounds x = Check.played(2, 3, 1);
        for (int left = 3; left >= 0; left--) {
            x.undo();
        }
        askAll(x);
        Check.state(x, "undo() when the others have been called", () -> x.undo());
    }

    private static void askAll(PianoRounds x) {
        x.work(0, 0);
        x.rule(0, 0);
        x.program(0, 0, 0);
        x.flaw(0, 0);
        x.info(3);
        x.entrant(0, 0);
        x.marked(0, 0, false);
        x.history(0, 0);
        x.stage(0);
        x.wouldBe(0);
        x.strangestJuror();
        x.clearText();
        x.type(48);
        x.fault();
        x.checksum();
    }

    private static void undoLeavesTheText() {
        Doc.edge("UNDO", "everything but the text");
        PianoRounds x = works(0);
        Check.text(x, "0");
        x.addWork(0, 0, 1);
        Check.due("fault() with the work", x.fault(), -1);
        Check.text(x, "00");
        x.undo();
        Check.due("fault() without the work", x.fault(), 0);
        Check.due("the text stays as it is", x.clearText(), 2);
        x.addWork(0, 0, 1);
        x.undo();
        Check.due("the empty text stays, too", x.clearText(), 0);
    }

    private static void undoRestoresWhatNoChecksumTells() {
        Doc.edge("UNDO", "as it was before the call");
        PianoRounds x = Check.rounds(2, 6, 7, 12);
        x.bar(6, 5, true);
        x.set(0, 3);
        x.undo();
        x.undo();
        Check.due("a barring, when the juror is back", Check.bar(x, 6, 5, false), 0);
        x.set(0, 3);
        x.begin(11);
        x.undo();
        x.begin(12);
        Lots lots = new Lots(12);
        Check.same("order by the second seed", Check.order(x), lots.drawFirst(6));
        Check.playAll(x);
        Check.markPlayers(x, 50);
        x.close();
        x.undo();
        x.close();
        Check.same("order of round 1, when closed twice", Check.order(x), lots.drawFirst(6));
    }

    private static void atMostFourRecords() {
        Doc.edge("UNDO", "At most 4 records are kept");
        for (int made = 0; made <= 6; made++) {
            PianoRounds x = new PianoRounds();
            for (int e = 0; e < made; e++) {
                x.addEntrant();
            }
            int kept = made < 4 ? made : 4;
            for (int left = kept - 1; left >= 0; left--) {
                Check.due("undo() after " + made, x.undo(), left);
            }
            Check.state(x, "undo() of " + made + " once more", () -> x.undo());
            Check.due("entrants then", x.info(6), made - kept);
        }
    }

    private static void oldestRecordIsDropped() {
        Doc.edge("UNDO", "when one more is made, the oldest is dropped");
        PianoRounds x = new PianoRounds();
        for (int penalty = 1; penalty <= 9; penalty++) {
            x.set(2, penalty);
        }
        for (int left = 3; left >= 0; left--) {
            Check.due("undo()", x.undo(), left);
            Check.due("penalty", x.info(2), left + 5);
        }
        x.set(2, 70);
        x.set(2, 71);
        x.undo();
        Check.due("penalty after another undo()", x.info(2), 70);
        x.undo();
        Check.due("the oldest penalty", x.info(2), 5);
    }

    private static void undoRemovesTheLatest() {
        Doc.edge("UNDO", "undo() restores the latest one and removes it.");
        PianoRounds x = new PianoRounds();
        x.set(2, 1);
        x.set(2, 2);
        x.undo();
        Check.due("penalty", x.info(2), 1);
        x.set(2, 3);
        Check.due("records left", x.undo(), 1);
        Check.due("penalty once more", x.info(2), 1);
        Check.due("records left then", x.undo(), 0);
        Check.due("penalty at first", x.info(2), 50);
    }

    // ---- EXCEPTIONS

    /** Calls that are refused in each state, and leave no trace. */
    private static Check.Call[] refused(PianoRounds x) {
        return new Check.Call[] {() -> x.addWork(10, 0, 1), () -> x.addWork(0, 5, 1), () -> x.addWork(0, 0, 0),
            () -> x.work(3, 0), () -> x.work(0, 3), () -> Check.bar(x, 3, 0, true), () -> Check.bar(x, 0, 3, true),
            () -> x.set(3, 1), () -> x.set(0, 8), () -> x.set(1, 0), () -> x.set(2, 101), () -> x.setRule(4, 0, 1),
            () -> x.setRule(0, 5, 13), () -> x.rule(4, 0), () -> x.rule(0, 6), () -> x.setProgram(3, 0),
            () -> x.setProgram(0, 4), () -> x.setProgram(0, 0), () -> x.clearProgram(3, 0), () -> x.clearProgram(0, 4),
            () -> x.program(3, 0, 0), () -> x.flaw(0, 4), () -> x.begin(-1), () -> x.play(21), () -> x.mark(3, 0, 1),
            () -> x.mark(0, 0, 101), () -> x.abstain(0, 3), () -> x.withdraw(3), () -> x.info(13), () -> x.entrant(0, 8),
            () -> x.marked(3, 0, true), () -> x.history(0, 4), () -> x.wouldBe(3), () -> x.neededMark(0, 0, 100001),
            () -> x.type(127)};
    }

    /** Calls that are refused in this state alone: those of state 1 when nobody has played yet. */
    private static Check.Call[] refusedIn(int state, PianoRounds x) {
        Check.Call[][] all = {
            {() -> x.play(0), () -> x.mark(0, 0, 1), () -> x.abstain(0, 0), () -> x.close(), () -> x.neededMark(0, 0, 1)},
            {() -> x.mark(0, 0, 1), () -> x.abstain(0, 0), () -> x.close(), () -> x.neededMark(0, 0, 1),
                () -> x.begin(9), () -> x.addWork(0, 0, 1), () -> x.addEntrant(), () -> x.set(0, 4), () -> x.setRule(0, 5, 9)},
            {() -> x.play(0), () -> x.withdraw(0), () -> x.mark(0, 0, 11), () -> x.close(), () -> x.begin(9),
                () -> x.addWork(0, 0, 1), () -> x.addEntrant(), () -> x.set(1, 4), () -> x.setRule(0, 5, 9)},
            {() -> x.play(0), () -> x.withdraw(0), () -> x.mark(0, 0, 1), () -> x.abstain(0, 0), () -> x.close(),
                () -> x.begin(9), () -> x.addWork(0, 0, 1), () -> x.addEntrant(), () -> x.set(0, 4), () -> x.setRule(0, 5, 9)}};
        return all[state];
    }

    private static void refuseAll(PianoRounds x, Check.Call[] calls, int state) {
        for (int i = 0; i < calls.length; i++) {
            if (!Check.outcome(calls[i]).startsWith("throws java.lang.I")) {
                Check.fail("call " + i + " of those refused in state " + state + " is not refused");
            }
        }
    }

    /** Two competitions go the same way, one of them with refused calls; then nothing tells them apart. */
    private static void refusedCallsChangeNothing() {
        Doc.edge("EXCEPTIONS", "A call that throws an exception changes nothing.");
        PianoRounds x = Check.rounds(2, 3, 3, 2);
        PianoRounds twin = Check.rounds(2, 3, 3, 2);
        Check.text(x, "1,1");
        Check.text(twin, "1,1");
        for (int stop = 0; stop < 4; stop++) {
            int state = stop == 3 ? 1 : stop;
            Check.due("state", x.info(3), state);
            refuseAll(x, refused(x), state);
            refuseAll(x, refusedIn(state, x), state);
            Check.due("checksum() in state " + state, x.checksum(), twin.checksum());
            bringOn(x, stop);
            bringOn(twin, stop);
        }
        Check.due("state", x.info(3), 3);
        refuseAll(x, refusedIn(3, x), 3);
        Check.due("text", x.fault(), twin.fault());
        for (int left = 3; left >= 0; left--) {
            Check.due("checksum() with more records than " + left, x.checksum(), twin.checksum());
            Check.due("undo()", x.undo(), twin.undo());
        }
        Check.due("checksum() without records", x.checksum(), twin.checksum());
    }

    /** To round 0, to its tie round, to round 1, to the end. */
    private static void bringOn(PianoRounds x, int stop) {
        if (stop == 0) {
            x.begin(123);
            return;
        }
        if (stop != 2) {
            Check.playAll(x);
        }
        Check.markAll(x, 0, stop == 2 ? 9 : 50);
        Check.markAll(x, 1, stop == 2 ? 8 : 50);
        if (stop < 3) {
            Check.markAll(x, 2, stop == 2 ? 7 : 50);
        }
        x.close();
    }

    private static void firstExceptionIsThrown() {
        Doc.edge("EXCEPTIONS", "If several exceptions of a method apply, the one that is listed first is thrown.");
        PianoRounds x = Check.inState(0);
        Check.index(x, "work(3, 3)", () -> x.work(3, 3));
        Check.index(x, "rule(4, 6)", () -> x.rule(4, 6));
        Check.index(x, "entrant(3, 8)", () -> x.entrant(3, 8));
        Check.argument(x, "play(21)", () -> x.play(21));
        Check.index(x, "mark(3, 0, 101)", () -> x.mark(3, 0, 101));
        Check.index(x, "mark(0, 3, 1)", () -> x.mark(0, 3, 1));
        Check.argument(x, "mark(0, 0, 101)", () -> x.mark(0, 0, 101));
        Check.index(x, "abstain(3, 0)", () -> x.abstain(3, 0));
        Check.index(x, "neededMark(0, 3, -1)", () -> x.neededMark(0, 3, -1));
        Check.argument(x, "neededMark(0, 0, -1)", () -> x.neededMark(0, 0, -1));
        x.clearText();
        Check.index(x, "setProgram(3, 0) of no text", () -> x.setProgram(3, 0));
        Check.index(x, "setProgram(0, 4) of no text", () -> x.setProgram(0, 4));
        fill(x);
        Check.argument(x, "type(127) when full", () -> x.type(127));
        PianoRounds tie = Check.inState(2);
        tie.bar(0, 0, true);
        Check.argument(tie, "mark(0, 0, 11) of a barred juror", () -> tie.mark(0, 0, 11));
        PianoRounds over = Check.inState(3);
        Check.argument(over, "addWork(10, 0, 1)", () -> over.addWork(10, 0, 1));
        Check.argument(over, "set(0, 8)", () -> over.set(0, 8));
        Check.index(over, "setRule(4, 6, 0)", () -> over.setRule(4, 6, 0));
        Check.index(over, "setRule(4, 0, 1)", () -> over.setRule(4, 0, 1));
        Check.argument(over, "setRule(0, 0, 0)", () -> over.setRule(0, 0, 0));
        Check.argument(over, "begin(-1)", () -> over.begin(-1));
        Check.index(over, "withdraw(3)", () -> over.withdraw(3));
        PianoRounds full = works(30);
        Check.argument(full, "addWork(0, 0, 61), the 31st", () -> full.addWork(0, 0, 61));
    }

    // ---- Promises 27 to 29

    private static void typeTakesCodes() {
        Doc.edge("Promise 27", "`c`: its code, 32 to 126");
        PianoRounds x = new PianoRounds();
        for (int c = 32; c <= 126; c++) {
            x.clearText();
            Check.due("type(" + c + ")", x.type(c), 1);
        }
    }

    private static void typeTellsTheLength() {
        Doc.edge("Promise 27", "Returns the length of the text then.");
        PianoRounds x = new PianoRounds();
        for (int length = 1; length <= 40; length++) {
            Check.due("type", x.type(48), length);
        }
        x.clearText();
        Check.due("type into the emptied text", x.type(48), 1);
    }

    private static void typeRefusesCodes() {
        Doc.edge("Promise 27", "Throws `IllegalArgumentException` if c is out of range");
        PianoRounds x = new PianoRounds();
        for (int c : Check.around(32, 126)) {
            Check.argument(x, "type(" + c + ")", () -> x.type(c));
        }
        Check.argument(x, "type(48 + 256)", () -> x.type(48 + 256));
        Check.argument(x, "type(48 + 65536)", () -> x.type(48 + 65536));
    }

    private static void typeRefusesWhenFull() {
        Doc.edge("Promise 27", "Throws `IllegalStateException` if the text has 40 characters");
        PianoRounds x = new PianoRounds();
        fill(x);
        Check.state(x, "type(48), the 41st", () -> x.type(48));
        Check.due("length", x.clearText(), 40);
        Check.text(x, "012345678901234567890123456789012345678");
        Check.due("the 40th", x.type(48), 40);
    }

    private static void clearTextTellsTheLength() {
        Doc.edge("Promise 28", "Returns the length that it had.");
        PianoRounds x = new PianoRounds();
        Check.due("of a new object", x.clearText(), 0);
        x.type(32);
        Check.due("of one character", x.clearText(), 1);
        Check.due("of the emptied text", x.clearText(), 0);
        fill(x);
        Check.due("of the full text", x.clearText(), 40);
    }

    private static void faultIsAnIndex() {
        Doc.edge("Promise 29", "Returns the fault, an index from 0");
        PianoRounds x = works(5);
        faultIs(x, "x", 0);
        faultIs(x, "4,x", 2);
        faultIs(x, "4,5", 2);
        Check.text(x, "01,02,03,04                            x");
        Check.due("of a full text", x.fault(), 11);
    }

    private static void faultIsNone() {
        Doc.edge("Promise 29", "NONE if there is none.");
        PianoRounds x = works(30);
        faultIs(x, "0", -1);
        faultIs(x, "29,28,27,26", -1);
        faultIs(x, "00,01,02,03", -1);
    }

    // ---- Promise 30

    private static void undoRestoresTheLatest() {
        Doc.edge("Promise 30", "Restores the latest record and removes it.");
        PianoRounds x = Check.rounds(2, 2, 3, 1);
        x.begin(1);
        Check.playAll(x);
        Check.markEach(x, 50, 50);
        x.close();
        x.mark(0, 0, 3);
        x.mark(0, 0, 4);
        x.undo();
        Check.due("the tie mark before", x.marked(0, 0, true), 3);
        x.undo();
        Check.due("no tie mark", x.marked(0, 0, true), -1);
        x.undo();
        Check.due("the round again", x.info(3), 1);
        Check.due("its history", x.history(0, 0), -1);
        x.undo();
        Check.due("without the last mark", x.marked(2, 1, false), -1);
        Check.due("with the mark before", x.marked(1, 1, false), 50);
    }

    private static void undoTellsHowManyAreLeft() {
        Doc.edge("Promise 30", "Returns how many records are left.");
        for (int made = 1; made <= 5; made++) {
            PianoRounds x = works(made);
            Check.due("undo() after " + made, x.undo(), made == 5 ? 3 : made - 1);
        }
    }

    private static void undoRefusesWithoutRecords() {
        Doc.edge("Promise 30", "Throws `IllegalStateException` if there is none");
        PianoRounds x = new PianoRounds();
        Check.state(x, "undo() of a new object", () -> x.undo());
        Check.argument(x, "a refused call", () -> x.addWork(0, 0, 0));
        Check.state(x, "undo() after a refused call", () -> x.undo());
        x.addWork(0, 0, 1);
        x.undo();
        Check.state(x, "undo() after undo()", () -> x.undo());
    }

    // ---- Promise 31

    private static void sumIs(String sentence, PianoRounds x, int textLength, int records, int[]... barred) {
        Doc.edge("Promise 31", sentence);
        Check.due("checksum()", x.checksum(), PlainChecksum.of(x, textLength, records, barred));
    }

    private static void checksumWraps() {
        Doc.edge("Promise 31", OF_ALL);
        PianoRounds x = new PianoRounds();
        int[] first = {5, 1, 50, 0, 0, 0, 0, 0, 0, 0, 0, 0, 0,
            1, 180, 0, 4, 0, 12, 1, 180, 0, 4, 0, 12, 1, 180, 0, 4, 0, 12, 1, 180, 0, 4, 0, 12, -1, 0, 0};
        BigInteger h = BigInteger.valueOf(43009);
        for (int v : first) {
            h = h.multiply(BigInteger.valueOf(31)).add(BigInteger.valueOf(v));
        }
        Check.due("bits beyond a long", h.bitLength() > 64 ? 1 : 0, 1);
        Check.due("checksum() of a new object", x.checksum(), h.longValue());
    }

    private static void checksumOfWorks() {
        String sentence = "for each work the results of work() for 0 to 2";
        sumIs(sentence, new PianoRounds(), 0, 0);
        PianoRounds x = new PianoRounds();
        for (int w = 0; w < 30; w++) {
            x.addWork(w % 10, w % 5, 60 - w);
        }
        sumIs(sentence, x, 0, 4);
    }

    private static void checksumOfRules() {
        PianoRounds x = new PianoRounds();
        int[] values = {2, 3, 30, 2, 1, 11};
        for (int round = 0; round < 4; round++) {
            for (int what = 0; what < 6; what++) {
                x.setRule(round, what, values[what] - (what < 4 ? round / 2 : 0));
            }
        }
        sumIs("for each of the rounds 0 to 3 the results of rule() for 0 to 5", x, 0, 4);
    }

    private static void checksumOfEntrants() {
        String sentence = "for each entrant the results of entrant() for 0 to 7";
        PianoRounds tie = Check.played(4, 3, 2);
        Check.closeWith(tie, 90, 50, 50, 10);
        tie.mark(0, 1, 7);
        sumIs(sentence, tie, 1, 4);
        sumIs(sentence, Check.inState(3), 1, 4);
    }

    private static void checksumOfPrograms() {
        PianoRounds x = Check.rounds(4, 2, 3, 1);
        x.addWork(9, 4, 60);
        Check.text(x, "3,2,1,0");
        x.setProgram(1, 3);
        x.clearProgram(0, 2);
        x.begin(1);
        Check.playAll(x);
        Check.closeWith(x, 60, 70);
        sumIs("for each of the rounds 0 to 3 its flaw() and its history(), "
                + "and for each place from 0 to 3 the results of program()", x, 7, 4);
    }

    private static void checksumOfJurors() {
        String sentence = "for each juror 1 if barred, otherwise 0, and the results of marked() for false and for true";
        PianoRounds x = Check.entrants(2, 7, 1);
        x.bar(6, 0, true);
        x.bar(0, 1, true);
        sumIs(sentence, x, 1, 4, new int[] {6, 0}, new int[] {0, 1});
        PianoRounds tie = Check.inState(2);
        tie.mark(0, 1, 10);
        tie.abstain(2, 2);
        tie.bar(0, 1, true);
        sumIs(sentence, tie, 1, 4, new int[] {0, 1});
    }

    /** With twelve players the answers of all calls would be too many for one object, so the model tells them. */
    private static void checksumOfTheStage() {
        Doc.edge("Promise 31", "the results of stage() for 0 to (players - 1)");
        PianoRounds x = new PianoRounds();
        PlainModel model = new PlainModel();
        x.addWork(0, 0, 1);
        model.addWork(0, 0, 1);
        x.type('0');
        model.type('0');
        for (int e = 0; e < 12; e++) {
            x.addEntrant();
            model.addEntrant();
            x.setProgram(e, 0);
            model.setProgram(e, 0);
        }
        Check.due("checksum() before the round", x.checksum(), model.checksum());
        x.begin(987654321);
        model.begin(987654321);
        Check.due("checksum() with twelve players", x.checksum(), model.checksum());
    }

    private static void checksumOfTheStrangestJuror() {
        PianoRounds x = Check.inState(1);
        sumIs("strangestJuror()", x, 1, 4);
        Check.marks(x, 1, 50, 50, 51);
        Check.due("the strangest juror", x.strangestJuror(), 2);
        sumIs("strangestJuror()", x, 1, 4);
    }

    private static void checksumOfTheText() {
        PianoRounds x = new PianoRounds();
        sumIs("the length of the text", x, 0, 0);
        fill(x);
        sumIs("the length of the text", x, 40, 0);
    }

    private static void checksumOfTheRecords() {
        for (int made = 0; made <= 5; made++) {
            sumIs("the number of records", works(made), 0, made == 5 ? 4 : made);
        }
    }
}
