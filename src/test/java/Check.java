/** What the tests share: comparing answers, and competitions that stand at some point. */
final class Check {
    interface Call {
        long answer();
    }

    private static int wrong = 0;
    private static String about = "";

    private Check() {
    }

    /** What is told from now on is told with these words before it. */
    static void about(String words) {
        about = words;
    }

    static void due(String call, long got, long want) {
        if (got != want) {
            fail(call + " answered " + got + ", due is " + want);
        }
    }

    static void same(String what, String got, String want) {
        if (!got.equals(want)) {
            fail(what + " is " + got + ", due is " + want);
        }
    }

    static void index(PianoRounds x, String call, Call made) {
        refuses(x, IndexOutOfBoundsException.class, call, made);
    }

    static void argument(PianoRounds x, String call, Call made) {
        refuses(x, IllegalArgumentException.class, call, made);
    }

    static void state(PianoRounds x, String call, Call made) {
        refuses(x, IllegalStateException.class, call, made);
    }

    /** The call has to throw just this exception, and to change nothing. */
    private static void refuses(PianoRounds x, Class<?> due, String call, Call made) {
        long before = x.checksum();
        String got = outcome(made);
        if (!got.equals("throws " + due.getName())) {
            fail(call + ": " + got + ", due is " + due.getName());
        }
        due("checksum() after the refused " + call, x.checksum(), before);
    }

    static String outcome(Call made) {
        try {
            return "answers " + made.answer();
        } catch (RuntimeException e) {
            return "throws " + e.getClass().getName();
        }
    }

    /** Makes each test, and goes on with the next one when a call throws what the test does not expect. */
    static void each(Runnable... tests) {
        for (Runnable test : tests) {
            try {
                test.run();
            } catch (RuntimeException e) {
                fail("a call throws " + e.getClass().getName());
            }
        }
    }

    static void fail(String what) {
        wrong++;
        System.out.println(about.isEmpty() ? what : about + "\n    " + what);
    }

    static void end() {
        System.out.println(wrong == 0 ? "all answers are as due" : wrong + " answers are not as due");
        if (wrong != 0) {
            System.exit(1);
        }
    }

    /** The numbers that are just out of a range, and those that are farthest out. */
    static int[] around(int lowest, int highest) {
        return new int[] {Integer.MIN_VALUE, lowest - 1, highest + 1, Integer.MAX_VALUE};
    }

    // ---- competitions

    static void text(PianoRounds x, String text) {
        x.clearText();
        for (int i = 0; i < text.length(); i++) {
            x.type(text.charAt(i));
        }
    }

    /** Entrants, each with the program "0" (a work of 10 minutes) for round 0; nothing has begun. */
    static PianoRounds entrants(int count, int jurors, int places) {
        PianoRounds x = new PianoRounds();
        x.addWork(0, 0, 10);
        x.addWork(1, 1, 20);
        x.addWork(2, 2, 30);
        x.set(0, jurors);
        x.setRule(0, 5, places);
        text(x, "0");
        for (int e = 0; e < count; e++) {
            x.addEntrant();
            x.setProgram(e, 0);
        }
        return x;
    }

    /** The same with more rounds: each has these places, and each entrant has the program "0" for all rounds. */
    static PianoRounds rounds(int rounds, int count, int jurors, int places) {
        PianoRounds x = entrants(count, jurors, places);
        x.set(1, rounds);
        for (int round = 1; round < 4; round++) {
            x.setRule(round, 5, places);
            for (int e = 0; e < count; e++) {
                x.setProgram(e, round);
            }
        }
        return x;
    }

    /** The same in round 0, where all have played without slips. */
    static PianoRounds played(int count, int jurors, int places) {
        PianoRounds x = entrants(count, jurors, places);
        x.begin(42);
        playAll(x);
        return x;
    }

    /** Three entrants and jurors, one place: not begun, all played, all three tied, or over with entrant 0 in. */
    static PianoRounds inState(int state) {
        if (state == 0) {
            return entrants(3, 3, 1);
        }
        PianoRounds x = played(3, 3, 1);
        if (state == 2) {
            closeWith(x, 50, 50, 50);
        } else if (state == 3) {
            closeWith(x, 50, 49, 48);
        }
        return x;
    }

    static void playAll(PianoRounds x) {
        while (x.info(3) == 1 && x.info(9) < x.info(8)) {
            x.play(0);
        }
    }

    /** Each juror gives this entrant the same mark. */
    static void markAll(PianoRounds x, int entrant, int mark) {
        for (int j = 0; j < x.info(0); j++) {
            x.mark(j, entrant, mark);
        }
    }

    /** Each juror gives each player of the round the same mark. */
    static void markPlayers(PianoRounds x, int mark) {
        for (int k = 0; k < x.info(8); k++) {
            markAll(x, x.stage(k), mark);
        }
    }

    /** All jurors give entrant 0 the first mark, entrant 1 the second, and so on. */
    static void markEach(PianoRounds x, int... marks) {
        for (int e = 0; e < marks.length; e++) {
            markAll(x, e, marks[e]);
        }
    }

    /** The same, and then the round or the tie round is closed. */
    static int closeWith(PianoRounds x, int... marks) {
        markEach(x, marks);
        return x.close();
    }

    /** The first jurors mark, the others abstain. */
    static void markAndAbstain(PianoRounds x, int entrant, int marks, int mark) {
        for (int j = 0; j < x.info(0); j++) {
            if (j < marks) {
                x.mark(j, entrant, mark);
            } else {
                x.abstain(j, entrant);
            }
        }
    }

    static int bar(PianoRounds x, int juror, int entrant, boolean barred) {
        return x.bar(juror, entrant, barred) ? 1 : 0;
    }

    /** What has become of each entrant: i is in, t is tied, o is out. */
    static String verdicts(PianoRounds x) {
        StringBuilder all = new StringBuilder();
        for (int e = 0; e < x.info(6); e++) {
            all.append(x.entrant(e, 6) == 1 ? 't' : x.entrant(e, 0) == 1 ? 'i' : 'o');
        }
        return all.toString();
    }

    static void marks(PianoRounds x, int entrant, int... marks) {
        for (int j = 0; j < marks.length; j++) {
            x.mark(j, entrant, marks[j]);
        }
    }

    /** The four places of a program, as one text. */
    static String program(PianoRounds x, int entrant, int round) {
        return x.program(entrant, round, 0) + " " + x.program(entrant, round, 1) + " "
                + x.program(entrant, round, 2) + " " + x.program(entrant, round, 3);
    }

    /** The places of all players in the stage order, as one text. */
    static String order(PianoRounds x) {
        StringBuilder all = new StringBuilder();
        for (int k = 0; k < x.info(8); k++) {
            all.append(x.stage(k)).append(' ');
        }
        return all.toString().trim();
    }
}
