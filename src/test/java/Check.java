/** What the tests share: comparing answers, and competitions that stand at some point. */
final class Check {
    interface Call {
        long answer();
    }

    private static int wrong = 0;

    private Check() {
    }

    static void due(String call, long got, long want) {
        if (got != want) {
            wrong++;
            System.out.println(call + " answered " + got + ", due is " + want);
        }
    }

    static void index(PianoRounds x, String call, Call made) {
        refuses(x, IndexOutOfBoundsException.class, call, made);
    }

    static void argument(PianoRounds x, String call, Call made) {
        refuses(x, IllegalArgumentException.class, call, made);
    }

    static void state(PianoRounds x, String call, Call made) {
        refuses(x, IllegalStateException.class, call, made);
    }

    /** The call has to throw just this exception, and to change nothing. */
    private static void refuses(PianoRounds x, Class<?> due, String call, Call made) {
        long before = x.checksum();
        String got = outcome(made);
        if (!got.equals("throws " + due.getName())) {
            wrong++;
            System.out.println(call + ": " + got + ", due is " + due.getName());
        }
        due("checksum() after the refused " + call, x.checksum(), before);
    }

    static String outcome(Call made) {
        try {
            return "answers " + made.answer();
        } catch (RuntimeException e) {
            return "throws " + e.getClass().getName();
        }
    }

    static void fail(String what) {
        wrong++;
        System.out.println(what);
    }

    static void end() {
        System.out.println(wrong == 0 ? "all answers are as due" : wrong + " answers are not as due");
        if (wrong != 0) {
            System.exit(1);
        }
    }

    // ---- competitions

    static void text(PianoRounds x, String text) {
        x.clearText();
        for (int i = 0; i < text.length(); i++) {
            x.type(text.charAt(i));
        }
    }

    /** Entrants, each with the program "0" (a work of 10 minutes) for round 0; nothing has begun. */
    static PianoRounds entrants(int count, int jurors, int places) {
        PianoRounds x = new PianoRounds();
        x.addWork(0, 0, 10);
        x.addWork(1, 1, 20);
        x.addWork(2, 2, 30);
        x.set(0, jurors);
        x.setRule(0, 5, places);
        text(x, "0");
        for (int e = 0; e < count; e++) {
            x.addEntrant();
            x.setProgram(e, 0);
        }
        return x;
    }

    /** The same in round 0, where all have played without slips. */
    static PianoRounds played(int count, int jurors, int places) {
        PianoRounds x = entrants(count, jurors, places);
        x.begin(42);
        playAll(x);
        return x;
    }

    static void playAll(PianoRounds x) {
        while (x.info(3) == 1 && x.info(9) < x.info(8)) {
            x.play(0);
        }
    }

    /** Each juror gives this entrant the same mark. */
    static void markAll(PianoRounds x, int entrant, int mark) {
        for (int j = 0; j < x.info(0); j++) {
            x.mark(j, entrant, mark);
        }
    }

    static void marks(PianoRounds x, int entrant, int... marks) {
        for (int j = 0; j < marks.length; j++) {
            x.mark(j, entrant, marks[j]);
        }
    }

    /** The places of all players in the stage order, as one text. */
    static String order(PianoRounds x) {
        StringBuilder all = new StringBuilder();
        for (int k = 0; k < x.info(8); k++) {
            all.append(x.stage(k)).append(' ');
        }
        return all.toString().trim();
    }
}
