/** Long runs of drawn calls, each answer compared with that of PlainModel; the draws are always the same. */
final class RandomRunsTest {
    private static final int RUNS = 1500;
    /** A step may make some forty calls more, which stays below the 512 that the document promises. */
    private static final int CALLS = 460;

    private PianoRounds x;
    private PlainModel model;
    private long drawn;
    private int calls;
    private int run;
    private boolean wild;
    private int span;
    private final StringBuilder told = new StringBuilder();

    private static final int[] STATES = new int[4];
    private static final int[] TIES = new int[4];
    private static final int[] ROUNDS = new int[4];

    public static void main(String[] args) {
        boolean fine = true;
        for (int run = 0; run < RUNS && fine; run++) {
            fine = new RandomRunsTest().passes(run);
        }
        for (int k = 0; k < 4; k++) {
            if (STATES[k] == 0 || TIES[k] == 0 || ROUNDS[k] == 0) {
                Check.fail("no run has come to state, tie round or round " + k);
            }
        }
        Check.end();
    }

    private int draw(int bound) {
        drawn = (drawn * 6364136223846793005L + 1442695040888963407L);
        return (int) ((drawn >>> 33) % bound);
    }

    private boolean same(String call, Check.Call real, Check.Call due) {
        calls++;
        told.append(call).append('\n');
        String got = Check.outcome(real);
        String want = Check.outcome(due);
        if (!got.equals(want)) {
            Check.fail("run " + run + ":\n" + told + got + ", due is: " + want);
            return false;
        }
        return true;
    }

    private boolean passes(int number) {
        run = number;
        drawn = number * 7919L + 17;
        for (int i = 0; i < 5; i++) {
            draw(2);
        }
        x = new PianoRounds();
        model = new PlainModel();
        wild = draw(4) == 0;
        span = draw(3) == 0 ? 101 : 1 + draw(3);
        if (!prepare()) {
            return false;
        }
        while (calls < CALLS) {
            if (!step() || draw(3) == 0 && !same("checksum()", () -> x.checksum(), () -> model.checksum())) {
                return false;
            }
            STATES[model.info(3)]++;
            TIES[model.info(12)]++;
            ROUNDS[model.info(4)]++;
        }
        return same("checksum()", () -> x.checksum(), () -> model.checksum());
    }

    private boolean prepare() {
        int works = 1 + draw(12);
        for (int w = 0; w < works; w++) {
            int composer = draw(3);
            int era = draw(5);
            int minutes = 1 + draw(60);
            if (!same("addWork(" + composer + "," + era + "," + minutes + ")",
                    () -> x.addWork(composer, era, minutes), () -> model.addWork(composer, era, minutes))) {
                return false;
            }
        }
        int rounds = 1 + draw(4);
        int jurors = 3 + draw(draw(2) == 0 ? 1 : 5);
        boolean fine = same("set(0, " + jurors + ")", () -> x.set(0, jurors), () -> model.set(0, jurors))
                && same("set(1, " + rounds + ")", () -> x.set(1, rounds), () -> model.set(1, rounds));
        int entrants = 1 + draw(draw(8) == 0 ? 12 : 6);
        for (int r = 0; r < rounds && fine; r++) {
            int round = r;
            int places = 1 + draw(entrants);
            fine = same("setRule(" + round + ",5," + places + ")",
                    () -> x.setRule(round, 5, places), () -> model.setRule(round, 5, places));
        }
        fine = fine && textOf("" + draw(works));
        for (int e = 0; e < entrants && fine; e++) {
            fine = same("addEntrant()", () -> x.addEntrant(), () -> model.addEntrant());
            for (int r = 0; r < rounds && fine; r++) {
                fine = draw(10) == 0 || program(e, r);
            }
        }
        return fine;
    }

    private boolean program(int e, int r) {
        return same("setProgram(" + e + "," + r + ")", () -> x.setProgram(e, r), () -> model.setProgram(e, r));
    }

    private boolean textOf(String text) {
        boolean fine = same("clearText()", () -> x.clearText(), () -> model.clearText());
        for (int i = 0; i < text.length() && fine; i++) {
            int c = text.charAt(i);
            fine = same("type(" + c + ")", () -> x.type(c), () -> model.type(c));
        }
        return fine;
    }

    private boolean step() {
        int kind = draw(20);
        if (kind < 12 && !(wild && kind < 6)) {
            return forward();
        }
        if (kind < 14) {
            return ask();
        }
        if (kind < 15) {
            return textOf(drawnText());
        }
        if (kind < 16 && draw(3) == 0) {
            return same("undo()", () -> x.undo(), () -> model.undo());
        }
        return wild || draw(4) == 0 ? disturb() : ask();
    }

    private String drawnText() {
        StringBuilder all = new StringBuilder();
        int numbers = draw(draw(6) == 0 ? 12 : 4) + (draw(8) == 0 ? 0 : 1);
        for (int i = 0; i < numbers; i++) {
            all.append(i == 0 ? "" : ",").append(draw(8) == 0 ? "0" : "").append(draw(model.info(5) + (draw(9) == 0 ? 3 : 0)));
        }
        if (draw(6) == 0) {
            all.append((char) (draw(2) == 0 ? ',' : 32 + draw(95)));
        }
        return all.toString();
    }

    /** Something that brings the competition on. */
    private boolean forward() {
        int state = model.info(3);
        if (state == 0) {
            int seed = draw(2) == 0 ? draw(Integer.MAX_VALUE) : draw(50);
            return draw(4) != 0 || same("begin(" + seed + ")", () -> x.begin(seed), () -> model.begin(seed));
        }
        if (state == 1 && model.info(9) < model.info(8) && draw(2) == 0) {
            int slips = draw(3) == 0 ? draw(21) : 0;
            return same("play(" + slips + ")", () -> x.play(slips), () -> model.play(slips));
        }
        for (int e = 0; e < model.info(6); e++) {
            for (int j = 0; j < model.info(0) && (state == 2 ? model.entrant(e, 6) == 1 : model.entrant(e, 2) >= 0); j++) {
                if (model.marked(j, e, state == 2) == -1 && draw(6) != 0) {
                    return state == 3 || enter(j, e, state == 2 ? draw(Math.min(span, 11)) : draw(span));
                }
            }
        }
        return same("close()", () -> x.close(), () -> model.close());
    }

    private boolean enter(int j, int e, int mark) {
        if (draw(9) == 0) {
            return same("abstain(" + j + "," + e + ")", () -> x.abstain(j, e), () -> model.abstain(j, e));
        }
        return same("mark(" + j + "," + e + "," + mark + ")", () -> x.mark(j, e, mark), () -> model.mark(j, e, mark));
    }

    private int near(int bound) {
        if (draw(90) == 0) {
            return draw(2) == 0 ? Integer.MIN_VALUE : Integer.MAX_VALUE;
        }
        return draw(12) == 0 ? draw(40) - 10 : draw(Math.max(1, bound));
    }

    private boolean ask() {
        int e = near(model.info(6));
        int j = near(model.info(0));
        int r = near(4);
        int k = near(8);
        boolean b = draw(2) == 0;
        int s = draw(20) == 0 ? draw(200000) - 50000 : draw(3) == 0 ? draw(100001) : draw(span) * 1000 + draw(3);
        switch (draw(14)) {
            case 0: return same("info " + (k + r), () -> x.info(k + r), () -> model.info(k + r));
            case 1: return same("work " + k + " " + r, () -> x.work(k, r), () -> model.work(k, r));
            case 2: return same("rule " + r + " " + k, () -> x.rule(r, k), () -> model.rule(r, k));
            case 3: return same("program " + e + " " + r + " " + k,
                    () -> x.program(e, r, k), () -> model.program(e, r, k));
            case 4: return same("flaw " + e + " " + r, () -> x.flaw(e, r), () -> model.flaw(e, r));
            case 5: return same("entrant " + e + " " + k, () -> x.entrant(e, k), () -> model.entrant(e, k));
            case 6: return same("marked " + j + " " + e + " " + b,
                    () -> x.marked(j, e, b), () -> model.marked(j, e, b));
            case 7: return same("history " + e + " " + r, () -> x.history(e, r), () -> model.history(e, r));
            case 8: return same("stage " + k, () -> x.stage(k), () -> model.stage(k));
            case 9: return same("wouldBe " + r, () -> x.wouldBe(r), () -> model.wouldBe(r));
            case 10: return same("strangestJuror", () -> x.strangestJuror(), () -> model.strangestJuror());
            case 11: return same("fault", () -> x.fault(), () -> model.fault());
            default: return same("neededMark " + j + " " + e + " " + s,
                    () -> x.neededMark(j, e, s), () -> model.neededMark(j, e, s));
        }
    }

    /** Something that may be refused, or may hinder the competition. */
    private boolean disturb() {
        int e = near(model.info(6));
        int j = near(model.info(0));
        int r = near(4);
        int k = near(6);
        boolean b = draw(3) == 0;
        int v = near(new int[] {61, 181, 32, 5, 2, 13}[Math.floorMod(k, 6)]);
        switch (draw(14)) {
            case 0: return same("bar " + j + " " + e + " " + b,
                    () -> x.bar(j, e, b) ? 1 : 0, () -> model.bar(j, e, b) ? 1 : 0);
            case 1: return same("set " + r + " " + v, () -> x.set(r, v), () -> model.set(r, v));
            case 2: return same("set 2 " + v, () -> x.set(2, v), () -> model.set(2, v));
            case 3: return same("setRule " + r + " " + k + " " + v,
                    () -> x.setRule(r, k, v), () -> model.setRule(r, k, v));
            case 4: return program(e, r);
            case 5: return draw(3) != 0 || same("clearProgram " + e + " " + r,
                    () -> x.clearProgram(e, r), () -> model.clearProgram(e, r));
            case 6: return same("begin " + (v - 5), () -> x.begin(v - 5), () -> model.begin(v - 5));
            case 7: return same("play " + v, () -> x.play(v), () -> model.play(v));
            case 8: return same("mark " + j + " " + e + " " + v, () -> x.mark(j, e, v), () -> model.mark(j, e, v));
            case 9: return same("abstain " + j + " " + e, () -> x.abstain(j, e), () -> model.abstain(j, e));
            case 10: return same("close", () -> x.close(), () -> model.close());
            case 11: return draw(2) == 0 || same("withdraw " + e, () -> x.withdraw(e), () -> model.withdraw(e));
            case 12: return same("addEntrant", () -> x.addEntrant(), () -> model.addEntrant());
            default: return same("addWork " + r + " " + k + " " + v,
                    () -> x.addWork(r, k, v), () -> model.addWork(r, k, v));
        }
    }
}
