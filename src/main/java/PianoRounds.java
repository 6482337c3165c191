import java.util.Arrays;

/** A piano competition of up to four rounds; README.md says how to use it. */
public final class PianoRounds {

    public static final int NONE = -1;

    private static final int MAX_WORKS = 30;
    private static final int MAX_ENTRANTS = 12;
    private static final int MAX_JURORS = 7;
    private static final int MAX_ROUNDS = 4;
    private static final int MAX_PROGRAM = 4;
    private static final int MAX_TIE_ROUNDS = 3;
    private static final int MAX_RECORDS = 4;
    private static final int MAX_TEXT = 40;

    private static final int COMPOSERS = 10;
    private static final int ERAS = 5;
    private static final int MAX_MINUTES = 60;
    private static final int MAX_SLIPS = 20;
    private static final int MAX_MARK = 100;
    private static final int MAX_TIE_MARK = 10;
    private static final int MAX_SCORE = 100000;

    private static final int NOT_BEGUN = 0;
    private static final int IN_ROUND = 1;
    private static final int IN_TIE_ROUND = 2;
    private static final int OVER = 3;

    /** Stands on a sheet where a juror has abstained; NONE stands where there is nothing yet. */
    private static final int ABSTAINED = -2;

    private static final int SETTINGS = 3;
    private static final int[] SETTING_LOWEST = {3, 1, 0};
    private static final int[] SETTING_HIGHEST = {7, 4, 100};

    private static final int RULES = 6;
    private static final int RULE_LEAST_LENGTH = 0;
    private static final int RULE_GREATEST_LENGTH = 1;
    private static final int RULE_ERAS = 2;
    private static final int RULE_SAME_COMPOSER = 3;
    private static final int RULE_ALL_NEW = 4;
    private static final int RULE_PLACES = 5;
    private static final int[] RULE_LOWEST = {1, 1, 0, 1, 0, 1};
    private static final int[] RULE_HIGHEST = {180, 180, 31, 4, 1, 12};
    private static final int[] RULE_AT_FIRST = {1, 180, 0, 4, 0, 12};

    private static final int INFOS = 13;
    private static final int ENTRANT_FACTS = 8;
    private static final int WORK_FACTS = 3;
    private static final int OUTCOMES = 3;

    private final Competition now = new Competition();
    private final Records records = new Records();
    private final Text text = new Text();

    public PianoRounds() {
    }

    // ---- works, entrants, jury

    public int addWork(int composer, int era, int minutes) throws IllegalArgumentException, IllegalStateException {
        requireArgument(isBetween(composer, 0, COMPOSERS - 1));
        requireArgument(isBetween(era, 0, ERAS - 1));
        requireArgument(isBetween(minutes, 1, MAX_MINUTES));
        requireState(now.state == NOT_BEGUN && now.works.count < MAX_WORKS);
        records.keep(now);
        return now.works.append(composer, era, minutes);
    }

    public int work(int work, int what) throws IndexOutOfBoundsException, IllegalArgumentException {
        requireIndex(now.works.has(work));
        requireArgument(isBetween(what, 0, WORK_FACTS - 1));
        return now.works.fact(work, what);
    }

    public int addEntrant() throws IllegalStateException {
        requireState(now.state == NOT_BEGUN && now.entrants.count < MAX_ENTRANTS);
        records.keep(now);
        return now.entrants.append();
    }

    public boolean bar(int juror, int entrant, boolean barred) throws IndexOutOfBoundsException {
        requireJurorAndEntrant(juror, entrant);
        records.keep(now);
        boolean before = now.jury.isBarred(juror, entrant);
        now.jury.setBarred(juror, entrant, barred);
        return before;
    }

    public int set(int what, int value) throws IllegalArgumentException, IllegalStateException {
        requireArgument(isBetween(what, 0, SETTINGS - 1));
        requireArgument(isBetween(value, SETTING_LOWEST[what], SETTING_HIGHEST[what]));
        requireState(what == 2 || now.state == NOT_BEGUN);
        records.keep(now);
        int before = now.tell(what);
        now.change(what, value);
        return before;
    }

    public int setRule(int round, int what, int value)
            throws IndexOutOfBoundsException, IllegalArgumentException, IllegalStateException {
        requireRound(round);
        requireArgument(isBetween(what, 0, RULES - 1));
        requireArgument(isBetween(value, RULE_LOWEST[what], RULE_HIGHEST[what]));
        requireState(now.state == NOT_BEGUN);
        records.keep(now);
        int before = now.rules[round][what];
        now.rules[round][what] = value;
        return before;
    }

    public int rule(int round, int what) throws IndexOutOfBoundsException, IllegalArgumentException {
        requireRound(round);
        requireArgument(isBetween(what, 0, RULES - 1));
        return now.rules[round][what];
    }

    // ---- programs

    public int setProgram(int entrant, int round) throws IndexOutOfBoundsException, IllegalArgumentException {
        requireEntrantAndRound(entrant, round);
        requireArgument(text.faultAmong(now.works.count) == NONE);
        records.keep(now);
        now.programs.empty(entrant, round);
        for (int k = 0; k < text.found; k++) {
            now.programs.put(entrant, round, k, text.numbers[k]);
        }
        return text.found;
    }

    public int clearProgram(int entrant, int round) throws IndexOutOfBoundsException {
        requireEntrantAndRound(entrant, round);
        records.keep(now);
        int before = now.programs.sizeOf(entrant, round);
        now.programs.empty(entrant, round);
        return before;
    }

    public int program(int entrant, int round, int k) throws IndexOutOfBoundsException {
        requireEntrantAndRound(entrant, round);
        return now.programs.workAt(entrant, round, k);
    }

    public int flaw(int entrant, int round) throws IndexOutOfBoundsException {
        requireEntrantAndRound(entrant, round);
        return now.programs.flawOf(entrant, round, now.rules, now.works);
    }

    // ---- rounds

    public int begin(int seed) throws IllegalArgumentException, IllegalStateException {
        requireArgument(seed >= 0);
        requireState(now.state == NOT_BEGUN);
        records.keep(now);
        now.stage.seed = seed;
        now.startRound(0);
        return now.stage.players;
    }

    public int play(int slips) throws IllegalArgumentException, IllegalStateException {
        requireArgument(isBetween(slips, 0, MAX_SLIPS));
        requireState(now.state == IN_ROUND && now.stage.played < now.stage.players);
        records.keep(now);
        return now.stage.letNextPlay(slips);
    }

    public int mark(int juror, int entrant, int mark)
            throws IndexOutOfBoundsException, IllegalArgumentException, IllegalStateException {
        requireJurorAndEntrant(juror, entrant);
        requireArgument(isBetween(mark, 0, now.state == IN_TIE_ROUND ? MAX_TIE_MARK : MAX_MARK));
        return enter(juror, entrant, mark);
    }

    public int abstain(int juror, int entrant) throws IndexOutOfBoundsException, IllegalStateException {
        requireJurorAndEntrant(juror, entrant);
        return enter(juror, entrant, ABSTAINED);
    }

    private int enter(int juror, int entrant, int mark) {
        requireState(now.canBeMarked(entrant) && !now.jury.isBarred(juror, entrant));
        records.keep(now);
        now.openSheet().put(juror, entrant, mark);
        return now.countedMarks(entrant);
    }

    public int close() throws IllegalStateException {
        requireState(now.canBeClosed());
        records.keep(now);
        boolean decided = now.state == IN_ROUND ? now.decideRound() : now.decideTieRound();
        if (decided) {
            now.goOn();
        }
        return now.state;
    }

    public int withdraw(int entrant) throws IndexOutOfBoundsException, IllegalStateException {
        requireEntrant(entrant);
        requireState(now.entrants.isIn(entrant));
        requireState(now.state == NOT_BEGUN || now.state == IN_ROUND && !now.stage.hasPlayed(entrant));
        records.keep(now);
        now.letGo(entrant);
        return now.entrants.countIn();
    }

    // ---- telling

    public int info(int what) throws IllegalArgumentException {
        requireArgument(isBetween(what, 0, INFOS - 1));
        return now.tell(what);
    }

    public int entrant(int entrant, int what) throws IndexOutOfBoundsException, IllegalArgumentException {
        requireEntrant(entrant);
        requireArgument(isBetween(what, 0, ENTRANT_FACTS - 1));
        return now.tellOfEntrant(entrant, what);
    }

    public int marked(int juror, int entrant, boolean tie) throws IndexOutOfBoundsException {
        requireJurorAndEntrant(juror, entrant);
        return tie ? now.tie.sheet.at(juror, entrant) : now.sheet.at(juror, entrant);
    }

    public int history(int entrant, int round) throws IndexOutOfBoundsException {
        requireEntrantAndRound(entrant, round);
        return now.closedScores[round][entrant];
    }

    public int stage(int k) {
        return now.stage.playerAt(k);
    }

    // ---- in thought

    public int wouldBe(int what) throws IllegalArgumentException {
        requireArgument(isBetween(what, 0, OUTCOMES - 1));
        if (now.state != IN_ROUND || !now.canBeClosed()) {
            return NONE;
        }
        now.judgeRound();
        return now.cut.countOf(what);
    }

    public int neededMark(int juror, int entrant, int score)
            throws IndexOutOfBoundsException, IllegalArgumentException, IllegalStateException {
        requireJurorAndEntrant(juror, entrant);
        requireArgument(isBetween(score, 0, MAX_SCORE));
        requireState(now.state == IN_ROUND);
        requireState(now.stage.hasPlayed(entrant) && !now.jury.isBarred(juror, entrant));
        for (int mark = 0; mark <= MAX_MARK; mark++) {
            if (now.scoreWith(juror, entrant, mark) >= score) {
                return mark;
            }
        }
        return NONE;
    }

    public int strangestJuror() {
        if (now.state != IN_ROUND) {
            return NONE;
        }
        int strangest = NONE;
        int greatest = NONE;
        for (int juror = 0; juror < now.jury.size; juror++) {
            int distance = now.distanceOf(juror);
            if (distance > greatest) {
                greatest = distance;
                strangest = juror;
            }
        }
        return strangest;
    }

    // ---- texts, undo

    public int type(int c) throws IllegalArgumentException, IllegalStateException {
        requireArgument(isBetween(c, 32, 126));
        requireState(text.length < MAX_TEXT);
        return text.append(c);
    }

    public int clearText() {
        int before = text.length;
        text.length = 0;
        return before;
    }

    public int fault() {
        return text.faultAmong(now.works.count);
    }

    public int undo() throws IllegalStateException {
        requireState(records.count > 0);
        return records.restore(now);
    }

    public long checksum() {
        long h = 43009L;
        for (int what = 0; what < INFOS; what++) {
            h = mix(h, now.tell(what));
        }
        h = mixWorks(h);
        h = mixRules(h);
        for (int entrant = 0; entrant < now.entrants.count; entrant++) {
            h = mixEntrant(h, entrant);
            h = mixPrograms(h, entrant);
            h = mixSheets(h, entrant);
        }
        for (int k = 0; k < now.stage.players; k++) {
            h = mix(h, now.stage.playerAt(k));
        }
        h = mix(h, strangestJuror());
        h = mix(h, text.length);
        return mix(h, records.count);
    }

    private static long mix(long h, int v) {
        return 31L * h + v;
    }

    private long mixWorks(long h) {
        long mixed = h;
        for (int work = 0; work < now.works.count; work++) {
            for (int what = 0; what < WORK_FACTS; what++) {
                mixed = mix(mixed, now.works.fact(work, what));
            }
        }
        return mixed;
    }

    private long mixRules(long h) {
        long mixed = h;
        for (int round = 0; round < MAX_ROUNDS; round++) {
            for (int what = 0; what < RULES; what++) {
                mixed = mix(mixed, now.rules[round][what]);
            }
        }
        return mixed;
    }

    private long mixEntrant(long h, int entrant) {
        long mixed = h;
        for (int what = 0; what < ENTRANT_FACTS; what++) {
            mixed = mix(mixed, now.tellOfEntrant(entrant, what));
        }
        return mixed;
    }

    private long mixPrograms(long h, int entrant) {
        long mixed = h;
        for (int round = 0; round < MAX_ROUNDS; round++) {
            mixed = mix(mixed, now.programs.flawOf(entrant, round, now.rules, now.works));
            mixed = mix(mixed, now.closedScores[round][entrant]);
            for (int k = 0; k < MAX_PROGRAM; k++) {
                mixed = mix(mixed, now.programs.workAt(entrant, round, k));
            }
        }
        return mixed;
    }

    private long mixSheets(long h, int entrant) {
        long mixed = h;
        for (int juror = 0; juror < now.jury.size; juror++) {
            mixed = mix(mixed, now.jury.isBarred(juror, entrant) ? 1 : 0);
            mixed = mix(mixed, now.sheet.at(juror, entrant));
            mixed = mix(mixed, now.tie.sheet.at(juror, entrant));
        }
        return mixed;
    }

    // ---- what calls require

    private static boolean isBetween(int value, int lowest, int highest) {
        return value >= lowest && value <= highest;
    }

    private static void requireIndex(boolean holds) {
        if (!holds) {
            throw new IndexOutOfBoundsException();
        }
    }

    private static void requireArgument(boolean holds) {
        if (!holds) {
            throw new IllegalArgumentException();
        }
    }

    private static void requireState(boolean holds) {
        if (!holds) {
            throw new IllegalStateException();
        }
    }

    private static void requireRound(int round) {
        requireIndex(isBetween(round, 0, MAX_ROUNDS - 1));
    }

    private void requireEntrant(int entrant) {
        requireIndex(now.entrants.has(entrant));
    }

    private void requireEntrantAndRound(int entrant, int round) {
        requireEntrant(entrant);
        requireRound(round);
    }

    private void requireJurorAndEntrant(int juror, int entrant) {
        requireIndex(now.jury.has(juror));
        requireEntrant(entrant);
    }

    private static void copyRows(int[][] from, int[][] to) {
        for (int i = 0; i < from.length && i < to.length; i++) {
            System.arraycopy(from[i], 0, to[i], 0, Math.min(from[i].length, to[i].length));
        }
    }

    private static void copyRow(int[] from, int[] to) {
        System.arraycopy(from, 0, to, 0, Math.min(from.length, to.length));
    }

    /** The works that can be played. */
    private static final class Works {
        private int count;
        private final int[] composers = new int[MAX_WORKS];
        private final int[] eras = new int[MAX_WORKS];
        private final int[] lengths = new int[MAX_WORKS];

        boolean has(int work) {
            return work >= 0 && work < count && work < MAX_WORKS;
        }

        int append(int composer, int era, int minutes) {
            if (count >= MAX_WORKS) {
                return NONE;
            }
            int number = count;
            composers[number] = composer;
            eras[number] = era;
            lengths[number] = minutes;
            count = number + 1;
            return number;
        }

        int composerOf(int work) {
            return has(work) ? composers[work] : NONE;
        }

        int eraOf(int work) {
            return has(work) ? eras[work] : NONE;
        }

        int minutesOf(int work) {
            return has(work) ? lengths[work] : 0;
        }

        int fact(int work, int what) {
            switch (what) {
                case 0: return composerOf(work);
                case 1: return eraOf(work);
                default: return minutesOf(work);
            }
        }

        void copyFrom(Works other) {
            count = other.count;
            copyRow(other.composers, composers);
            copyRow(other.eras, eras);
            copyRow(other.lengths, lengths);
        }
    }

    /** Which entrants there are, and which of them are in. */
    private static final class Entrants {
        private int count;
        private final int[] in = new int[MAX_ENTRANTS];

        boolean has(int entrant) {
            return entrant >= 0 && entrant < count && entrant < MAX_ENTRANTS;
        }

        int append() {
            if (count >= MAX_ENTRANTS) {
                return NONE;
            }
            int number = count;
            in[number] = 1;
            count = number + 1;
            return number;
        }

        boolean isIn(int entrant) {
            return has(entrant) && in[entrant] == 1;
        }

        void putOut(int entrant) {
            if (has(entrant)) {
                in[entrant] = 0;
            }
        }

        int countIn() {
            int sum = 0;
            for (int entrant = 0; entrant < count; entrant++) {
                if (isIn(entrant)) {
                    sum++;
                }
            }
            return sum;
        }

        void copyFrom(Entrants other) {
            count = other.count;
            copyRow(other.in, in);
        }
    }

    /** The programs of all entrants for all rounds: MAX_PROGRAM places each, NONE where there is no work. */
    private static final class Programs {
        private final int[] places = new int[MAX_ENTRANTS * MAX_ROUNDS * MAX_PROGRAM];

        Programs() {
            Arrays.fill(places, NONE);
        }

        int workAt(int entrant, int round, int k) {
            boolean exists = entrant >= 0 && entrant < MAX_ENTRANTS
                    && round >= 0 && round < MAX_ROUNDS && k >= 0 && k < MAX_PROGRAM;
            return exists ? places[(entrant * MAX_ROUNDS + round) * MAX_PROGRAM + k] : NONE;
        }

        void put(int entrant, int round, int k, int work) {
            boolean exists = entrant >= 0 && entrant < MAX_ENTRANTS
                    && round >= 0 && round < MAX_ROUNDS && k >= 0 && k < MAX_PROGRAM;
            if (exists) {
                places[(entrant * MAX_ROUNDS + round) * MAX_PROGRAM + k] = work;
            }
        }

        void empty(int entrant, int round) {
            for (int k = 0; k < MAX_PROGRAM; k++) {
                put(entrant, round, k, NONE);
            }
        }

        int sizeOf(int entrant, int round) {
            int size = 0;
            while (size < MAX_PROGRAM && workAt(entrant, round, size) != NONE) {
                size++;
            }
            return size;
        }

        /** The flaw of a program; rules are those of all rounds. */
        int flawOf(int entrant, int round, int[][] rules, Works works) {
            if (round < 0 || round >= rules.length || sizeOf(entrant, round) == 0) {
                return 1;
            }
            int[] rule = rules[round];
            int minutes = minutesOf(entrant, round, works);
            if (minutes < rule[RULE_LEAST_LENGTH]) {
                return 2;
            }
            if (minutes > rule[RULE_GREATEST_LENGTH]) {
                return 3;
            }
            if ((rule[RULE_ERAS] & ~erasOf(entrant, round, works)) != 0) {
                return 4;
            }
            if (mostOfOneComposer(entrant, round, works) > rule[RULE_SAME_COMPOSER]) {
                return 5;
            }
            return rule[RULE_ALL_NEW] == 1 && repeatsEarlierRound(entrant, round) ? 6 : 0;
        }

        private int minutesOf(int entrant, int round, Works works) {
            int sum = 0;
            for (int k = 0; k < MAX_PROGRAM; k++) {
                sum += works.minutesOf(workAt(entrant, round, k));
            }
            return sum;
        }

        private int erasOf(int entrant, int round, Works works) {
            int set = 0;
            for (int k = 0; k < MAX_PROGRAM; k++) {
                int era = works.eraOf(workAt(entrant, round, k));
                if (era != NONE) {
                    set |= 1 << era;
                }
            }
            return set;
        }

        private int mostOfOneComposer(int entrant, int round, Works works) {
            int most = 0;
            for (int composer = 0; composer < COMPOSERS; composer++) {
                int sum = 0;
                for (int k = 0; k < MAX_PROGRAM; k++) {
                    if (works.composerOf(workAt(entrant, round, k)) == composer) {
                        sum++;
                    }
                }
                most = Math.max(most, sum);
            }
            return most;
        }

        private boolean repeatsEarlierRound(int entrant, int round) {
            for (int earlier = 0; earlier < round; earlier++) {
                for (int k = 0; k < MAX_PROGRAM; k++) {
                    int work = workAt(entrant, round, k);
                    if (work != NONE && contains(entrant, earlier, work)) {
                        return true;
                    }
                }
            }
            return false;
        }

        private boolean contains(int entrant, int round, int work) {
            for (int k = 0; k < MAX_PROGRAM; k++) {
                if (workAt(entrant, round, k) == work) {
                    return true;
                }
            }
            return false;
        }

        void copyFrom(Programs other) {
            copyRow(other.places, places);
        }
    }

    /** What the jurors have told of the entrants: a mark, ABSTAINED, or NONE. */
    private static final class Sheet {
        private final int[][] rows = new int[MAX_JURORS][MAX_ENTRANTS];

        Sheet() {
            wipe();
        }

        void wipe() {
            for (int juror = 0; juror < MAX_JURORS; juror++) {
                Arrays.fill(rows[juror], NONE);
            }
        }

        int at(int juror, int entrant) {
            boolean exists = juror >= 0 && juror < MAX_JURORS && entrant >= 0 && entrant < MAX_ENTRANTS;
            return exists ? rows[juror][entrant] : NONE;
        }

        void put(int juror, int entrant, int mark) {
            if (juror >= 0 && juror < MAX_JURORS && entrant >= 0 && entrant < MAX_ENTRANTS) {
                rows[juror][entrant] = mark;
            }
        }

        void copyFrom(Sheet other) {
            copyRows(other.rows, rows);
        }
    }

    /** The jurors: how many, who is barred from whom, and what their marks on a sheet come to. */
    private static final class Jury {
        private int size = 5;
        private final int[][] barred = new int[MAX_JURORS][MAX_ENTRANTS];

        boolean has(int juror) {
            return juror >= 0 && juror < size && juror < MAX_JURORS;
        }

        boolean isBarred(int juror, int entrant) {
            boolean exists = juror >= 0 && juror < MAX_JURORS && entrant >= 0 && entrant < MAX_ENTRANTS;
            return exists && barred[juror][entrant] == 1;
        }

        void setBarred(int juror, int entrant, boolean value) {
            if (juror >= 0 && juror < MAX_JURORS && entrant >= 0 && entrant < MAX_ENTRANTS) {
                barred[juror][entrant] = value ? 1 : 0;
            }
        }

        boolean counts(Sheet sheet, int juror, int entrant) {
            return sheet.at(juror, entrant) >= 0 && !isBarred(juror, entrant);
        }

        int countMarks(Sheet sheet, int entrant) {
            int sum = 0;
            for (int juror = 0; juror < size; juror++) {
                if (counts(sheet, juror, entrant)) {
                    sum++;
                }
            }
            return sum;
        }

        /** Whether no juror is missing for this entrant, and enough of the marks count. */
        boolean isSettled(Sheet sheet, int entrant) {
            int marks = 0;
            for (int juror = 0; juror < size; juror++) {
                if (isBarred(juror, entrant)) {
                    continue;
                }
                int mark = sheet.at(juror, entrant);
                if (mark == NONE) {
                    return false;
                }
                if (mark != ABSTAINED) {
                    marks++;
                }
            }
            return marks >= (size + 1) / 2;
        }

        int meanOf(Sheet sheet, int entrant) {
            return meanIf(sheet, entrant, NONE, NONE);
        }

        /** The mean if this juror's mark were another one (NONE: no mark); NONE without any mark. */
        int meanIf(Sheet sheet, int entrant, int changedJuror, int changedMark) {
            int count = 0;
            int sum = 0;
            int lowest = MAX_MARK;
            int highest = 0;
            for (int juror = 0; juror < size; juror++) {
                int mark = juror == changedJuror ? changedMark : sheet.at(juror, entrant);
                if (mark >= 0 && !isBarred(juror, entrant)) {
                    count++;
                    sum += mark;
                    lowest = Math.min(lowest, mark);
                    highest = Math.max(highest, mark);
                }
            }
            if (count >= 4) {
                count -= 2;
                sum -= lowest + highest;
            }
            return count > 0 ? sum * 1000 / count : NONE;
        }

        void copyFrom(Jury other) {
            size = other.size;
            copyRows(other.barred, barred);
        }
    }

    /** The players of the round in the stage order, and how they have played. */
    private static final class Stage {
        private int players;
        private int played;
        private long seed;
        private final int[] order = new int[MAX_ENTRANTS];
        /** By entrant; NONE if it has not played. */
        private final int[] slips = new int[MAX_ENTRANTS];

        Stage() {
            empty();
        }

        void empty() {
            players = 0;
            played = 0;
            Arrays.fill(slips, NONE);
        }

        void seat(int entrant) {
            if (players < MAX_ENTRANTS) {
                order[players] = entrant;
                players++;
            }
        }

        void drawLots() {
            for (int i = players - 1; i >= 1; i--) {
                seed = (seed * 1103515245L + 12345L) % 2147483648L;
                exchange(i, (int) (seed / 65536L % (i + 1)));
            }
        }

        private void exchange(int i, int j) {
            if (isBetween(i, 0, MAX_ENTRANTS - 1) && isBetween(j, 0, MAX_ENTRANTS - 1)) {
                int player = order[i];
                order[i] = order[j];
                order[j] = player;
            }
        }

        int playerAt(int k) {
            return k >= 0 && k < players && k < MAX_ENTRANTS ? order[k] : NONE;
        }

        int placeOf(int entrant) {
            for (int k = 0; k < players; k++) {
                if (playerAt(k) == entrant) {
                    return k;
                }
            }
            return NONE;
        }

        int slipsOf(int entrant) {
            return isBetween(entrant, 0, MAX_ENTRANTS - 1) ? slips[entrant] : NONE;
        }

        boolean hasPlayed(int entrant) {
            return slipsOf(entrant) != NONE;
        }

        int letNextPlay(int count) {
            int player = playerAt(played);
            if (isBetween(player, 0, MAX_ENTRANTS - 1)) {
                slips[player] = count;
                played++;
            }
            return player;
        }

        void unseat(int entrant) {
            int place = placeOf(entrant);
            if (place == NONE) {
                return;
            }
            for (int k = place; k + 1 < players; k++) {
                exchange(k, k + 1);
            }
            players--;
        }

        void copyFrom(Stage other) {
            players = other.players;
            played = other.played;
            seed = other.seed;
            copyRow(other.order, order);
            copyRow(other.slips, slips);
        }
    }

    /** Who goes on, is tied or is out by scores, for some places. */
    private static final class Cut {
        private int places;
        /** The score of the last place; NONE if there are places for all. */
        private int line;
        private int above;
        private int level;
        private int below;
        /** By entrant; NONE for those who are not judged. */
        private final int[] scores = new int[MAX_ENTRANTS];

        void clear() {
            Arrays.fill(scores, NONE);
        }

        void put(int entrant, int score) {
            if (isBetween(entrant, 0, MAX_ENTRANTS - 1)) {
                scores[entrant] = score;
            }
        }

        int scoreOf(int entrant) {
            return isBetween(entrant, 0, MAX_ENTRANTS - 1) ? scores[entrant] : NONE;
        }

        void draw(int forPlaces) {
            places = forPlaces;
            line = findLine();
            above = 0;
            level = 0;
            below = 0;
            for (int score : scores) {
                if (score == NONE) {
                    continue;
                }
                if (score > line) {
                    above++;
                } else if (score == line) {
                    level++;
                } else {
                    below++;
                }
            }
        }

        private int findLine() {
            if (countFrom(0) <= places) {
                return NONE;
            }
            int found = NONE;
            for (int score : scores) {
                if (score > found && countFrom(score) >= places) {
                    found = score;
                }
            }
            return found;
        }

        private int countFrom(int lowest) {
            int count = 0;
            for (int score : scores) {
                if (score >= lowest) {
                    count++;
                }
            }
            return count;
        }

        boolean leavesTie() {
            return above + level > places;
        }

        int placesLeft() {
            return places - above;
        }

        boolean isTied(int entrant) {
            return leavesTie() && scoreOf(entrant) != NONE && scoreOf(entrant) == line;
        }

        boolean isOut(int entrant) {
            return scoreOf(entrant) != NONE && scoreOf(entrant) < line;
        }

        /** How many 0: go on, 1: are tied, 2: are out. */
        int countOf(int what) {
            switch (what) {
                case 0: return leavesTie() ? above : above + level;
                case 1: return leavesTie() ? level : 0;
                default: return below;
            }
        }
    }

    /** The tie round; number 0 if there is none. */
    private static final class Tie {
        private int number;
        private int places;
        private final int[] tied = new int[MAX_ENTRANTS];
        private final Sheet sheet = new Sheet();

        void end() {
            number = 0;
            places = 0;
            Arrays.fill(tied, 0);
            sheet.wipe();
        }

        void startNext(Cut cut) {
            number++;
            places = cut.placesLeft();
            for (int entrant = 0; entrant < MAX_ENTRANTS; entrant++) {
                tied[entrant] = cut.isTied(entrant) ? 1 : 0;
            }
            sheet.wipe();
        }

        boolean has(int entrant) {
            return isBetween(entrant, 0, MAX_ENTRANTS - 1) && tied[entrant] == 1;
        }

        int count() {
            int sum = 0;
            for (int flag : tied) {
                sum += flag;
            }
            return sum;
        }

        void copyFrom(Tie other) {
            number = other.number;
            places = other.places;
            copyRow(other.tied, tied);
            sheet.copyFrom(other.sheet);
        }
    }

    /** All that a record keeps, and the course of the competition. */
    private static final class Competition {
        private int state = NOT_BEGUN;
        private int round;
        private int rounds = 1;
        private int penalty = 50;
        private final Works works = new Works();
        private final Entrants entrants = new Entrants();
        private final int[][] rules = new int[MAX_ROUNDS][RULES];
        private final Programs programs = new Programs();
        private final Jury jury = new Jury();
        private final Stage stage = new Stage();
        private final Sheet sheet = new Sheet();
        private final Tie tie = new Tie();
        private final int[][] closedScores = new int[MAX_ROUNDS][MAX_ENTRANTS];
        /** Room to work in: it keeps nothing from one call to the next. */
        private final Cut cut = new Cut();

        Competition() {
            for (int k = 0; k < MAX_ROUNDS; k++) {
                copyRow(RULE_AT_FIRST, rules[k]);
                Arrays.fill(closedScores[k], NONE);
            }
        }

        void copyFrom(Competition other) {
            state = other.state;
            round = other.round;
            rounds = other.rounds;
            penalty = other.penalty;
            works.copyFrom(other.works);
            entrants.copyFrom(other.entrants);
            copyRows(other.rules, rules);
            programs.copyFrom(other.programs);
            jury.copyFrom(other.jury);
            stage.copyFrom(other.stage);
            sheet.copyFrom(other.sheet);
            tie.copyFrom(other.tie);
            copyRows(other.closedScores, closedScores);
        }

        void change(int what, int value) {
            switch (what) {
                case 0: jury.size = value; break;
                case 1: rounds = value; break;
                default: penalty = value; break;
            }
        }

        int tell(int what) {
            switch (what) {
                case 0: return jury.size;
                case 1: return rounds;
                case 2: return penalty;
                case 3: return state;
                case 4: return round;
                case 5: return works.count;
                case 6: return entrants.count;
                case 7: return entrants.countIn();
                case 8: return stage.players;
                case 9: return stage.played;
                case 10: return tie.count();
                case 11: return tie.places;
                default: return tie.number;
            }
        }

        int tellOfEntrant(int entrant, int what) {
            switch (what) {
                case 0: return entrants.isIn(entrant) ? 1 : 0;
                case 1: return stage.placeOf(entrant);
                case 2: return stage.slipsOf(entrant);
                case 3: return countedMarks(entrant);
                case 4: return scoreOf(entrant);
                case 5: return isComplete(entrant) ? 1 : 0;
                case 6: return tie.has(entrant) ? 1 : 0;
                default: return jury.meanOf(tie.sheet, entrant);
            }
        }

        // -- marks

        Sheet openSheet() {
            return state == IN_TIE_ROUND ? tie.sheet : sheet;
        }

        boolean canBeMarked(int entrant) {
            if (state == IN_TIE_ROUND) {
                return tie.has(entrant);
            }
            return state == IN_ROUND && stage.hasPlayed(entrant);
        }

        int countedMarks(int entrant) {
            return jury.countMarks(openSheet(), entrant);
        }

        int scoreOf(int entrant) {
            return scoreWith(NONE, entrant, NONE);
        }

        /** The score if this juror's mark were another one. */
        int scoreWith(int juror, int entrant, int mark) {
            int mean = jury.meanIf(sheet, entrant, juror, mark);
            if (mean == NONE) {
                return NONE;
            }
            int slips = Math.max(0, stage.slipsOf(entrant));
            return Math.max(0, mean - penalty * 10 * slips);
        }

        boolean isComplete(int entrant) {
            return stage.hasPlayed(entrant) && jury.isSettled(sheet, entrant);
        }

        /** How far the marks of a juror are from those of the others; NONE if none can be compared. */
        int distanceOf(int juror) {
            int sum = NONE;
            for (int k = 0; k < stage.players; k++) {
                int player = stage.playerAt(k);
                int others = jury.meanIf(sheet, player, juror, NONE);
                if (others != NONE && jury.counts(sheet, juror, player)) {
                    int distance = Math.abs(1000 * sheet.at(juror, player) - others);
                    sum = Math.max(0, sum) + distance;
                }
            }
            return sum;
        }

        // -- the course of the rounds

        void startRound(int number) {
            round = number;
            stage.empty();
            sheet.wipe();
            for (int entrant = 0; entrant < entrants.count; entrant++) {
                if (!entrants.isIn(entrant)) {
                    continue;
                }
                if (programs.flawOf(entrant, number, rules, works) == 0) {
                    stage.seat(entrant);
                } else {
                    entrants.putOut(entrant);
                }
            }
            stage.drawLots();
            state = stage.players > 0 ? IN_ROUND : OVER;
        }

        void letGo(int entrant) {
            entrants.putOut(entrant);
            stage.unseat(entrant);
            if (state == IN_ROUND && stage.players == 0) {
                state = OVER;
            }
        }

        boolean canBeClosed() {
            if (state != IN_ROUND && state != IN_TIE_ROUND) {
                return false;
            }
            for (int k = 0; k < stage.players; k++) {
                if (isAwaited(stage.playerAt(k))) {
                    return false;
                }
            }
            return true;
        }

        private boolean isAwaited(int player) {
            if (state == IN_TIE_ROUND) {
                return tie.has(player) && !jury.isSettled(tie.sheet, player);
            }
            return !isComplete(player);
        }

        void judgeRound() {
            cut.clear();
            for (int k = 0; k < stage.players; k++) {
                int player = stage.playerAt(k);
                cut.put(player, scoreOf(player));
            }
            cut.draw(isBetween(round, 0, MAX_ROUNDS - 1) ? rules[round][RULE_PLACES] : MAX_ENTRANTS);
        }

        private void judgeTieRound() {
            cut.clear();
            for (int entrant = 0; entrant < entrants.count; entrant++) {
                if (tie.has(entrant)) {
                    cut.put(entrant, jury.meanOf(tie.sheet, entrant));
                }
            }
            cut.draw(tie.places);
        }

        /** Closes the round; returns whether it is decided who goes on. */
        boolean decideRound() {
            judgeRound();
            if (isBetween(round, 0, MAX_ROUNDS - 1)) {
                copyRow(cut.scores, closedScores[round]);
            }
            return applyCut();
        }

        /** Closes the tie round; returns whether it is decided who goes on. */
        boolean decideTieRound() {
            judgeTieRound();
            if (tie.number < MAX_TIE_ROUNDS) {
                return applyCut();
            }
            putOutThoseBelow();
            breakTieByStageOrder();
            return true;
        }

        private boolean applyCut() {
            putOutThoseBelow();
            if (!cut.leavesTie()) {
                return true;
            }
            tie.startNext(cut);
            state = IN_TIE_ROUND;
            return false;
        }

        private void putOutThoseBelow() {
            for (int entrant = 0; entrant < entrants.count; entrant++) {
                if (cut.isOut(entrant)) {
                    entrants.putOut(entrant);
                }
            }
        }

        private void breakTieByStageOrder() {
            int left = cut.placesLeft();
            for (int k = 0; k < stage.players; k++) {
                int player = stage.playerAt(k);
                if (cut.isTied(player)) {
                    left--;
                    if (left < 0) {
                        entrants.putOut(player);
                    }
                }
            }
        }

        /** To the next round, or to the end, once it is decided who goes on. */
        void goOn() {
            tie.end();
            if (round + 1 < rounds) {
                startRound(round + 1);
            } else {
                state = OVER;
            }
        }
    }

    /** The latest records, the oldest one first. */
    private static final class Records {
        private int count;
        private final Competition[] kept = new Competition[MAX_RECORDS];

        Records() {
            for (int k = 0; k < MAX_RECORDS; k++) {
                kept[k] = new Competition();
            }
        }

        void keep(Competition now) {
            if (count >= MAX_RECORDS) {
                dropOldest();
            }
            kept[count].copyFrom(now);
            count++;
        }

        /** The dropped one goes behind the others, to be used again. */
        private void dropOldest() {
            Competition oldest = kept[0];
            for (int k = 1; k < MAX_RECORDS; k++) {
                kept[k - 1] = kept[k];
            }
            kept[MAX_RECORDS - 1] = oldest;
            count--;
        }

        /** Restores the latest record; returns how many are left. */
        int restore(Competition now) {
            if (count > 0) {
                count--;
                now.copyFrom(kept[count]);
            }
            return count;
        }
    }

    /** The text buffer, and what it says as a program. */
    private static final class Text {
        private int length;
        private final int[] codes = new int[MAX_TEXT];
        /** The numbers of the text, as the last reading found them. */
        private int found;
        private final int[] numbers = new int[MAX_PROGRAM];
        private final int[] starts = new int[MAX_PROGRAM];

        int append(int code) {
            if (length < MAX_TEXT) {
                codes[length] = code;
                length++;
            }
            return length;
        }

        /** The fault of the text if there are so many works; NONE if it has none. */
        int faultAmong(int works) {
            int misplaced = readNumbers();
            if (misplaced != NONE) {
                return misplaced;
            }
            for (int k = 0; k < found; k++) {
                if (numbers[k] >= works || isToldBefore(k)) {
                    return starts[k];
                }
            }
            return NONE;
        }

        private boolean isToldBefore(int k) {
            for (int earlier = 0; earlier < k; earlier++) {
                if (numbers[earlier] == numbers[k]) {
                    return true;
                }
            }
            return false;
        }

        /** Finds the numbers; returns the first place where the text is not well formed, or NONE. */
        private int readNumbers() {
            found = 0;
            int digits = 0;
            for (int i = 0; i < length; i++) {
                int code = codes[i];
                if (isBetween(code, '0', '9') && digits < 2) {
                    digits++;
                    readDigit(i, code - '0', digits == 1);
                } else if (code == ',' && digits > 0 && found < MAX_PROGRAM) {
                    digits = 0;
                } else {
                    return i;
                }
            }
            return digits == 0 ? length : NONE;
        }

        private void readDigit(int index, int digit, boolean first) {
            if (first && found < MAX_PROGRAM) {
                starts[found] = index;
                numbers[found] = digit;
                found++;
            } else if (!first && isBetween(found, 1, MAX_PROGRAM)) {
                numbers[found - 1] = numbers[found - 1] * 10 + digit;
            }
        }
    }
}
