import java.util.ArrayList;
import java.util.Collections;
import java.util.List;
import java.util.TreeMap;

/**
 * The document once more, in the plainest form that came to mind and quite unlike the program: one table of
 * named numbers, copied whole for undo. Random runs are compared with it.
 */
final class PlainModel {
    private TreeMap<String, Integer> t = new TreeMap<>();
    private List<Integer> order = new ArrayList<>();
    private final List<TreeMap<String, Integer>> kept = new ArrayList<>();
    private final List<List<Integer>> keptOrders = new ArrayList<>();
    private String text = "";

    private int get(String key, int otherwise) {
        return t.getOrDefault(key, otherwise);
    }

    private int state() {
        return get("state", 0);
    }

    private int jurors() {
        return get("set0", 5);
    }

    private int works() {
        return get("works", 0);
    }

    private int entrants() {
        return get("entrants", 0);
    }

    private void record() {
        kept.add(new TreeMap<>(t));
        keptOrders.add(new ArrayList<>(order));
        if (kept.size() > 4) {
            kept.remove(0);
            keptOrders.remove(0);
        }
    }

    private static void index(boolean fine) {
        if (!fine) {
            throw new IndexOutOfBoundsException();
        }
    }

    private static void argument(boolean fine) {
        if (!fine) {
            throw new IllegalArgumentException();
        }
    }

    private static void state(boolean fine) {
        if (!fine) {
            throw new IllegalStateException();
        }
    }

    private static boolean in(int v, int from, int to) {
        return from <= v && v <= to;
    }

    private void person(int e) {
        index(in(e, 0, entrants() - 1));
    }

    private void pair(int j, int e) {
        index(in(j, 0, jurors() - 1));
        person(e);
    }

    int addWork(int composer, int era, int minutes) {
        argument(in(composer, 0, 9) && in(era, 0, 4) && in(minutes, 1, 60));
        state(state() == 0 && works() < 30);
        record();
        int w = works();
        t.put("work" + w + ",0", composer);
        t.put("work" + w + ",1", era);
        t.put("work" + w + ",2", minutes);
        t.put("works", w + 1);
        return w;
    }

    int work(int w, int what) {
        index(in(w, 0, works() - 1));
        argument(in(what, 0, 2));
        return get("work" + w + "," + what, 0);
    }

    int addEntrant() {
        state(state() == 0 && entrants() < 12);
        record();
        t.put("entrants", entrants() + 1);
        return entrants() - 1;
    }

    private boolean barred(int j, int e) {
        return get("bar" + j + "," + e, 0) == 1;
    }

    boolean bar(int j, int e, boolean b) {
        pair(j, e);
        record();
        boolean was = barred(j, e);
        t.put("bar" + j + "," + e, b ? 1 : 0);
        return was;
    }

    int set(int what, int value) {
        argument(what == 0 && in(value, 3, 7) || what == 1 && in(value, 1, 4) || what == 2 && in(value, 0, 100));
        state(what == 2 || state() == 0);
        record();
        int was = info(what);
        t.put("set" + what, value);
        return was;
    }

    int setRule(int round, int what, int value) {
        index(in(round, 0, 3));
        argument(in(what, 0, 1) && in(value, 1, 180) || what == 2 && in(value, 0, 31)
                || what == 3 && in(value, 1, 4) || what == 4 && in(value, 0, 1) || what == 5 && in(value, 1, 12));
        state(state() == 0);
        record();
        int was = rule(round, what);
        t.put("rule" + round + "," + what, value);
        return was;
    }

    int rule(int round, int what) {
        index(in(round, 0, 3));
        argument(in(what, 0, 5));
        return get("rule" + round + "," + what, new int[] {1, 180, 0, 4, 0, 12}[what]);
    }

    private List<Integer> list(int e, int round) {
        List<Integer> all = new ArrayList<>();
        while (t.containsKey("prog" + e + "," + round + "," + all.size())) {
            all.add(t.get("prog" + e + "," + round + "," + all.size()));
        }
        return all;
    }

    private void put(int e, int round, List<Integer> works) {
        for (int k = 0; k < 4; k++) {
            t.remove("prog" + e + "," + round + "," + k);
            if (k < works.size()) {
                t.put("prog" + e + "," + round + "," + k, works.get(k));
            }
        }
    }

    int setProgram(int e, int round) {
        person(e);
        index(in(round, 0, 3));
        argument(fault() == -1);
        record();
        List<Integer> works = new ArrayList<>();
        for (String number : text.split(",")) {
            works.add(Integer.parseInt(number));
        }
        put(e, round, works);
        return works.size();
    }

    int clearProgram(int e, int round) {
        person(e);
        index(in(round, 0, 3));
        record();
        int was = list(e, round).size();
        put(e, round, List.of());
        return was;
    }

    int program(int e, int round, int k) {
        person(e);
        index(in(round, 0, 3));
        return in(k, 0, list(e, round).size() - 1) ? list(e, round).get(k) : -1;
    }

    int flaw(int e, int round) {
        person(e);
        index(in(round, 0, 3));
        List<Integer> all = list(e, round);
        int minutes = 0;
        for (int w : all) {
            minutes += work(w, 2);
        }
        if (all.isEmpty()) {
            return 1;
        }
        if (minutes < rule(round, 0)) {
            return 2;
        }
        if (minutes > rule(round, 1)) {
            return 3;
        }
        for (int era = 0; era < 5; era++) {
            int wanted = era;
            if ((rule(round, 2) >> era) % 2 == 1 && all.stream().noneMatch(w -> work(w, 1) == wanted)) {
                return 4;
            }
        }
        for (int w : all) {
            if (all.stream().filter(v -> work(v, 0) == work(w, 0)).count() > rule(round, 3)) {
                return 5;
            }
        }
        for (int r = 0; r < round; r++) {
            if (rule(round, 4) == 1 && !Collections.disjoint(all, list(e, r))) {
                return 6;
            }
        }
        return 0;
    }

    private boolean isIn(int e) {
        return get("out" + e, 0) == 0;
    }

    private void startRound(int round) {
        t.keySet().removeIf(k -> k.startsWith("mark") || k.startsWith("slips") || k.startsWith("tie"));
        t.put("round", round);
        order.clear();
        for (int e = 0; e < entrants(); e++) {
            if (isIn(e) && flaw(e, round) == 0) {
                order.add(e);
            } else {
                t.put("out" + e, 1);
            }
        }
        long x = get("seed", 0);
        for (int i = order.size() - 1; i >= 1; i--) {
            x = (x * 1103515245L + 12345) & 0x7fffffffL;
            Collections.swap(order, i, (int) ((x >> 16) % (i + 1)));
        }
        t.put("seed", (int) x);
        t.put("state", order.isEmpty() ? 3 : 1);
        t.put("played", 0);
    }

    int begin(int seed) {
        argument(seed >= 0);
        state(state() == 0);
        record();
        t.put("seed", seed);
        startRound(0);
        return order.size();
    }

    int play(int slips) {
        argument(in(slips, 0, 20));
        state(state() == 1 && get("played", 0) < order.size());
        record();
        int player = order.get(get("played", 0));
        t.put("slips" + player, slips);
        t.put("played", get("played", 0) + 1);
        return player;
    }

    private boolean tied(int e) {
        return state() == 2 && get("tied" + e, 0) == 1;
    }

    private boolean played(int e) {
        return t.containsKey("slips" + e);
    }

    private int put(int j, int e, int mark) {
        state(state() == 1 && played(e) || state() == 2 && tied(e));
        state(!barred(j, e));
        record();
        t.put((state() == 2 ? "tieMark" : "mark") + j + "," + e, mark);
        return entrant(e, 3);
    }

    int mark(int j, int e, int mark) {
        pair(j, e);
        argument(in(mark, 0, state() == 2 ? 10 : 100));
        return put(j, e, mark);
    }

    int abstain(int j, int e) {
        pair(j, e);
        return put(j, e, -2);
    }

    /** The marks that count, without that of one juror. */
    private List<Integer> marks(String kind, int e, int without) {
        List<Integer> all = new ArrayList<>();
        for (int j = 0; j < jurors(); j++) {
            int m = get(kind + j + "," + e, -1);
            if (m >= 0 && !barred(j, e) && j != without) {
                all.add(m);
            }
        }
        return all;
    }

    private static int mean(List<Integer> marks) {
        List<Integer> all = new ArrayList<>(marks);
        Collections.sort(all);
        if (all.size() >= 4) {
            all = all.subList(1, all.size() - 1);
        }
        return all.isEmpty() ? -1 : all.stream().mapToInt(m -> m).sum() * 1000 / all.size();
    }

    private int score(int e, List<Integer> marks) {
        return marks.isEmpty() ? -1 : Math.max(0, mean(marks) - info(2) * 10 * get("slips" + e, 0));
    }

    private boolean settled(String kind, int e) {
        int missing = 0;
        for (int j = 0; j < jurors(); j++) {
            missing += barred(j, e) || get(kind + j + "," + e, -1) != -1 ? 0 : 1;
        }
        return missing == 0 && marks(kind, e, -1).size() >= (jurors() + 1) / 2;
    }

    private boolean closable() {
        if (state() == 1) {
            return order.stream().allMatch(e -> played(e) && settled("mark", e));
        }
        return state() == 2 && order.stream().filter(this::tied).allMatch(e -> settled("tieMark", e));
    }

    /** For each one who is judged 0: goes on, 1: stays tied, 2: is out. */
    private List<Integer> verdicts(List<Integer> scores, int places) {
        List<Integer> sorted = new ArrayList<>(scores);
        sorted.sort(Collections.reverseOrder());
        List<Integer> all = new ArrayList<>();
        for (int s : scores) {
            if (scores.size() <= places) {
                all.add(0);
            } else {
                int last = sorted.get(places - 1);
                boolean tie = sorted.get(places) == last;
                all.add(s > last ? 0 : s < last ? 2 : tie ? 1 : 0);
            }
        }
        return all;
    }

    int close() {
        state(closable());
        record();
        int number = state() == 2 ? get("tieNumber", 0) : 0;
        List<Integer> judged = new ArrayList<>(order);
        List<Integer> scores = new ArrayList<>();
        int places = rule(get("round", 0), 5);
        if (number > 0) {
            judged.removeIf(e -> !tied(e));
            places = get("tiePlaces", 0);
        }
        for (int e : judged) {
            scores.add(number > 0 ? mean(marks("tieMark", e, -1)) : score(e, marks("mark", e, -1)));
            if (number == 0) {
                t.put("history" + e + "," + get("round", 0), scores.get(scores.size() - 1));
            }
        }
        List<Integer> verdicts = verdicts(scores, places);
        int left = places - Collections.frequency(verdicts, 0);
        t.keySet().removeIf(k -> k.startsWith("tie"));
        for (int i = 0; i < judged.size(); i++) {
            boolean tie = verdicts.get(i) == 1;
            boolean out = verdicts.get(i) == 2;
            if (tie && number == 3) {
                out = left <= 0;
                left--;
            } else if (tie) {
                t.put("tied" + judged.get(i), 1);
            }
            if (out) {
                t.put("out" + judged.get(i), 1);
            }
        }
        if (verdicts.contains(1) && number < 3) {
            t.put("tiePlaces", left);
            t.put("tieNumber", number + 1);
            t.put("state", 2);
        } else if (get("round", 0) + 1 < info(1)) {
            startRound(get("round", 0) + 1);
        } else {
            t.put("state", 3);
        }
        return state();
    }

    int withdraw(int e) {
        person(e);
        state(isIn(e) && state() < 2 && !played(e));
        record();
        t.put("out" + e, 1);
        order.remove((Integer) e);
        if (state() == 1 && order.isEmpty()) {
            t.put("state", 3);
        }
        return info(7);
    }

    int info(int what) {
        argument(in(what, 0, 12));
        int sum = 0;
        for (int e = 0; e < entrants(); e++) {
            sum += what == 7 && isIn(e) || what == 10 && tied(e) ? 1 : 0;
        }
        int[] all = {jurors(), get("set1", 1), get("set2", 50), state(), get("round", 0), works(), entrants(), sum,
            order.size(), get("played", 0), sum, get("tiePlaces", 0), get("tieNumber", 0)};
        return all[what];
    }

    int entrant(int e, int what) {
        person(e);
        argument(in(what, 0, 7));
        switch (what) {
            case 0: return isIn(e) ? 1 : 0;
            case 1: return order.indexOf(e);
            case 2: return get("slips" + e, -1);
            case 3: return marks(state() == 2 ? "tieMark" : "mark", e, -1).size();
            case 4: return score(e, marks("mark", e, -1));
            case 5: return played(e) && settled("mark", e) ? 1 : 0;
            case 6: return tied(e) ? 1 : 0;
            default: return mean(marks("tieMark", e, -1));
        }
    }

    int marked(int j, int e, boolean tie) {
        pair(j, e);
        return get((tie ? "tieMark" : "mark") + j + "," + e, -1);
    }

    int history(int e, int round) {
        person(e);
        index(in(round, 0, 3));
        return get("history" + e + "," + round, -1);
    }

    int stage(int k) {
        return in(k, 0, order.size() - 1) ? order.get(k) : -1;
    }

    int wouldBe(int what) {
        argument(in(what, 0, 2));
        if (state() != 1 || !closable()) {
            return -1;
        }
        List<Integer> scores = new ArrayList<>();
        for (int e : order) {
            scores.add(score(e, marks("mark", e, -1)));
        }
        return Collections.frequency(verdicts(scores, rule(get("round", 0), 5)), what);
    }

    int neededMark(int j, int e, int score) {
        pair(j, e);
        argument(in(score, 0, 100000));
        state(state() == 1 && !barred(j, e) && played(e));
        for (int m = 0; m <= 100; m++) {
            List<Integer> all = marks("mark", e, j);
            all.add(m);
            if (score(e, all) >= score) {
                return m;
            }
        }
        return -1;
    }

    int strangestJuror() {
        int best = -1;
        int juror = -1;
        for (int j = 0; state() == 1 && j < jurors(); j++) {
            int sum = 0;
            int terms = 0;
            for (int e : order) {
                List<Integer> others = marks("mark", e, j);
                int own = get("mark" + j + "," + e, -1);
                if (own >= 0 && !barred(j, e) && !others.isEmpty()) {
                    sum += Math.abs(1000 * own - mean(others));
                    terms++;
                }
            }
            if (terms > 0 && sum > best) {
                best = sum;
                juror = j;
            }
        }
        return juror;
    }

    int type(int c) {
        argument(in(c, 32, 126));
        state(text.length() < 40);
        text += (char) c;
        return text.length();
    }

    int clearText() {
        int was = text.length();
        text = "";
        return was;
    }

    /** The longest start of the text that some program starts with tells the place of the fault. */
    int fault() {
        int i = 0;
        while (i < text.length() && text.substring(0, i + 1).matches("(\\d\\d?,){0,3}(\\d\\d?)?")) {
            i++;
        }
        if (i < text.length() || !text.matches("(\\d\\d?,){0,3}\\d\\d?")) {
            return i;
        }
        List<Integer> seen = new ArrayList<>();
        int at = 0;
        for (String number : text.split(",")) {
            int w = Integer.parseInt(number);
            if (w >= works() || seen.contains(w)) {
                return at;
            }
            seen.add(w);
            at += number.length() + 1;
        }
        return -1;
    }

    int undo() {
        state(!kept.isEmpty());
        t = kept.remove(kept.size() - 1);
        order = keptOrders.remove(keptOrders.size() - 1);
        return kept.size();
    }

    private long h;

    private void mix(int v) {
        h = 31 * h + v;
    }

    long checksum() {
        h = 43009;
        for (int what = 0; what <= 12; what++) {
            mix(info(what));
        }
        for (int i = 0; i < works() * 3; i++) {
            mix(work(i / 3, i % 3));
        }
        for (int i = 0; i < 24; i++) {
            mix(rule(i / 6, i % 6));
        }
        for (int e = 0; e < entrants(); e++) {
            for (int what = 0; what <= 7; what++) {
                mix(entrant(e, what));
            }
            for (int round = 0; round <= 3; round++) {
                mix(flaw(e, round));
                mix(history(e, round));
                for (int k = 0; k <= 3; k++) {
                    mix(program(e, round, k));
                }
            }
            for (int j = 0; j < jurors(); j++) {
                mix(barred(j, e) ? 1 : 0);
                mix(marked(j, e, false));
                mix(marked(j, e, true));
            }
        }
        for (int e : order) {
            mix(e);
        }
        mix(strangestJuror());
        mix(text.length());
        mix(kept.size());
        return h;
    }
}
