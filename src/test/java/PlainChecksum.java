import java.math.BigInteger;

/** The checksum that is due, made of the answers of the other calls in numbers without bounds. */
final class PlainChecksum {
    private final PianoRounds x;
    private BigInteger h = BigInteger.valueOf(43009);

    private PlainChecksum(PianoRounds x) {
        this.x = x;
    }

    /** What no call tells is told here: who is barred, each as juror and entrant, the text and the records. */
    static long of(PianoRounds x, int textLength, int records, int[]... barred) {
        return whole(x, textLength, records, barred).longValue();
    }

    /** The same before it is cut to the 64 bits of a long. */
    static BigInteger whole(PianoRounds x, int textLength, int records, int[]... barred) {
        PlainChecksum sum = new PlainChecksum(x);
        sum.mixInfos();
        for (int e = 0; e < x.info(6); e++) {
            sum.mixEntrant(e, barred);
        }
        for (int k = 0; k < x.info(8); k++) {
            sum.mix(x.stage(k));
        }
        sum.mix(x.strangestJuror());
        sum.mix(textLength);
        sum.mix(records);
        return sum.h;
    }

    private void mix(int v) {
        h = h.multiply(BigInteger.valueOf(31)).add(BigInteger.valueOf(v));
    }

    private void mixInfos() {
        for (int what = 0; what <= 12; what++) {
            mix(x.info(what));
        }
        for (int w = 0; w < x.info(5); w++) {
            for (int what = 0; what <= 2; what++) {
                mix(x.work(w, what));
            }
        }
        for (int r = 0; r < 4; r++) {
            for (int what = 0; what <= 5; what++) {
                mix(x.rule(r, what));
            }
        }
    }

    private void mixEntrant(int e, int[][] barred) {
        for (int what = 0; what <= 7; what++) {
            mix(x.entrant(e, what));
        }
        for (int r = 0; r < 4; r++) {
            mix(x.flaw(e, r));
            mix(x.history(e, r));
            for (int k = 0; k < 4; k++) {
                mix(x.program(e, r, k));
            }
        }
        for (int j = 0; j < x.info(0); j++) {
            mix(isBarred(j, e, barred));
            mix(x.marked(j, e, false));
            mix(x.marked(j, e, true));
        }
    }

    private static int isBarred(int juror, int entrant, int[][] barred) {
        for (int[] pair : barred) {
            if (pair[0] == juror && pair[1] == entrant) {
                return 1;
            }
        }
        return 0;
    }
}
