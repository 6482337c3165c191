import java.math.BigInteger;

/** The stage order that is due, by the formula of the document in numbers without bounds. */
final class Lots {
    private BigInteger seed;

    Lots(int seed) {
        this.seed = BigInteger.valueOf(seed);
    }

    /** The order of these players by the next lots, as Check.order() tells it. */
    String draw(int... ascending) {
        int[] row = ascending.clone();
        for (int i = row.length - 1; i >= 1; i--) {
            seed = seed.multiply(BigInteger.valueOf(1103515245)).add(BigInteger.valueOf(12345))
                    .mod(BigInteger.valueOf(2147483648L));
            int j = seed.divide(BigInteger.valueOf(65536)).mod(BigInteger.valueOf(i + 1)).intValueExact();
            int kept = row[i];
            row[i] = row[j];
            row[j] = kept;
        }
        StringBuilder all = new StringBuilder();
        for (int player : row) {
            all.append(player).append(' ');
        }
        return all.toString().trim();
    }

    /** The players 0 to (count - 1). */
    String drawFirst(int count) {
        int[] row = new int[count];
        for (int i = 0; i < count; i++) {
            row[i] = i;
        }
        return draw(row);
    }
}
