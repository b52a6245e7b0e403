import java.math.BigInteger;

/** Promises 33 and 34: odds of slips, and how many slip on average. */
public final class OddsTest {
    private static final Check check = new Check();

    public static void main(String[] args) {
        byHand();
        byBigNumbers();
        refusals();
        check.end();
    }

    private static void byHand() {
        IntentVats x = new IntentVats();
        check.due("3, 1", x.odds(3, 1, 0), 48);
        check.due("3, 1", x.odds(3, 1, 1), 125);
        check.due("0, 0", x.odds(0, 0, 0), 1);
        check.due("0, 0", x.odds(0, 0, 1), 1);
        check.due("hope 7", x.hope(7, 0), 7);
        check.due("hope 7", x.hope(7, 1), 5);
        check.due("hope 99", x.hope(99, 0), 99);
        check.due("hope 0", x.hope(0, 0), 0);
        check.due("hope 0", x.hope(0, 1), 1);
        x.set(3, 0);
        check.due("no slips", x.odds(8, 0, 0), 1);
        check.due("no slips", x.odds(8, 0, 1), 1);
        check.due("0 by 1", x.odds(8, 8, 0), 0);
        check.due("0 by 1", x.odds(8, 8, 1), 1);
        check.due("hope 9", x.hope(9, 0), 0);
        check.due("hope 9", x.hope(9, 1), 1);
        x.set(3, 99);
        check.due("8, 0", x.odds(8, 0, 1), 10000000000000000L);
        check.due("8, 0", x.odds(8, 0, 0), 1);
        check.due("hope 99", x.hope(99, 0), 9801);
        check.due("hope 99", x.hope(99, 1), 100);
    }

    private static void byBigNumbers() {
        for (int slip = 0; slip < 100; slip++) {
            IntentVats x = new IntentVats();
            x.set(3, slip);
            for (int n = 0; n <= 8; n++) {
                BigInteger choices = BigInteger.ONE;
                for (int k = 0; k <= n; k++) {
                    BigInteger above = choices.multiply(BigInteger.valueOf(slip).pow(k)).multiply(BigInteger.valueOf(100 - slip).pow(n - k));
                    BigInteger below = BigInteger.valueOf(100).pow(n);
                    BigInteger shared = above.gcd(below);
                    check.due("odds " + slip, x.odds(n, k, 0), above.divide(shared).longValueExact());
                    check.due("odds " + slip, x.odds(n, k, 1), below.divide(shared).longValueExact());
                    choices = choices.multiply(BigInteger.valueOf(n - k)).divide(BigInteger.valueOf(k + 1));
                }
            }
        }
    }

    private static void refusals() {
        IntentVats x = new IntentVats();
        int[][] bad = {{-1, 0, 0}, {9, 0, 0}, {3, -1, 0}, {3, 4, 0}, {3, 1, 2}, {3, 1, -1}, {-1, -1, 0}};
        for (int[] b : bad) check.due("bad odds", x.odds(b[0], b[1], b[2]), -1);
        check.due("hope -1", x.hope(-1, 0), -1);
        check.due("hope 100", x.hope(100, 1), -1);
        check.due("hope part 2", x.hope(3, 2), -1);
        check.due("hope part -1", x.hope(3, -1), -1);
    }
}
