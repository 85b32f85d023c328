/** The boundary cases of the document's CHECK SUM, and of promise 9: a test for each sentence. */
public final class BoundsOfSumTest {
    public static void main(String[] args) {
        Check check = new Check();
        aNumberOf16Bits(check);
        sumOfNothing(check);
        sumsOfOneByte(check);
        theOddOnes(check);
        howManyBytes(check);
        theHighestFirst(check);
        bytesAboveDoNotCount(check);
        check.finish();
    }

    private static void aNumberOf16Bits(Check check) {
        check.sentence("a number of 16 bits");
        WireSlave x = new WireSlave(9);
        long v = 1;
        for (int i = 0; i < 500; i++) {
            v = v * 6364136223846793005L + 1442695040888963407L;
            int sum = x.sum(1 + i % 8, v);
            check.due("sum(" + (1 + i % 8) + ", " + v + ") is in 0 .. 65,535", sum >= 0 && sum <= 65535);
        }
    }

    private static void sumOfNothing(Check check) {
        check.sentence("65,535 at first");
        WireSlave x = new WireSlave(9);
        for (long v : new long[] {0, 1, -1, Long.MIN_VALUE, Long.MAX_VALUE}) {
            check.due("sum(0, " + v + ")", x.sum(0, v), 65535);
        }
    }

    /** Worked out by hand: 65,535 with 255 is 65,280, whose eight lowest bits are even, so it is only halved. */
    private static void sumsOfOneByte(Check check) {
        check.sentence("for each byte it becomes its xor with that, and then eight times: half of it, cut off");
        WireSlave x = new WireSlave(9);
        check.due("sum(1, 255)", x.sum(1, 255), 65280 / 256);
        check.due("sum(2, 65535)", x.sum(2, 65535), 0);
        check.due("sum(3, 65535 * 256)", x.sum(3, 65535L * 256), 0);
        check.due("sum(8, 65535 and zeros)", x.sum(8, 0xFFFF_0000_0000_0000L), 0);
        check.due("sum(8, -1)", x.sum(8, -1), 36609);
    }

    /** Worked out by hand: 65,535 with 127 is 65,408, which is odd at the last of the eight times alone. */
    private static void theOddOnes(Check check) {
        check.sentence("if it was odd, the xor of that with 40,961");
        WireSlave x = new WireSlave(9);
        check.due("sum(1, 127)", x.sum(1, 127), 255 ^ 40961);
        check.due("sum(1, 0)", x.sum(1, 0), 16575);
        for (int b = 0; b < 256; b++) {
            check.due("sum(1, " + b + ")", x.sum(1, b), Line.sumOf(b));
        }
    }

    private static void howManyBytes(Check check) {
        check.sentence("(0 .. 8), BAD");
        WireSlave x = new WireSlave(9);
        long v = 0x0102030405060708L;
        check.due("sum(0, v)", x.sum(0, v), 65535);
        check.due("sum(1, v)", x.sum(1, v), Line.sumOf(8));
        check.due("sum(7, v)", x.sum(7, v), Line.sumOf(2, 3, 4, 5, 6, 7, 8));
        check.due("sum(8, v)", x.sum(8, v), Line.sumOf(1, 2, 3, 4, 5, 6, 7, 8));
        for (int n : new int[] {-1, 9, -8, 256, Integer.MIN_VALUE, Integer.MAX_VALUE}) {
            check.due("sum(" + n + ", v)", x.sum(n, v), WireSlave.BAD);
        }
    }

    private static void theHighestFirst(Check check) {
        check.sentence("the highest first");
        WireSlave x = new WireSlave(9);
        check.due("sum(2, 02 07)", x.sum(2, 0x0207), 0x1241);
        check.due("sum(2, 07 02)", x.sum(2, 0x0702), Line.sumOf(7, 2));
        check.due("sum(8, with the sign's bit)", x.sum(8, 0x8000000000000001L), Line.sumOf(128, 0, 0, 0, 0, 0, 0, 1));
    }

    private static void bytesAboveDoNotCount(Check check) {
        check.sentence("the n lowest bytes of v");
        WireSlave x = new WireSlave(9);
        for (int n = 1; n < 8; n++) {
            long v = 0x0102030405060708L & (1L << 8 * n) - 1;
            check.due("sum(" + n + ", rubbish above)", x.sum(n, v | -1L << 8 * n), x.sum(n, v));
        }
    }
}
