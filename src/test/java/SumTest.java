/** Promise 9: the check sum of some bytes of a long. */
public final class SumTest {
    public static void main(String[] args) {
        Check check = new Check();
        WireSlave x = new WireSlave(9);
        check.due("sum(0, 0)", x.sum(0, 0L), 65535);
        check.due("sum(0, -1)", x.sum(0, -1L), 65535);
        check.due("sum of the published 11 03 00 6B 00 03", x.sum(6, 0x1103006B0003L), 0x8776);
        check.due("sum of the published 02 07", x.sum(2, 0x0207L), 0x1241);
        check.due("sum of 01 04 02 FF FF", x.sum(5, 0x010402FFFFL), 0x80B8);
        for (int n : new int[] {-1, 9, 10, 64, Integer.MIN_VALUE, Integer.MAX_VALUE}) {
            check.due("sum(" + n + ", 1)", x.sum(n, 1L), WireSlave.BAD);
        }
        everySingleByte(check);
        everySize(check);
        nothingIsHeard(check);
        check.finish();
    }

    private static void everySingleByte(Check check) {
        WireSlave x = new WireSlave(9);
        for (int b = 0; b < 256; b++) {
            check.due("sum(1, " + b + ")", x.sum(1, b), Line.sumOf(b));
        }
    }

    private static void everySize(Check check) {
        WireSlave x = new WireSlave(9);
        long[] values = {0L, -1L, 1L, Long.MIN_VALUE, Long.MAX_VALUE, 0x0123456789ABCDEFL, 0xFEDCBA9876543210L};
        for (long v : values) {
            for (int n = 0; n <= 8; n++) {
                int[] bytes = new int[n];
                for (int i = 0; i < n; i++) {
                    bytes[i] = (int) (v >> 8 * (n - 1 - i)) & 255;
                }
                check.due("sum(" + n + ", " + v + ")", x.sum(n, v), Line.sumOf(bytes));
            }
        }
    }

    private static void nothingIsHeard(Check check) {
        WireSlave x = new WireSlave(9);
        x.hear(1);
        x.rest(10);
        x.sum(8, -1L);
        check.due("rest(4): the gap went on", x.rest(4), 0);
        x.sum(8, -1L);
        check.due("rest(14): no frame", x.rest(14), WireSlave.WAITING);
    }
}
