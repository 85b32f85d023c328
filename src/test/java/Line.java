/** A master's side of the line: it sends whole frames to one slave and keeps what rest answered. */
final class Line {
    private static final int QUIET = 14;

    private final WireSlave slave;
    private int answered = WireSlave.WAITING;

    Line(int address) {
        slave = new WireSlave(address);
    }

    WireSlave slave() {
        return slave;
    }

    int answered() {
        return answered;
    }

    /** Sends the bytes, the right check sum and a silence that ends the frame. */
    int send(int... body) {
        return sendRaw(withSum(body));
    }

    /** Sends just these bytes and a silence that ends the frame. */
    int sendRaw(int... bytes) {
        put(bytes);
        answered = slave.rest(QUIET);
        return answered;
    }

    /** Eight bytes a call, for an object answers only 512 calls. */
    void put(int... bytes) {
        for (int i = 0; i < bytes.length; i += 8) {
            int n = Math.min(8, bytes.length - i);
            long v = 0;
            for (int k = 0; k < n; k++) {
                v = v << 8 | bytes[i + k];
            }
            slave.listen(n, v);
        }
    }

    static int high(int n) {
        return n >> 8;
    }

    static int low(int n) {
        return n & 255;
    }

    /** A request to slave 9 without its check sum: two numbers, and what stands behind them. */
    static int[] request(int function, int a, int n, int... more) {
        return join(new int[] {9, function, high(a), low(a), high(n), low(n)}, more);
    }

    /** A request to slave 9 that writes many places: the fifth of its data tells how many bytes there are. */
    static int[] writing(int function, int a, int n, int... bytes) {
        return request(function, a, n, join(new int[] {bytes.length}, bytes));
    }

    static int[] withSum(int... body) {
        int sum = sumOf(body);
        return join(body, sum & 255, sum >> 8);
    }

    static int[] join(int[] head, int... tail) {
        int[] all = java.util.Arrays.copyOf(head, head.length + tail.length);
        System.arraycopy(tail, 0, all, head.length, tail.length);
        return all;
    }

    /** n bytes, all of them b. */
    static int[] many(int n, int b) {
        int[] row = new int[n];
        java.util.Arrays.fill(row, b);
        return row;
    }

    /**
     * The check sum, worked out by another way than the program's: the polynomial 0x8005 over
     * the mirrored bytes, the result mirrored.
     */
    static int sumOf(int... bytes) {
        int s = 0xFFFF;
        for (int b : bytes) {
            s ^= Integer.reverse(b) >>> 24 << 8;
            for (int k = 0; k < 8; k++) {
                s = (s & 0x8000) != 0 ? (s << 1 ^ 0x8005) & 0xFFFF : s << 1 & 0xFFFF;
            }
        }
        return Integer.reverse(s) >>> 16;
    }
}
