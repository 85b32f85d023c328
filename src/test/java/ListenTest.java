/** Promise 3: some bytes of a long are heard. */
public final class ListenTest {
    public static void main(String[] args) {
        Check check = new Check();
        everySize(check);
        wrongSizes(check);
        gaps(check);
        tooManyBytes(check);
        theLongestGoodFrame(check);
        check.finish();
    }

    /** A frame that is cut behind every byte, with rubbish above the bytes that count. */
    private static void everySize(Check check) {
        int[] frame = Line.withSum(9, 6, 0, 5, 200, 129);
        for (int cut = 1; cut < frame.length; cut++) {
            WireSlave x = new WireSlave(9);
            check.due("listen(" + cut + ", ..)", x.listen(cut, packed(frame, 0, cut)), cut);
            int rest = frame.length - cut;
            check.due("listen(" + rest + ", ..)", x.listen(rest, packed(frame, cut, rest)), 8);
            check.due("cut at " + cut + ": rest(14)", x.rest(14), 8);
            check.due("cut at " + cut + ": get(2, 5)", x.get(2, 5), 200 * 256 + 129);
        }
        WireSlave x = new WireSlave(9);
        check.due("listen(8, ..)", x.listen(8, packed(frame, 0, 8)), 8);
        check.due("rest(14)", x.rest(14), 8);
        check.due("listen(8, ..) of the next frame", x.listen(8, packed(frame, 0, 8)), 8);
    }

    private static long packed(int[] bytes, int from, int n) {
        long v = -0x123456789ABCDEFL;
        for (int i = 0; i < n; i++) {
            v = v << 8 | bytes[from + i];
        }
        return v;
    }

    private static void wrongSizes(Check check) {
        WireSlave x = new WireSlave(9);
        int[] wrong = {0, -1, 9, 16, Integer.MIN_VALUE, Integer.MAX_VALUE};
        for (int n : wrong) {
            check.due("listen(" + n + ", -1)", x.listen(n, -1L), WireSlave.BAD);
        }
        check.due("rest(14): no frame", x.rest(14), WireSlave.WAITING);
        x.listen(1, 9);
        x.rest(13);
        for (int n : wrong) {
            check.due("listen(" + n + ", 0) in a frame", x.listen(n, 0L), WireSlave.BAD);
        }
        check.due("rest(1): the gap went on", x.rest(1), 0);
    }

    private static void gaps(Check check) {
        int[] frame = Line.withSum(9, 6, 0, 5, 1, 2);
        for (int silence = 0; silence < 14; silence++) {
            WireSlave x = new WireSlave(9);
            x.listen(5, packed(frame, 0, 5));
            check.due("rest(" + silence + ")", x.rest(silence), WireSlave.WAITING);
            check.due("listen(3, ..)", x.listen(3, packed(frame, 5, 3)), 8);
            check.due("a gap of " + silence, x.rest(14), silence < 7 ? 8 : 0);
        }
        WireSlave x = new WireSlave(9);
        x.listen(4, 1);
        x.rest(7);
        x.listen(4, 1);
        x.rest(14);
        x.listen(8, packed(frame, 0, 8));
        check.due("a good frame behind a spoilt one", x.rest(14), 8);
    }

    private static void tooManyBytes(Check check) {
        for (int n = 1; n <= 8; n++) {
            WireSlave x = new WireSlave(9);
            for (int i = 1; i <= 270; i++) {
                check.due("listen(" + n + ", 7), time " + i, x.listen(n, 7), Math.min(i * n, 257));
            }
            check.due("rest(14)", x.rest(14), 0);
            check.due("count(1)", x.count(1), 1);
            check.due("listen(" + n + ", 7) of the next frame", x.listen(n, 7), n);
        }
    }

    /** 256 bytes are a frame; one with 257 that has its right check sum is none. */
    private static void theLongestGoodFrame(Check check) {
        Line line = new Line(9);
        line.send(Line.join(new int[] {9, 77}, Line.many(252, 3)));
        check.dueReply("256 bytes", line, 9, 205, 1);
        line.send(Line.join(new int[] {9, 77}, Line.many(253, 3)));
        check.dueReply("257 bytes", line);
        check.due("count(1)", line.slave().count(1), 1);
        int[] good = Line.withSum(Line.join(new int[] {9, 77}, Line.many(252, 3)));
        line.sendRaw(Line.join(good, 3));
        check.dueReply("256 good bytes and one more", line);
        check.due("count(1)", line.slave().count(1), 2);
    }
}
