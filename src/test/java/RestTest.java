/** Promise 4, of silence: when a frame ends, and which ones are thrown away or passed by. */
public final class RestTest {
    public static void main(String[] args) {
        Check check = new Check();
        silencesThatEnd(check);
        wrongSilences(check);
        shortFrames(check);
        wrongSums(check);
        addresses(check);
        check.finish();
    }

    private static void silencesThatEnd(Check check) {
        for (int silence : new int[] {14, 15, 20, 999, 1000}) {
            WireSlave x = new WireSlave(9);
            x.listen(8, 1L);
            check.due("rest(" + silence + ")", x.rest(silence), 0);
            check.due("rest(" + silence + ") on the quiet line", x.rest(silence), WireSlave.WAITING);
            check.due("rest(0) on the quiet line", x.rest(0), WireSlave.WAITING);
        }
        for (int first = 0; first < 14; first++) {
            Line line = new Line(9);
            line.put(Line.withSum(9, 6, 0, 0, 0, 1));
            check.due("rest(" + first + ")", line.slave().rest(first), WireSlave.WAITING);
            check.due("rest(0)", line.slave().rest(0), WireSlave.WAITING);
            check.due("rest(" + (14 - first) + ")", line.slave().rest(14 - first), 8);
        }
        silenceByQuarters(check);
    }

    private static void silenceByQuarters(Check check) {
        Line line = new Line(9);
        line.put(Line.withSum(9, 6, 0, 0, 0, 1));
        for (int i = 1; i < 14; i++) {
            check.due("quarter " + i, line.slave().rest(1), WireSlave.WAITING);
        }
        check.due("quarter 14", line.slave().rest(1), 8);
        check.due("quarter 15", line.slave().rest(1), WireSlave.WAITING);
        line.slave().rest(9);
        line.send(9, 6, 0, 0, 0, 2);
        check.dueReply("a frame behind a quiet that came in parts", line, 9, 6, 0, 0, 0, 2);
    }

    private static void wrongSilences(Check check) {
        Line line = new Line(9);
        int[] wrong = {-1, -14, 1001, 1014, Integer.MIN_VALUE, Integer.MAX_VALUE};
        for (int silence : wrong) {
            check.due("rest(" + silence + ")", line.slave().rest(silence), WireSlave.BAD);
        }
        line.put(Line.withSum(9, 6, 0, 0, 0));
        line.slave().rest(6);
        for (int silence : wrong) {
            check.due("rest(" + silence + ") in a frame", line.slave().rest(silence), WireSlave.BAD);
        }
        line.slave().hear(1);
        check.due("count(0): none ended", line.slave().count(0), 0);
        line.slave().rest(13);
        for (int silence : wrong) {
            check.due("rest(" + silence + ") at a gap of 13", line.slave().rest(silence), WireSlave.BAD);
        }
        check.due("rest(1)", line.slave().rest(1), 0);
    }

    /** Even the check sum of nothing, or of one byte, makes no frame below 4 bytes. */
    private static void shortFrames(Check check) {
        int[][] tooShort = {{9}, {9, 1}, {9, 1, 2}, Line.withSum(), Line.withSum(9), Line.withSum(0)};
        for (int[] frame : tooShort) {
            Line line = new Line(9);
            line.sendRaw(frame);
            check.dueReply("a frame of " + frame.length, line);
            check.due("count(1)", line.slave().count(1), 1);
        }
        Line line = new Line(9);
        line.send(9, 3);
        check.dueReply("a frame of 4", line, 9, 131, 3);
        line.send(9, 7);
        check.dueReply("a frame of 4, unknown", line, 9, 135, 1);
    }

    private static void wrongSums(Check check) {
        int[] good = Line.withSum(9, 6, 0, 5, 1, 2);
        for (int at = 0; at < good.length; at++) {
            for (int bit = 0; bit < 8; bit++) {
                int[] frame = good.clone();
                frame[at] ^= 1 << bit;
                Line line = new Line(9);
                line.sendRaw(frame);
                String what = "bit " + bit + " of byte " + at + " is wrong";
                check.dueReply(what, line);
                check.due(what + ": count(1)", line.slave().count(1), 1);
                check.due(what + ": get(2, 5)", line.slave().get(2, 5), 0);
            }
        }
        Line line = new Line(9);
        line.sendRaw(9, 6, 0, 5, 1, 2, good[7], good[6]);
        check.dueReply("the higher 8 bits first", line);
    }

    private static void addresses(Check check) {
        for (int to = 0; to < 256; to++) {
            Line line = new Line(9);
            line.send(to, 6, 0, 5, 1, 2);
            if (to == 9) {
                check.dueReply("to 9", line, 9, 6, 0, 5, 1, 2);
            } else {
                check.dueReply("to " + to, line);
            }
            boolean heard = to == 9 || to == 0;
            check.due("to " + to + ": get(2, 5)", line.slave().get(2, 5), heard ? 258 : 0);
            check.due("to " + to + ": count(2)", line.slave().count(2), heard ? 0 : 1);
        }
    }
}
