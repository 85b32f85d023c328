/** Promise 2: one byte is heard. */
public final class HearTest {
    public static void main(String[] args) {
        Check check = new Check();
        aFrameByteForByte(check);
        wrongBytes(check);
        gaps(check);
        tooManyBytes(check);
        check.finish();
    }

    private static void aFrameByteForByte(Check check) {
        Line line = new Line(9);
        int[] frame = Line.withSum(9, 6, 0, 255, 128, 127);
        for (int i = 0; i < frame.length; i++) {
            check.due("hear(" + frame[i] + ")", line.slave().hear(frame[i]), i + 1);
        }
        check.due("rest(14)", line.slave().rest(14), 5);
        check.due("hear(0) of the next frame", line.slave().hear(0), 1);
        check.due("hear(255)", line.slave().hear(255), 2);
    }

    private static void wrongBytes(Check check) {
        WireSlave x = new WireSlave(9);
        int[] wrong = {-1, 256, 265, -247, Integer.MIN_VALUE, Integer.MAX_VALUE};
        for (int b : wrong) {
            check.due("hear(" + b + ")", x.hear(b), WireSlave.BAD);
        }
        check.due("rest(14): no frame", x.rest(14), WireSlave.WAITING);
        check.due("hear(1)", x.hear(1), 1);
        x.rest(13);
        for (int b : wrong) {
            check.due("hear(" + b + ") in a frame", x.hear(b), WireSlave.BAD);
        }
        check.due("rest(1): the gap went on", x.rest(1), 0);
    }

    /** A gap of up to 6 is none, one of 7 to 13 spoils, and so do smaller ones that add up. */
    private static void gaps(Check check) {
        int[] frame = Line.withSum(9, 6, 0, 5, 1, 2);
        for (int silence = 0; silence < 14; silence++) {
            for (int cut = 0; cut <= silence; cut++) {
                for (int at = 1; at < frame.length; at++) {
                    WireSlave x = new WireSlave(9);
                    for (int i = 0; i < frame.length; i++) {
                        if (i == at) {
                            x.rest(cut);
                            x.rest(silence - cut);
                        }
                        check.due("hear", x.hear(frame[i]), i + 1);
                    }
                    boolean good = silence < 7;
                    String what = "a gap of " + cut + " and " + (silence - cut) + " before byte " + at;
                    check.due(what, x.rest(14), good ? 8 : 0);
                    check.due(what + ": count(1)", x.count(1), good ? 0 : 1);
                    check.due(what + ": get(2, 5)", x.get(2, 5), good ? 258 : 0);
                }
            }
        }
        everyByteBehindSix(check, frame);
    }

    private static void everyByteBehindSix(Check check, int[] frame) {
        WireSlave x = new WireSlave(9);
        for (int b : frame) {
            x.rest(6);
            x.hear(b);
        }
        check.due("a gap of 6 before every byte", x.rest(14), 8);
    }

    private static void tooManyBytes(Check check) {
        WireSlave x = new WireSlave(9);
        for (int i = 1; i <= 300; i++) {
            check.due("hear as byte " + i, x.hear(i & 255), Math.min(i, 257));
        }
        check.due("rest(14)", x.rest(14), 0);
        check.due("count(1)", x.count(1), 1);
        check.due("hear(9) of the next frame", x.hear(9), 1);
    }
}
