/** The boundary cases of the document's THE WIRE: a test for each sentence. */
public final class BoundsOfWireTest {
    private static final int[] FRAME = Line.withSum(9, 6, 0, 5, 1, 2);

    public static void main(String[] args) {
        Check check = new Check();
        theGapAddsUp(check);
        theGapBeginsAnewWithAByte(check);
        aFrameBeginsWhereTheLineWasQuiet(check);
        aFrameEndsAtFourteen(check);
        aFrameEndsOnce(check);
        aByteBehindSevenToThirteenSpoils(check);
        silenceAloneSpoilsNothing(check);
        onlyTheFrameItselfIsSpoilt(check);
        moreThan256BytesSpoil(check);
        check.finish();
    }

    /** The frame with silences between its byte at - 1 and its byte at: what ended it answers. */
    private static int answerWithSilence(int at, int... silences) {
        Line line = new Line(9);
        line.put(java.util.Arrays.copyOf(FRAME, at));
        for (int silence : silences) {
            line.slave().rest(silence);
        }
        return line.sendRaw(java.util.Arrays.copyOfRange(FRAME, at, FRAME.length));
    }

    private static void theGapAddsUp(Check check) {
        check.sentence("The GAP is how many quarters of silence there were since the last byte.");
        check.due("silences of 3 and 3", answerWithSilence(4, 3, 3), 8);
        check.due("silences of 3 and 4", answerWithSilence(4, 3, 4), 0);
        check.due("seven of 1", answerWithSilence(4, 1, 1, 1, 1, 1, 1, 1), 0);
        check.due("six of 1, and some of 0", answerWithSilence(4, 0, 1, 1, 1, 0, 1, 1, 1, 0), 8);
        Line line = new Line(9);
        line.put(FRAME);
        for (int i = 1; i <= 13; i++) {
            check.due("quarter " + i, line.slave().rest(1), WireSlave.WAITING);
        }
        check.due("quarter 14", line.slave().rest(1), 8);
    }

    private static void theGapBeginsAnewWithAByte(Check check) {
        check.sentence("since the last byte");
        WireSlave x = new WireSlave(9);
        for (int b : FRAME) {
            x.rest(6);
            x.hear(b);
        }
        check.due("6 before each byte: rest(13)", x.rest(13), WireSlave.WAITING);
        check.due("6 before each byte: rest(1)", x.rest(1), 8);
        x.hear(9);
        x.rest(13);
        x.hear(9);
        check.due("13 behind a byte behind 13", x.rest(13), WireSlave.WAITING);
        check.due("hear behind it", x.hear(9), 3);
    }

    private static void aFrameBeginsWhereTheLineWasQuiet(Check check) {
        check.sentence("A FRAME are the bytes heard since the line was last quiet");
        WireSlave x = new WireSlave(9);
        check.due("hear", x.hear(9), 1);
        x.rest(13);
        check.due("hear behind 13", x.hear(9), 2);
        x.rest(14);
        check.due("hear behind 14", x.hear(9), 1);
        x.rest(1000);
        check.due("hear behind 1,000", x.hear(9), 1);
    }

    private static void aFrameEndsAtFourteen(Check check) {
        check.sentence("it ENDS when the gap comes to 14");
        for (int silence : new int[] {0, 1, 7, 12, 13, 14, 15, 28, 1000}) {
            Line line = new Line(9);
            line.put(FRAME);
            boolean ends = silence >= 14;
            check.due("rest(" + silence + ")", line.slave().rest(silence), ends ? 8 : WireSlave.WAITING);
            check.due("rest(" + silence + "): count(0)", line.slave().count(0), ends ? 1 : 0);
            check.due("rest(" + silence + "): get(2, 5)", line.slave().get(2, 5), ends ? 258 : 0);
        }
    }

    private static void aFrameEndsOnce(Check check) {
        check.sentence("it ENDS");
        Line line = new Line(9);
        line.sendRaw(FRAME);
        for (int silence : new int[] {0, 1, 13, 14, 1000}) {
            check.due("rest(" + silence + ") behind it", line.slave().rest(silence), WireSlave.WAITING);
        }
        check.due("count(0)", line.slave().count(0), 1);
        check.due("reply(0) is still there", line.slave().reply(0), 9);
    }

    private static void aByteBehindSevenToThirteenSpoils(Check check) {
        check.sentence("It is SPOILT, if a byte comes behind a gap of 7 to 13");
        for (int at = 1; at < FRAME.length; at++) {
            for (int gap = 0; gap <= 13; gap++) {
                check.due("a gap of " + gap + " before byte " + at, answerWithSilence(at, gap), gap < 7 ? 8 : 0);
            }
        }
        Line line = new Line(9);
        line.put(1, 2, 3);
        check.due("a gap of 14 ends the one before", line.slave().rest(14), 0);
        line.sendRaw(FRAME);
        check.due("a gap of 14 spoils nothing", line.answered(), 8);
    }

    private static void silenceAloneSpoilsNothing(Check check) {
        check.sentence("if a byte comes");
        for (int gap = 7; gap <= 13; gap++) {
            Line line = new Line(9);
            line.put(FRAME);
            check.due("rest(" + gap + ")", line.slave().rest(gap), WireSlave.WAITING);
            check.due("rest(" + (14 - gap) + "), and no byte between", line.slave().rest(14 - gap), 8);
        }
    }

    private static void onlyTheFrameItselfIsSpoilt(Check check) {
        check.sentence("It is SPOILT");
        Line line = new Line(9);
        line.put(1);
        line.slave().rest(7);
        line.sendRaw(2);
        line.sendRaw(FRAME);
        check.due("a good frame behind one with a gap", line.answered(), 8);
        line.sendRaw(Line.many(257, 1));
        line.sendRaw(FRAME);
        check.due("a good frame behind one that was too long", line.answered(), 8);
        check.due("count(1)", line.slave().count(1), 2);
        line.put(FRAME[0]);
        line.slave().rest(7);
        line.put(FRAME[1]);
        line.slave().rest(6);
        line.sendRaw(java.util.Arrays.copyOfRange(FRAME, 2, 8));
        check.due("a lesser gap behind the spoiling one heals nothing", line.answered(), 0);
    }

    private static void moreThan256BytesSpoil(Check check) {
        check.sentence("or it has more than 256 bytes");
        for (int size : new int[] {255, 256, 257, 258, 259, 264, 512, 513, 1000}) {
            Line line = new Line(9);
            line.send(Line.join(new int[] {9, 7}, Line.many(size - 4, 3)));
            boolean spoilt = size > 256;
            check.due(size + " bytes", line.answered(), spoilt ? 0 : 5);
            check.due(size + " bytes: count(1)", line.slave().count(1), spoilt ? 1 : 0);
            check.due(size + " bytes: count(3)", line.slave().count(3), spoilt ? 0 : 1);
        }
        Line line = new Line(9);
        int[] longest = Line.withSum(Line.join(new int[] {9, 7}, Line.many(252, 3)));
        line.sendRaw(Line.join(longest, 3));
        check.due("a good one of 256, and a byte", line.answered(), 0);
    }
}
