/** Promise 5: the bytes of the reply to the frame that ended last. */
public final class ReplyTest {
    public static void main(String[] args) {
        Check check = new Check();
        itStaysWhileTheNextIsHeard(check);
        itGoesWithTheNextFrame(check);
        wrongPlaces(check);
        aShorterOneBehindALonger(check);
        check.finish();
    }

    private static void itStaysWhileTheNextIsHeard(Check check) {
        Line line = new Line(9);
        line.slave().set(3, 0, 0xABCD);
        line.send(9, 4, 0, 0, 0, 1);
        check.dueReply("at once", line, 9, 4, 2, 0xAB, 0xCD);
        line.slave().set(3, 0, 1);
        check.dueReply("the meter is another", line, 9, 4, 2, 0xAB, 0xCD);
        line.put(8, 1, 2, 3, 4);
        line.slave().rest(13);
        check.dueReply("the next is being heard", line, 9, 4, 2, 0xAB, 0xCD);
        line.slave().rest(1);
        check.due("the next has ended: reply(0)", line.slave().reply(0), WireSlave.BAD);
    }

    private static void itGoesWithTheNextFrame(Check check) {
        int[][] unanswered = {
            {1}, {9, 3, 0}, {9, 3, 0, 0, 0, 1, 0, 0}, Line.withSum(8, 3, 0, 0, 0, 1),
            Line.withSum(0, 3, 0, 0, 0, 1), Line.withSum(0, 6, 0, 0, 0, 1), Line.withSum(0, 99),
        };
        for (int[] frame : unanswered) {
            Line line = new Line(9);
            line.send(9, 3, 0, 0, 0, 1);
            check.dueReply("before", line, 9, 3, 2, 0, 0);
            line.sendRaw(frame);
            check.dueReply("behind a frame of " + frame.length, line);
        }
    }

    private static void wrongPlaces(Check check) {
        Line line = new Line(9);
        line.send(9, 3, 0, 0, 0, 64);
        check.due("rest", line.answered(), 133);
        for (int i : new int[] {-1, 133, 134, 255, 256, 257, Integer.MIN_VALUE, Integer.MAX_VALUE}) {
            check.due("reply(" + i + ")", line.slave().reply(i), WireSlave.BAD);
        }
    }

    private static void aShorterOneBehindALonger(Check check) {
        Line line = new Line(9);
        line.send(9, 3, 0, 0, 0, 64);
        line.send(9, 3, 0, 0, 0, 0);
        check.dueReply("a refusal behind it", line, 9, 131, 3);
    }
}
