/** The boundary cases of the document's WHEN A FRAME ENDS, down to its refusals: a test for each sentence. */
public final class BoundsOfFramesTest {
    public static void main(String[] args) {
        Check check = new Check();
        theSpoiltAreThrownAway(check);
        theShortAreThrownAway(check);
        wrongSumsAreThrownAway(check);
        theLowerBitsFirst(check);
        otherAddressesArePassedBy(check);
        thrownAwayComesBeforePassedBy(check);
        passedByComesBeforeRefused(check);
        aRequestWithoutData(check);
        theHigherByteFirst(check);
        theFirstRefusalThatHolds(check);
        check.finish();
    }

    private static void dueCounts(Check check, String what, Line line, int... want) {
        for (int which = 0; which < want.length; which++) {
            check.due(what + ": count(" + which + ")", line.slave().count(which), want[which]);
        }
    }

    private static void theSpoiltAreThrownAway(Check check) {
        check.sentence("it is THROWN AWAY, if it is spoilt");
        int[] frame = Line.withSum(9, 6, 0, 5, 1, 2);
        Line line = new Line(9);
        line.put(frame[0]);
        line.slave().rest(7);
        line.sendRaw(java.util.Arrays.copyOfRange(frame, 1, 8));
        check.dueReply("a gap of 7", line);
        dueCounts(check, "a gap of 7", line, 1, 1, 0, 0, 0, 0);
        check.due("get(2, 5)", line.slave().get(2, 5), 0);
        line.send(Line.join(new int[] {9, 7}, Line.many(253, 0)));
        check.dueReply("257 bytes", line);
        dueCounts(check, "257 bytes", line, 2, 2, 0, 0, 0, 0);
    }

    private static void theShortAreThrownAway(Check check) {
        check.sentence("has fewer than 4 bytes");
        int[][] tooShort = {{9}, {9, 7}, Line.withSum(), {9, 7, 0}, Line.withSum(9), Line.withSum(0), Line.withSum(8)};
        for (int[] frame : tooShort) {
            Line line = new Line(9);
            line.sendRaw(frame);
            String what = frame.length + " bytes";
            check.dueReply(what, line);
            dueCounts(check, what, line, 1, 1, 0, 0, 0, 0);
        }
        Line line = new Line(9);
        line.send(9, 7);
        check.dueReply("4 bytes", line, 9, 135, 1);
        dueCounts(check, "4 bytes", line, 1, 0, 0, 1, 0, 1);
    }

    private static void wrongSumsAreThrownAway(Check check) {
        check.sentence("or its last two bytes are not the check sum of all others");
        for (int[] body : new int[][] {{9, 7}, {9, 6, 0, 5, 1, 2}, {8, 6, 0, 5, 1, 2}, {0, 6, 0, 5, 1, 2}}) {
            int[] good = Line.withSum(body);
            for (int at = 0; at < good.length; at++) {
                for (int bit : new int[] {1, 128}) {
                    int[] frame = good.clone();
                    frame[at] ^= bit;
                    Line line = new Line(9);
                    line.sendRaw(frame);
                    check.dueReply("byte " + at + " is wrong", line);
                    dueCounts(check, "byte " + at + " is wrong", line, 1, 1, 0, 0, 0, 0);
                    check.due("get(2, 5)", line.slave().get(2, 5), 0);
                }
            }
        }
    }

    private static void theLowerBitsFirst(Check check) {
        check.sentence("the lower 8 bits first");
        int sum = Line.sumOf(9, 7);
        Line line = new Line(9);
        line.sendRaw(9, 7, sum >> 8, sum & 255);
        dueCounts(check, "the higher first", line, 1, 1, 0, 0, 0, 0);
        line.sendRaw(9, 7, sum & 255, sum >> 8);
        dueCounts(check, "the lower first", line, 2, 1, 0, 1, 0, 1);
    }

    private static void otherAddressesArePassedBy(Check check) {
        check.sentence("it is PASSED BY, if that is neither 0 nor the slave's own");
        for (int own : new int[] {1, 9, 128, 247}) {
            for (int to : new int[] {0, 1, 2, 8, 9, 10, 127, 128, 129, 246, 247, 248, 255}) {
                Line line = new Line(own);
                line.send(to, 6, 0, 5, 1, 2);
                boolean passed = to != 0 && to != own;
                String what = "own " + own + ", to " + to;
                check.due(what, line.answered(), to == own ? 8 : 0);
                dueCounts(check, what, line, 1, 0, passed ? 1 : 0, 0, passed ? 0 : 1, to == own ? 1 : 0);
                check.due(what + ": get(2, 5)", line.slave().get(2, 5), passed ? 0 : 258);
            }
        }
    }

    private static void thrownAwayComesBeforePassedBy(Check check) {
        check.sentence("Otherwise, its first byte being the ADDRESS");
        Line line = new Line(9);
        line.sendRaw(8);
        line.sendRaw(8, 6, 0, 5, 1, 2, 0, 0);
        line.put(8);
        line.slave().rest(7);
        line.sendRaw(java.util.Arrays.copyOfRange(Line.withSum(8, 6, 0, 5, 1, 2), 1, 8));
        line.send(Line.many(255, 8));
        dueCounts(check, "four spoilt ones for another", line, 4, 4, 0, 0, 0, 0);
    }

    private static void passedByComesBeforeRefused(Check check) {
        check.sentence("Otherwise it is a REQUEST");
        Line line = new Line(9);
        line.send(8, 7);
        line.send(8, 6, 0, 5);
        line.send(8, 6, 255, 255, 1, 2);
        dueCounts(check, "three wrong ones for another", line, 3, 0, 3, 0, 0, 0);
    }

    private static void aRequestWithoutData(Check check) {
        check.sentence("its DATA, what stands between that and the check sum");
        for (int function : new int[] {1, 2, 3, 4, 5, 6, 15, 16}) {
            check.dueRefusal(3, 9, function);
        }
        check.dueRefusal(1, 9, 0);
        // The check sum is no data, even where it would make up for what is missing.
        check.dueRefusal(3, 9, 6, 0, 5);
    }

    private static void theHigherByteFirst(Check check) {
        check.sentence("Numbers of two bytes in it have the higher one first.");
        Line line = new Line(9);
        line.send(9, 6, 0, 5, 1, 2);
        check.due("n: get(2, 5)", line.slave().get(2, 5), 258);
        check.dueRefusal(2, 9, 6, 5, 0, 1, 2);
        check.dueRefusal(3, 9, 5, 0, 5, 0, 255);
        check.dueDone(8, 9, 5, 0, 5, 255, 0);
        line.send(9, 16, 0, 6, 0, 1, 2, 3, 4);
        check.due("what is written: get(2, 6)", line.slave().get(2, 6), 772);
    }

    private static void theFirstRefusalThatHolds(Check check) {
        check.sentence("It is REFUSED for the first of these that holds");
        check.dueRefusal(1, 9, 7, 255, 255, 0, 0);
        check.dueRefusal(1, 9, 14, 255, 255, 0, 0, 9);
        check.dueRefusal(3, 9, 3, 255, 255, 0);
        check.dueRefusal(3, Line.request(16, 65535, 1, 9, 1, 1));
        for (int function = 1; function <= 4; function++) {
            check.dueRefusal(3, Line.request(function, 65535, 0));
            check.dueRefusal(3, Line.request(function, 65535, 2001));
            check.dueRefusal(2, Line.request(function, 65535, 1));
        }
        check.dueRefusal(3, Line.request(5, 256, 1));
        check.dueRefusal(2, Line.request(5, 256, 65280));
        check.dueRefusal(3, Line.writing(15, 256, 0, 1));
        check.dueRefusal(3, Line.writing(15, 256, 1, 1, 1));
        check.dueRefusal(2, Line.writing(15, 256, 1, 1));
        check.dueRefusal(3, Line.writing(16, 64, 0, 1, 1));
        check.dueRefusal(3, Line.writing(16, 64, 1, 1));
        check.dueRefusal(2, Line.writing(16, 64, 1, 1, 1));
    }
}
