/** The boundary cases of promises 1 to 4 and 8, and of 512 calls: a test for each sentence. */
public final class BoundsOfCallsTest {
    private static final int LEAST = Integer.MIN_VALUE, MOST = Integer.MAX_VALUE;

    public static void main(String[] args) {
        Check check = new Check();
        addressesThatAreLess(check);
        addressesThatAreMore(check);
        addressesBetween(check);
        theLineIsQuiet(check);
        bytesThatAreHeard(check);
        bytesThatAreNone(check);
        hearBeyond256(check);
        listenToOneToEight(check);
        listenToNone(check);
        listenBeyond256(check);
        noGapBetween(check);
        silences(check);
        silencesThatAreNone(check);
        noFrameEnds(check);
        noReply(check);
        countsOfEachKind(check);
        countsThatAreNone(check);
        allThe512Calls(check);
        check.finish();
    }

    private static void dueOwn(Check check, int given, int own) {
        for (int to = 1; to <= 255; to++) {
            Line line = new Line(given);
            line.send(to, 7);
            check.due("WireSlave(" + given + "), to " + to, line.answered(), to == own ? 5 : 0);
            check.due("WireSlave(" + given + "), to " + to + ": count(2)", line.slave().count(2), to == own ? 0 : 1);
        }
    }

    private static void addressesThatAreLess(Check check) {
        check.sentence("The slave's own address: 1, if it is less");
        for (int given : new int[] {0, -1, -247, LEAST}) {
            dueOwn(check, given, 1);
        }
    }

    private static void addressesThatAreMore(Check check) {
        check.sentence("247, if it is more");
        for (int given : new int[] {248, 255, 256, 257, MOST}) {
            dueOwn(check, given, 247);
        }
    }

    private static void addressesBetween(Check check) {
        check.sentence("The slave's own address");
        for (int given : new int[] {1, 2, 127, 128, 246, 247}) {
            dueOwn(check, given, given);
        }
    }

    private static void theLineIsQuiet(Check check) {
        check.sentence("The line is quiet.");
        for (int silence : new int[] {0, 6, 7, 13, 14, 1000}) {
            Line line = new Line(9);
            check.due("rest(" + silence + ")", line.slave().rest(silence), WireSlave.WAITING);
            check.due("count(0)", line.slave().count(0), 0);
            line.send(9, 7);
            check.dueReply("a frame behind " + silence, line, 9, 135, 1);
        }
        check.due("hear at once", new WireSlave(9).hear(0), 1);
    }

    private static void bytesThatAreHeard(Check check) {
        check.sentence("A byte (0 .. 255) is heard: how many the frame has");
        WireSlave x = new WireSlave(9);
        check.due("hear(0)", x.hear(0), 1);
        check.due("hear(255)", x.hear(255), 2);
        check.due("hear(128)", x.hear(128), 3);
        Line line = new Line(9);
        for (int b : Line.withSum(9, 6, 0, 0, 255, 0)) {
            line.slave().hear(b);
        }
        line.slave().rest(14);
        check.due("0 and 255 are heard as they are: get(2, 0)", line.slave().get(2, 0), 65280);
    }

    private static void bytesThatAreNone(Check check) {
        check.sentence("hear: BAD.");
        WireSlave x = new WireSlave(9);
        int[] none = {-1, 256, -256, 265, LEAST, MOST};
        for (int b : none) {
            check.due("hear(" + b + ")", x.hear(b), WireSlave.BAD);
        }
        check.due("rest(14): nothing was heard", x.rest(14), WireSlave.WAITING);
        int[] frame = Line.withSum(9, 7);
        for (int b : frame) {
            x.hear(b);
        }
        x.rest(8);
        for (int b : none) {
            check.due("hear(" + b + ") behind 8", x.hear(b), WireSlave.BAD);
        }
        check.due("rest(6): the gap went on, and the frame is not spoilt", x.rest(6), 5);
    }

    private static void hearBeyond256(Check check) {
        check.sentence("hear: (257, if there are more than 256)");
        Line line = new Line(9);
        line.put(Line.many(254, 0));
        check.due("byte 255", line.slave().hear(0), 255);
        check.due("byte 256", line.slave().hear(0), 256);
        check.due("byte 257", line.slave().hear(0), 257);
        check.due("byte 258", line.slave().hear(0), 257);
        check.due("byte 259", line.slave().hear(0), 257);
        check.due("a byte that is none", line.slave().hear(256), WireSlave.BAD);
        line.slave().rest(13);
        check.due("a byte behind 13", line.slave().hear(0), 257);
        check.due("rest(14)", line.slave().rest(14), 0);
        check.due("byte 1 of the next", line.slave().hear(0), 1);
    }

    private static void listenToOneToEight(Check check) {
        check.sentence("The n lowest bytes of v (1 .. 8), the highest first, are heard");
        int[] frame = Line.withSum(9, 6, 0, 5, 1, 2);
        long whole = 0;
        for (int b : frame) {
            whole = whole << 8 | b;
        }
        for (int cut = 1; cut <= 7; cut++) {
            WireSlave x = new WireSlave(9);
            check.due("listen(" + cut + ")", x.listen(cut, whole >>> 8 * (8 - cut) | -1L << 8 * cut), cut);
            check.due("listen(" + (8 - cut) + "), rubbish above", x.listen(8 - cut, whole), 8);
            check.due("rest(14)", x.rest(14), 8);
            check.due("get(2, 5)", x.get(2, 5), 258);
        }
        WireSlave x = new WireSlave(9);
        check.due("listen(8)", x.listen(8, whole), 8);
        check.due("rest(14)", x.rest(14), 8);
        check.due("get(2, 5)", x.get(2, 5), 258);
    }

    private static void listenToNone(Check check) {
        check.sentence("listen: BAD.");
        WireSlave x = new WireSlave(9);
        int[] none = {0, -1, 9, -8, 256, 257, LEAST, MOST};
        for (int n : none) {
            check.due("listen(" + n + ", 1)", x.listen(n, 1), WireSlave.BAD);
        }
        check.due("rest(14): nothing was heard", x.rest(14), WireSlave.WAITING);
        for (int b : Line.withSum(9, 7)) {
            x.listen(1, b);
        }
        x.rest(8);
        for (int n : none) {
            check.due("listen(" + n + ", 1) behind 8", x.listen(n, 1), WireSlave.BAD);
        }
        check.due("rest(6): the gap went on, and the frame is not spoilt", x.rest(6), 5);
    }

    private static void listenBeyond256(Check check) {
        check.sentence("listen: (257, if there are more)");
        for (int before = 248; before <= 257; before++) {
            Line line = new Line(9);
            line.put(Line.many(before, 0));
            check.due("8 behind " + before, line.slave().listen(8, 0), Math.min(before + 8, 257));
            check.due("1 behind that", line.slave().listen(1, 0), 257);
        }
    }

    private static void noGapBetween(Check check) {
        check.sentence("with no gap between");
        int[] frame = Line.withSum(9, 6, 0, 5, 1, 2);
        for (int silence : new int[] {6, 7, 13}) {
            Line line = new Line(9);
            line.put(frame[0], frame[1], frame[2]);
            line.slave().rest(silence);
            line.put(frame[3], frame[4], frame[5], frame[6], frame[7]);
            check.due("the gap begins anew: rest(13)", line.slave().rest(13), WireSlave.WAITING);
            check.due("one gap of " + silence + " before the first", line.slave().rest(1), silence == 6 ? 8 : 0);
        }
    }

    private static void silences(Check check) {
        check.sentence("So many quarters of silence (0 .. 1,000)");
        for (int quarters : new int[] {0, 1, 13, 14, 999, 1000}) {
            WireSlave x = new WireSlave(9);
            x.hear(9);
            check.due("rest(" + quarters + ")", x.rest(quarters), quarters < 14 ? WireSlave.WAITING : 0);
        }
    }

    private static void silencesThatAreNone(Check check) {
        check.sentence("rest: BAD.");
        int[] none = {-1, 1001, -14, 1014, LEAST, MOST};
        Line line = new Line(9);
        for (int quarters : none) {
            check.due("rest(" + quarters + ") on the quiet line", line.slave().rest(quarters), WireSlave.BAD);
        }
        line.put(9);
        for (int quarters : none) {
            check.due("rest(" + quarters + ") in a frame", line.slave().rest(quarters), WireSlave.BAD);
        }
        line.slave().rest(6);
        for (int quarters : none) {
            check.due("rest(" + quarters + ") behind 6", line.slave().rest(quarters), WireSlave.BAD);
        }
        int[] others = Line.withSum(9, 7);
        line.sendRaw(others[1], others[2], others[3]);
        check.dueReply("the gap was 6 still", line, 9, 135, 1);
        line.put(others);
        line.slave().rest(13);
        for (int quarters : none) {
            check.due("rest(" + quarters + ") behind 13", line.slave().rest(quarters), WireSlave.BAD);
        }
        check.due("rest(1)", line.slave().rest(1), 5);
        check.due("count(0)", line.slave().count(0), 2);
    }

    private static void noFrameEnds(Check check) {
        check.sentence("WAITING, if no frame ends");
        Line line = new Line(9);
        check.due("a new object: rest(14)", line.slave().rest(14), WireSlave.WAITING);
        line.put(9);
        check.due("a frame: rest(0)", line.slave().rest(0), WireSlave.WAITING);
        check.due("a frame: rest(13)", line.slave().rest(13), WireSlave.WAITING);
        check.due("a frame: rest(0) behind 13", line.slave().rest(0), WireSlave.WAITING);
        check.due("its end: rest(1)", line.slave().rest(1), 0);
        check.due("behind it: rest(0)", line.slave().rest(0), WireSlave.WAITING);
        check.due("behind it: rest(1000)", line.slave().rest(1000), WireSlave.WAITING);
    }

    private static void noReply(Check check) {
        check.sentence("else how many bytes the reply to that has, 0 for none");
        Line line = new Line(9);
        check.due("thrown away", line.sendRaw(9), 0);
        check.due("passed by", line.send(8, 7), 0);
        check.due("to all, done", line.send(0, 6, 0, 0, 0, 1), 0);
        check.due("to all, refused", line.send(0, 7), 0);
        check.due("refused", line.send(9, 7), 5);
        check.due("the shortest that is done", line.send(9, 1, 0, 0, 0, 1), 6);
        check.due("the longest", line.send(9, 3, 0, 0, 0, 64), 133);
        check.due("thrown away behind the longest", line.sendRaw(9), 0);
    }

    private static void countsOfEachKind(Check check) {
        check.sentence("How many frames ended: 0 all, 1 thrown away, 2 passed by, 3 requests that were refused, "
                + "4 requests that were not, 5 replies.");
        Line line = new Line(9);
        int[][] frames = {
            {9}, Line.withSum(8, 7), Line.withSum(9, 7), Line.withSum(0, 7),
            Line.withSum(9, 6, 0, 0, 0, 1), Line.withSum(0, 6, 0, 0, 0, 1), Line.withSum(0, 3, 0, 0, 0, 1),
        };
        int[] kinds = {1, 2, 3, 3, 4, 4, 4};
        boolean[] replies = {false, false, true, false, true, false, false};
        int[] want = new int[6];
        for (int i = 0; i < frames.length; i++) {
            line.sendRaw(frames[i]);
            want[0]++;
            want[kinds[i]]++;
            want[5] += replies[i] ? 1 : 0;
            for (int which = 0; which <= 5; which++) {
                check.due("frame " + i + ": count(" + which + ")", line.slave().count(which), want[which]);
            }
        }
    }

    private static void countsThatAreNone(Check check) {
        check.sentence("BAD: another number.");
        Line line = new Line(9);
        line.send(9, 7);
        for (int which : new int[] {-1, 6, 256, LEAST, MOST}) {
            check.due("count(" + which + ")", line.slave().count(which), WireSlave.BAD);
        }
    }

    private static void allThe512Calls(Check check) {
        check.sentence("An object is used for at most 512 calls after it has been made");
        WireSlave ended = new WireSlave(9);
        for (int i = 0; i < 255; i++) {
            ended.hear(i);
            ended.rest(1000);
        }
        check.due("call 511: count(0)", ended.count(0), 255);
        check.due("call 512: count(1)", ended.count(1), 255);
        WireSlave flooded = new WireSlave(9);
        for (int i = 1; i < 511; i++) {
            check.due("flood, call " + i, flooded.listen(8, -1), Math.min(8 * i, 257));
        }
        check.due("flood, call 511", flooded.rest(14), 0);
        check.due("flood, call 512", flooded.hear(0), 1);
        WireSlave quiet = new WireSlave(9);
        for (int i = 1; i < 512; i++) {
            check.due("quiet, call " + i, quiet.rest(1000), WireSlave.WAITING);
        }
        check.due("quiet, call 512", quiet.hear(0), 1);
    }
}
