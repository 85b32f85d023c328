/** The boundary cases of the document's THE REPLY, and of promise 5: a test for each sentence. */
public final class BoundsOfRepliesTest {
    public static void main(String[] args) {
        Check check = new Check();
        toAddressZeroNothingIsSent(check);
        toAddressZeroOnlyWritesAreDone(check);
        toAddressZeroTheRefusedAreNotDone(check);
        theAddressIsTheOwn(check);
        bitSevenOfARefusal(check);
        howManyBytesOfBits(check);
        eachBitAtItsPlace(check);
        bitsThatAreLeftAreZero(check);
        numbersOfARead(check);
        othersRepeatFourBytes(check);
        theSumStandsBehind(check);
        byteIOfTheReply(check);
        theFrameThatEndedLast(check);
        thereIsNone(check);
        check.finish();
    }

    private static int[] asked(int to, int function) {
        switch (function) {
            case 5: return new int[] {to, 5, 0, 3, 255, 0};
            case 15: return new int[] {to, 15, 0, 3, 0, 1, 1, 1};
            case 16: return new int[] {to, 16, 0, 3, 0, 1, 2, 0, 1};
            default: return new int[] {to, function, 0, 3, 0, 1};
        }
    }

    private static void toAddressZeroNothingIsSent(Check check) {
        check.sentence("THE REPLY is sent if the address is not 0");
        for (int function : new int[] {0, 1, 2, 3, 4, 5, 6, 7, 15, 16, 255}) {
            Line line = new Line(9);
            line.send(asked(0, function));
            check.dueReply(function + " to 0", line);
            check.due(function + " to 0: count(0)", line.slave().count(0), 1);
            check.due(function + " to 0: count(2)", line.slave().count(2), 0);
            check.due(function + " to 0: count(5)", line.slave().count(5), 0);
            line.send(asked(9, function));
            check.due(function + " to 9: a reply", line.answered() > 0);
            check.due(function + " to 9: count(5)", line.slave().count(5), 1);
        }
    }

    private static void toAddressZeroOnlyWritesAreDone(Check check) {
        check.sentence("of a request with address 0 only 5, 6, 15, 16 are done");
        for (int function : new int[] {5, 6, 15, 16}) {
            Line line = new Line(9);
            line.send(asked(0, function));
            int table = function == 5 || function == 15 ? 0 : 2;
            check.due(function + " to 0: get(" + table + ", 3)", line.slave().get(table, 3), 1);
            check.due(function + " to 0: count(4)", line.slave().count(4), 1);
        }
        for (int function = 1; function <= 4; function++) {
            Line line = new Line(9);
            line.send(asked(0, function));
            check.due(function + " to 0: count(3), it is not refused", line.slave().count(3), 0);
            check.due(function + " to 0: count(4)", line.slave().count(4), 1);
        }
    }

    private static void toAddressZeroTheRefusedAreNotDone(Check check) {
        check.sentence("if they are not refused, and nothing is sent");
        int[][] wrong = {
            {0, 5, 0, 3, 255, 1}, {0, 5, 1, 0, 255, 0}, {0, 6, 0, 64, 0, 1}, {0, 6, 0, 3, 0},
            {0, 15, 0, 3, 0, 1, 2, 1, 1}, {0, 15, 0, 255, 0, 2, 1, 3}, {0, 16, 0, 3, 0, 1, 1, 1},
            {0, 16, 0, 63, 0, 2, 4, 1, 1, 1, 1}, {0, 1, 0, 3, 0, 0}, {0, 3, 0, 64, 0, 1}, {0, 7},
        };
        Line line = new Line(9);
        for (int i = 0; i < wrong.length; i++) {
            line.send(wrong[i]);
            check.dueReply("wrong one " + i, line);
            check.due("wrong one " + i + ": count(3)", line.slave().count(3), i + 1);
        }
        check.due("count(4)", line.slave().count(4), 0);
        check.due("get(0, 3)", line.slave().get(0, 3), 0);
        check.due("get(0, 255)", line.slave().get(0, 255), 0);
        check.due("get(2, 3)", line.slave().get(2, 3), 0);
        check.due("get(2, 63)", line.slave().get(2, 63), 0);
    }

    private static void theAddressIsTheOwn(Check check) {
        check.sentence("the address");
        for (int own : new int[] {1, 128, 247}) {
            Line line = new Line(own);
            line.send(own, 6, 0, 0, 0, 1);
            check.dueReply("done", line, own, 6, 0, 0, 0, 1);
            line.send(own, 7);
            check.dueReply("refused", line, own, 135, 1);
        }
    }

    private static void bitSevenOfARefusal(Check check) {
        check.sentence("the function with bit 7 set (128 more, if it was not), and the number above");
        int[][] functions = {{0, 128}, {7, 135}, {127, 255}, {128, 128}, {129, 129}, {135, 135}, {254, 254}, {255, 255}};
        for (int[] pair : functions) {
            Line line = new Line(9);
            line.send(9, pair[0]);
            check.dueReply("function " + pair[0], line, 9, pair[1], 1);
        }
        Line line = new Line(9);
        line.send(9, 16);
        check.dueReply("function 16", line, 9, 144, 3);
        line.send(9, 1, 1, 0, 0, 1);
        check.dueReply("function 1", line, 9, 129, 2);
    }

    private static void howManyBytesOfBits(Check check) {
        check.sentence("for 1 and 2 (n + 7) / 8 and so many bytes");
        int[][] amounts = {{1, 1}, {7, 1}, {8, 1}, {9, 2}, {16, 2}, {17, 3}, {248, 31}, {249, 32}, {255, 32}, {256, 32}};
        for (int function = 1; function <= 2; function++) {
            for (int[] pair : amounts) {
                Line line = new Line(9);
                line.send(Line.request(function, 0, pair[0]));
                int[] head = {9, function, pair[1]};
                check.dueReply(pair[0] + " bits", line, Line.join(head, Line.many(pair[1], 0)));
            }
        }
    }

    private static void eachBitAtItsPlace(Check check) {
        check.sentence("place a + i is bit i modulo 8 of byte i / 8");
        for (int function = 1; function <= 2; function++) {
            for (int a : new int[] {0, 1, 239}) {
                for (int i : new int[] {0, 1, 7, 8, 15, 16}) {
                    Line line = new Line(9);
                    line.slave().set(function - 1, a + i, 1);
                    line.send(Line.request(function, a, 17));
                    int[] want = {9, function, 3, 0, 0, 0};
                    want[3 + i / 8] = 1 << i % 8;
                    check.dueReply("place " + a + " + " + i, line, want);
                }
            }
        }
    }

    private static void bitsThatAreLeftAreZero(Check check) {
        check.sentence("bits that are left are 0");
        for (int function = 1; function <= 2; function++) {
            Line line = new Line(9);
            for (int place = 0; place < 256; place++) {
                line.slave().set(function - 1, place, 1);
            }
            for (int n = 1; n <= 8; n++) {
                line.send(Line.request(function, 0, n));
                check.dueReply(n + " of many", line, 9, function, 1, (1 << n) - 1);
            }
            line.send(Line.request(function, 247, 9));
            check.dueReply("9 up to the last place", line, 9, function, 2, 255, 1);
        }
    }

    private static void numbersOfARead(Check check) {
        check.sentence("for 3 and 4 2 n and the n numbers");
        for (int function = 3; function <= 4; function++) {
            Line line = new Line(9);
            line.slave().set(function - 1, 0, 65535);
            line.slave().set(function - 1, 1, 255);
            line.slave().set(function - 1, 62, 256);
            line.slave().set(function - 1, 63, 32769);
            line.send(Line.request(function, 0, 1));
            check.dueReply("the first", line, 9, function, 2, 255, 255);
            line.send(Line.request(function, 0, 2));
            check.dueReply("the first two", line, 9, function, 4, 255, 255, 0, 255);
            line.send(Line.request(function, 62, 2));
            check.dueReply("the last two", line, 9, function, 4, 1, 0, 128, 1);
            line.send(Line.request(function, 0, 64));
            int[] all = Line.join(new int[] {9, function, 128, 255, 255, 0, 255}, Line.many(120, 0));
            check.dueReply("all", line, Line.join(all, 1, 0, 128, 1));
        }
    }

    private static void othersRepeatFourBytes(Check check) {
        check.sentence("for others data 0 to 3");
        Line line = new Line(9);
        line.send(9, 5, 0, 255, 255, 0);
        check.dueReply("5", line, 9, 5, 0, 255, 255, 0);
        line.send(9, 6, 0, 63, 254, 253);
        check.dueReply("6", line, 9, 6, 0, 63, 254, 253);
        line.send(Line.writing(15, 0, 256, Line.many(32, 170)));
        check.dueReply("15", line, 9, 15, 0, 0, 1, 0);
        line.send(Line.writing(16, 0, 64, Line.many(128, 170)));
        check.dueReply("16", line, 9, 16, 0, 0, 0, 64);
    }

    private static void theSumStandsBehind(Check check) {
        check.sentence("Behind that the check sum of all this, the lower 8 bits first.");
        WireSlave x = new WireSlave(9);
        int[] frame = Line.withSum(9, 7);
        for (int b : frame) {
            x.hear(b);
        }
        check.due("rest(14)", x.rest(14), 5);
        int sum = x.sum(3, 0x098701);
        check.due("reply(3)", x.reply(3), sum % 256);
        check.due("reply(4)", x.reply(4), sum / 256);
    }

    private static void byteIOfTheReply(Check check) {
        check.sentence("Byte i of the reply");
        Line line = new Line(9);
        line.slave().set(2, 63, 65535);
        line.send(Line.request(3, 0, 64));
        check.due("rest(14), the longest reply", line.answered(), 133);
        check.due("reply(0)", line.slave().reply(0), 9);
        check.due("reply(130), the last of the data", line.slave().reply(130), 255);
        int[] whole = Line.withSum(Line.join(Line.join(new int[] {9, 3, 128}, Line.many(126, 0)), 255, 255));
        check.due("reply(131)", line.slave().reply(131), whole[131]);
        check.due("reply(132), the last", line.slave().reply(132), whole[132]);
        check.due("reply(132) again", line.slave().reply(132), whole[132]);
    }

    private static void theFrameThatEndedLast(Check check) {
        check.sentence("to the frame that ended last");
        int[][] unanswered = {{9}, {9, 6, 0, 0, 0, 1, 0, 0}, Line.withSum(8, 7), Line.withSum(0, 7)};
        for (int[] next : unanswered) {
            Line line = new Line(9);
            line.send(9, 7);
            line.put(next);
            check.due("while the next is heard: reply(1)", line.slave().reply(1), 135);
            line.slave().rest(13);
            check.due("behind a gap of 13: reply(1)", line.slave().reply(1), 135);
            check.due("rest(1)", line.slave().rest(1), 0);
            check.due("behind a gap of 14: reply(0)", line.slave().reply(0), WireSlave.BAD);
            check.due("behind a gap of 14: reply(1)", line.slave().reply(1), WireSlave.BAD);
        }
        Line line = new Line(9);
        line.send(9, 7);
        line.slave().rest(1000);
        check.dueReply("the line stays quiet", line, 9, 135, 1);
        line.send(9, 6, 0, 0, 0, 1);
        check.dueReply("a longer one behind it", line, 9, 6, 0, 0, 0, 1);
        line.send(9, 8);
        check.dueReply("a shorter one behind that", line, 9, 136, 1);
    }

    private static void thereIsNone(Check check) {
        check.sentence("reply: BAD: there is none.");
        Line line = new Line(9);
        check.due("reply(0) of a new object", line.slave().reply(0), WireSlave.BAD);
        line.send(9, 7);
        for (int i : new int[] {-1, 5, 6, 255, 256, Integer.MIN_VALUE, Integer.MAX_VALUE}) {
            check.due("reply(" + i + ") of 5", line.slave().reply(i), WireSlave.BAD);
        }
        line.send(Line.request(4, 0, 64));
        for (int i : new int[] {-1, 133, 255, 256, Integer.MIN_VALUE, Integer.MAX_VALUE}) {
            check.due("reply(" + i + ") of 133", line.slave().reply(i), WireSlave.BAD);
        }
    }
}
