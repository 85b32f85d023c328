/** Promise 4, of requests: what is done and answered, and what is refused and why. */
public final class RequestTest {
    public static void main(String[] args) {
        Check check = new Check();
        publishedExamples(check);
        unknownFunctions(check);
        sizesOfData(check);
        amounts(check);
        amountsOfManyCoils(check);
        amountsOfManyRegisters(check);
        places(check);
        everySizeOfReadBits(check);
        readNumbers(check);
        writtenBits(check);
        writtenNumbers(check);
        refusedWritesDoNothing(check);
        toEveryone(check);
        check.finish();
    }

    /** The examples of the published description of each function, the places brought into the tables. */
    private static void publishedExamples(Check check) {
        Line line = new Line(9);
        line.send(Line.request(15, 0x13, 0x13, 3, 0xCD, 0x6B, 0x05));
        check.dueReply("write 19 coils", line, 9, 15, 0, 0x13, 0, 0x13);
        line.send(Line.request(1, 0x13, 0x13));
        check.dueReply("read 19 coils", line, 9, 1, 3, 0xCD, 0x6B, 0x05);
        int[] bits = {0xAC, 0xDB, 0x35};
        for (int i = 0; i < 22; i++) {
            line.slave().set(1, 0xC4 + i, bits[i / 8] >> i % 8 & 1);
        }
        line.send(Line.request(2, 0xC4, 0x16));
        check.dueReply("read 22 switches", line, 9, 2, 3, 0xAC, 0xDB, 0x35);
        line.send(Line.request(16, 1, 2, 4, 0x00, 0x0A, 0x01, 0x02));
        check.dueReply("write 2 registers", line, 9, 16, 0, 1, 0, 2);
        line.send(Line.request(3, 0, 3));
        check.dueReply("read 3 registers", line, 9, 3, 6, 0, 0, 0, 0x0A, 1, 2);
        line.slave().set(3, 8, 0x0A);
        line.send(Line.request(4, 8, 1));
        check.dueReply("read a meter", line, 9, 4, 2, 0, 0x0A);
        line.send(Line.request(5, 0xAC, 0xFF00));
        check.dueReply("write a coil", line, 9, 5, 0, 0xAC, 0xFF, 0);
        check.due("get(0, 0xAC)", line.slave().get(0, 0xAC), 1);
        line.send(Line.request(6, 1, 3));
        check.dueReply("write a register", line, 9, 6, 0, 1, 0, 3);
        check.due("get(2, 1)", line.slave().get(2, 1), 3);
    }

    private static boolean isKnown(int function) {
        return function >= 1 && function <= 6 || function == 15 || function == 16;
    }

    /** An unknown function is refused as such, whatever its data are. */
    private static void unknownFunctions(Check check) {
        for (int function = 0; function < 256; function++) {
            if (!isKnown(function)) {
                check.dueRefusal(1, 9, function);
                check.dueRefusal(1, Line.request(function, 0, 1));
                check.dueRefusal(1, Line.request(function, 999, 0, 7, 7));
            }
        }
    }

    private static void sizesOfData(Check check) {
        for (int function = 1; function <= 6; function++) {
            for (int size = 0; size < 12; size++) {
                int[] request = java.util.Arrays.copyOf(new int[] {9, function, 0, 0, 0, function == 5 ? 0 : 1}, 2 + size);
                if (size == 4) {
                    check.dueDone(function < 3 ? 6 : function < 5 ? 7 : 8, request);
                } else {
                    check.dueRefusal(3, request);
                }
            }
        }
        for (int function = 15; function <= 16; function++) {
            int due = function == 15 ? 1 : 2;
            for (int size = 0; size < 12; size++) {
                int[] request = java.util.Arrays.copyOf(new int[] {9, function, 0, 0, 0, 1, due}, 2 + size);
                if (size == 5 + due) {
                    check.dueDone(8, request);
                } else {
                    check.dueRefusal(3, request);
                }
            }
        }
        check.dueRefusal(3, Line.request(15, 0, 0, 0));
        check.dueRefusal(3, Line.request(16, 0, 0, 0));
        check.dueRefusal(3, Line.request(15, 0, 1, 2, 1, 1));
        check.dueRefusal(3, Line.request(15, 0, 9, 1, 1));
        check.dueRefusal(3, Line.request(16, 0, 1, 1, 1));
        check.dueRefusal(3, Line.request(16, 0, 1, 3, 1, 1, 1));
        check.dueRefusal(3, Line.request(16, 0, 1, 4, 1, 1, 1, 1));
        // A wrong size and a place that is not there: the size comes first.
        check.dueRefusal(3, 9, 3, 255, 255, 0);
        check.dueRefusal(3, Line.request(16, 999, 1, 2, 1));
    }

    /** A wrong amount is refused before a wrong place; a right one that is too much is a wrong place. */
    private static void amounts(Check check) {
        for (int function = 1; function <= 4; function++) {
            int most = function < 3 ? 2000 : 125;
            int places = function < 3 ? 256 : 64;
            for (int a : new int[] {0, 65535}) {
                check.dueRefusal(3, Line.request(function, a, 0));
                check.dueRefusal(3, Line.request(function, a, most + 1));
                check.dueRefusal(3, Line.request(function, a, 32768));
                check.dueRefusal(3, Line.request(function, a, 65535));
                check.dueRefusal(2, Line.request(function, a, most));
                check.dueRefusal(2, Line.request(function, a, places + 1));
            }
            check.dueDone(function < 3 ? 6 : 7, Line.request(function, 0, 1));
            check.dueDone(function < 3 ? 37 : 133, Line.request(function, 0, places));
        }
        for (int n : new int[] {1, 255, 256, 65279, 65281, 65535, 32768, 254 * 256}) {
            check.dueRefusal(3, Line.request(5, 0, n));
            check.dueRefusal(3, Line.request(5, 256, n));
        }
        for (int n : new int[] {0, 1, 255, 256, 32768, 65280, 65535}) {
            Line line = new Line(9);
            line.send(Line.request(6, 63, n));
            check.dueReply("6 with " + n, line, 9, 6, 0, 63, Line.high(n), Line.low(n));
            check.due("get(2, 63)", line.slave().get(2, 63), n);
        }
    }

    private static void amountsOfManyCoils(Check check) {
        for (int n = 1; n <= 256; n++) {
            int due = (n + 7) / 8;
            check.dueDone(8, Line.request(15, 0, n, Line.join(new int[] {due}, Line.many(due, 255))));
            check.dueRefusal(3, Line.request(15, 0, n, Line.join(new int[] {due + 1}, Line.many(due + 1, 255))));
            if (due > 1) {
                check.dueRefusal(3, Line.request(15, 0, n, Line.join(new int[] {due - 1}, Line.many(due - 1, 255))));
            }
        }
        check.dueRefusal(2, Line.request(15, 0, 257, Line.join(new int[] {33}, Line.many(33, 255))));
        check.dueRefusal(2, Line.request(15, 0, 1968, Line.join(new int[] {246}, Line.many(246, 255))));
        check.dueRefusal(3, Line.request(15, 0, 1969, Line.join(new int[] {247}, Line.many(247, 255))));
        check.dueRefusal(3, Line.request(15, 0, 0, Line.join(new int[] {1}, Line.many(1, 255))));
        // n + 7 over 8 comes round to the byte's own number only below 256 bytes.
        check.dueRefusal(3, Line.request(15, 0, 2056, Line.join(new int[] {1}, Line.many(1, 255))));
        check.dueRefusal(3, Line.request(15, 256, 1969, Line.join(new int[] {247}, Line.many(247, 255))));
    }

    private static void amountsOfManyRegisters(Check check) {
        for (int n = 1; n <= 64; n++) {
            check.dueDone(8, Line.request(16, 0, n, Line.join(new int[] {2 * n}, Line.many(2 * n, 255))));
            check.dueRefusal(3, Line.request(16, 0, n, Line.join(new int[] {2 * n + 1}, Line.many(2 * n + 1, 255))));
            check.dueRefusal(3, Line.request(16, 0, n, Line.join(new int[] {2 * n - 1}, Line.many(2 * n - 1, 255))));
            check.dueRefusal(3, Line.request(16, 0, n, Line.join(new int[] {n}, Line.many(n, 255))));
        }
        check.dueRefusal(2, Line.request(16, 0, 65, Line.join(new int[] {130}, Line.many(130, 255))));
        check.dueRefusal(2, Line.request(16, 0, 123, Line.join(new int[] {246}, Line.many(246, 255))));
        // The longest data that a frame can have: 124 numbers would fill 253 bytes, one too many.
        check.dueRefusal(3, Line.request(16, 0, 124, Line.join(new int[] {247}, Line.many(247, 255))));
        check.dueRefusal(3, Line.request(16, 0, 0, Line.join(new int[] {2}, Line.many(2, 255))));
        check.dueRefusal(3, Line.request(16, 0, 129, Line.join(new int[] {2}, Line.many(2, 255))));
    }

    private static void places(Check check) {
        for (int function : new int[] {1, 2, 3, 4}) {
            int places = function < 3 ? 256 : 64;
            int size = function < 3 ? 6 : 7;
            check.dueDone(size, Line.request(function, places - 1, 1));
            check.dueRefusal(2, Line.request(function, places, 1));
            check.dueRefusal(2, Line.request(function, places - 1, 2));
            check.dueRefusal(2, Line.request(function, 65535, 1));
            check.dueRefusal(2, Line.request(function, 1, places));
            check.dueRefusal(2, Line.request(function, 65535, 2));
            check.dueRefusal(2, Line.request(function, 256, 1));
            check.dueRefusal(2, Line.request(function, 32768, 1));
        }
        check.dueDone(8, Line.request(5, 255, 65280));
        check.dueRefusal(2, Line.request(5, 256, 65280));
        check.dueRefusal(2, Line.request(5, 256, 0));
        check.dueRefusal(2, Line.request(5, 65535, 0));
        check.dueDone(8, Line.request(6, 63, 65535));
        check.dueRefusal(2, Line.request(6, 64, 1));
        check.dueRefusal(2, Line.request(6, 255, 1));
        check.dueRefusal(2, Line.request(6, 65535, 1));
        check.dueDone(8, Line.request(15, 255, 1, 1, 1));
        check.dueDone(8, Line.request(15, 248, 8, 1, 255));
        check.dueRefusal(2, Line.request(15, 255, 2, 1, 3));
        check.dueRefusal(2, Line.request(15, 256, 1, 1, 1));
        check.dueRefusal(2, Line.request(15, 65535, 1, 1, 1));
        check.dueDone(8, Line.request(16, 63, 1, 2, 1, 1));
        check.dueRefusal(2, Line.request(16, 63, 2, 4, 1, 1, 1, 1));
        check.dueRefusal(2, Line.request(16, 64, 1, 2, 1, 1));
        check.dueRefusal(2, Line.request(16, 65535, 1, 2, 1, 1));
    }

    /** The bits that are left of the last byte are 0, though the places behind it are 1. */
    private static void everySizeOfReadBits(Check check) {
        for (int function = 1; function <= 2; function++) {
            for (int n = 1; n <= 40; n++) {
                Line line = new Line(9);
                for (int i = 0; i < 48; i++) {
                    line.slave().set(function - 1, 100 + i, i % 5 == 3 ? 0 : 1);
                }
                int[] want = new int[(n + 7) / 8];
                for (int i = 0; i < n; i++) {
                    want[i / 8] |= (i % 5 == 3 ? 0 : 1) << i % 8;
                }
                line.send(Line.request(function, 100, n));
                check.dueReply("read " + n + " bits", line, Line.join(new int[] {9, function, want.length}, want));
            }
        }
    }

    private static void readNumbers(Check check) {
        for (int function = 3; function <= 4; function++) {
            Line line = new Line(9);
            int[] want = new int[128];
            for (int i = 0; i < 64; i++) {
                int v = 65535 - 997 * i;
                line.slave().set(function - 1, i, v);
                want[2 * i] = Line.high(v);
                want[2 * i + 1] = Line.low(v);
            }
            line.send(Line.request(function, 0, 64));
            check.dueReply("read all by " + function, line, Line.join(new int[] {9, function, 128}, want));
            line.send(Line.request(function, 62, 2));
            check.dueReply("read the last two by " + function, line,
                    9, function, 4, want[124], want[125], want[126], want[127]);
        }
    }

    /** Bits behind the n-th are not written, nor are the coils around the n. */
    private static void writtenBits(Check check) {
        for (int n = 1; n <= 20; n++) {
            for (int around = 0; around < 2; around++) {
                Line line = new Line(9);
                for (int i = 0; i < 40; i++) {
                    line.slave().set(0, i, around);
                }
                int bytes = (n + 7) / 8;
                int[] written = {0b10110010, 0b01011101, 0b11100110};
                line.send(Line.request(15, 10, n, Line.join(new int[] {bytes}, java.util.Arrays.copyOf(written, bytes))));
                check.dueReply("write " + n + " coils", line, 9, 15, 0, 10, 0, n);
                for (int i = 0; i < 40; i++) {
                    int k = i - 10;
                    boolean isWritten = k >= 0 && k < n;
                    int want = isWritten ? written[k / 8] >> k % 8 & 1 : around;
                    check.due("write " + n + " coils: get(0, " + i + ")", line.slave().get(0, i), want);
                }
            }
        }
        Line line = new Line(9);
        line.send(Line.request(5, 7, 65280));
        check.due("5 sets: get(0, 7)", line.slave().get(0, 7), 1);
        check.due("5 sets: get(0, 6)", line.slave().get(0, 6), 0);
        check.due("5 sets: get(1, 7)", line.slave().get(1, 7), 0);
        line.send(Line.request(5, 7, 0));
        check.dueReply("5 clears", line, 9, 5, 0, 7, 0, 0);
        check.due("5 clears: get(0, 7)", line.slave().get(0, 7), 0);
    }

    private static void writtenNumbers(Check check) {
        Line line = new Line(9);
        int[] bytes = new int[128];
        for (int i = 0; i < 128; i++) {
            bytes[i] = 255 - i;
        }
        line.send(Line.request(16, 0, 64, Line.join(new int[] {128}, bytes)));
        check.dueReply("write all registers", line, 9, 16, 0, 0, 0, 64);
        for (int i = 0; i < 64; i++) {
            check.due("get(2, " + i + ")", line.slave().get(2, i), bytes[2 * i] * 256 + bytes[2 * i + 1]);
            check.due("get(3, " + i + ")", line.slave().get(3, i), 0);
        }
        line.send(Line.request(16, 30, 2, 4, 0, 1, 2, 3));
        check.due("get(2, 29)", line.slave().get(2, 29), bytes[58] * 256 + bytes[59]);
        check.due("get(2, 30)", line.slave().get(2, 30), 1);
        check.due("get(2, 31)", line.slave().get(2, 31), 515);
        check.due("get(2, 32)", line.slave().get(2, 32), bytes[64] * 256 + bytes[65]);
    }

    private static void refusedWritesDoNothing(Check check) {
        Line line = new Line(9);
        line.send(Line.request(15, 254, 3, 1, 7));
        line.send(Line.request(15, 250, 2, 2, 3, 3));
        line.send(Line.request(16, 63, 2, 4, 1, 1, 1, 1));
        line.send(Line.request(5, 250, 1));
        line.send(Line.request(6, 63, 1, 1));
        check.due("count(3)", line.slave().count(3), 5);
        for (int i = 248; i < 256; i++) {
            check.due("get(0, " + i + ")", line.slave().get(0, i), 0);
        }
        check.due("get(2, 63)", line.slave().get(2, 63), 0);
    }

    private static void toEveryone(Check check) {
        Line line = new Line(9);
        line.send(0, 5, 0, 3, 255, 0);
        check.dueReply("5 to all", line);
        line.send(0, 6, 0, 3, 1, 2);
        check.dueReply("6 to all", line);
        line.send(0, 15, 0, 8, 0, 9, 2, 255, 255);
        check.dueReply("15 to all", line);
        line.send(0, 16, 0, 8, 0, 1, 2, 3, 4);
        check.dueReply("16 to all", line);
        check.due("get(0, 3)", line.slave().get(0, 3), 1);
        check.due("get(2, 3)", line.slave().get(2, 3), 258);
        check.due("get(0, 8)", line.slave().get(0, 8), 1);
        check.due("get(0, 16)", line.slave().get(0, 16), 1);
        check.due("get(0, 17)", line.slave().get(0, 17), 0);
        check.due("get(2, 8)", line.slave().get(2, 8), 772);
        line.send(0, 5, 0, 4, 255, 1);
        line.send(0, 15, 0, 255, 0, 2, 1, 3);
        check.due("refused to all: get(0, 4)", line.slave().get(0, 4), 0);
        check.due("refused to all: get(0, 255)", line.slave().get(0, 255), 0);
        for (int function = 1; function <= 4; function++) {
            line.send(0, function, 0, 0, 0, 1);
            check.dueReply(function + " to all", line);
        }
        check.due("count(4)", line.slave().count(4), 8);
        check.due("count(5)", line.slave().count(5), 0);
    }
}
