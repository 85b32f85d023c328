/** The boundary cases of what the document says is DONE: a test for each clause. */
public final class BoundsOfDoingTest {
    public static void main(String[] args) {
        Check check = new Check();
        oneCoil(check);
        oneRegister(check);
        manyCoils(check);
        bitsThatAreLeft(check);
        manyRegisters(check);
        readsChangeNothing(check);
        check.finish();
    }

    private static void oneCoil(Check check) {
        check.sentence("5 sets coil a to 1, if n is not 0, else to 0");
        for (int a : new int[] {0, 255}) {
            Line line = new Line(9);
            line.send(Line.request(5, a, 65280));
            check.due("on: get(0, " + a + ")", line.slave().get(0, a), 1);
            check.due("on: the other end", line.slave().get(0, 255 - a), 0);
            check.due("on: get(1, " + a + ")", line.slave().get(1, a), 0);
            line.send(Line.request(5, a, 65280));
            check.due("on again: get(0, " + a + ")", line.slave().get(0, a), 1);
            line.send(Line.request(5, a, 0));
            check.due("off: get(0, " + a + ")", line.slave().get(0, a), 0);
            line.send(Line.request(5, a, 0));
            check.due("off again: get(0, " + a + ")", line.slave().get(0, a), 0);
        }
    }

    private static void oneRegister(Check check) {
        check.sentence("6 register a to n");
        for (int a : new int[] {0, 63}) {
            Line line = new Line(9);
            for (int n : new int[] {65535, 0, 255, 256, 32768, 1}) {
                line.send(Line.request(6, a, n));
                check.due("get(2, " + a + ")", line.slave().get(2, a), n);
            }
            check.due("the other end", line.slave().get(2, 63 - a), 0);
            check.due("get(3, " + a + ")", line.slave().get(3, a), 0);
        }
    }

    /** Each coil but one is written as 1, so that a bit at a wrong place is seen. */
    private static void manyCoils(Check check) {
        check.sentence("15 coil a + i to bit i modulo 8 of data 5 + i / 8");
        for (int n : new int[] {1, 7, 8, 9, 16, 17, 256}) {
            for (int a : new int[] {0, 256 - n}) {
                for (int zero : new int[] {0, n / 2, n - 1}) {
                    Line line = new Line(9);
                    int[] bytes = Line.many((n + 7) / 8, 255);
                    bytes[zero / 8] -= 1 << zero % 8;
                    line.send(Line.writing(15, a, n, bytes));
                    dueCoils(check, n + " from " + a + " without " + zero, line, a, n, zero);
                }
            }
        }
    }

    private static void dueCoils(Check check, String what, Line line, int a, int n, int zero) {
        for (int place = 0; place < 256; place++) {
            boolean isSet = place >= a && place < a + n && place != a + zero;
            check.due(what + ": get(0, " + place + ")", line.slave().get(0, place), isSet ? 1 : 0);
        }
    }

    private static void bitsThatAreLeft(Check check) {
        check.sentence("15: the places a to a + n - 1, and no others");
        for (int n : new int[] {1, 7, 9, 15}) {
            for (int around = 0; around <= 1; around++) {
                Line line = new Line(9);
                for (int place = 100; place < 120; place++) {
                    line.slave().set(0, place, around);
                }
                line.send(Line.writing(15, 101, n, Line.many((n + 7) / 8, around == 0 ? 255 : 0)));
                check.due(n + ": the place before", line.slave().get(0, 100), around);
                check.due(n + ": the first", line.slave().get(0, 101), 1 - around);
                check.due(n + ": the last", line.slave().get(0, 100 + n), 1 - around);
                check.due(n + ": the place behind", line.slave().get(0, 101 + n), around);
            }
        }
    }

    private static void manyRegisters(Check check) {
        check.sentence("16 register a + i to the number in data 5 + 2 i");
        for (int n : new int[] {1, 2, 63, 64}) {
            for (int a : new int[] {0, 64 - n}) {
                Line line = new Line(9);
                int[] bytes = new int[2 * n];
                for (int i = 0; i < bytes.length; i++) {
                    bytes[i] = 255 - i;
                }
                line.send(Line.writing(16, a, n, bytes));
                for (int place = 0; place < 64; place++) {
                    int i = place - a;
                    int want = i < 0 || i >= n ? 0 : bytes[2 * i] * 256 + bytes[2 * i + 1];
                    check.due(n + " from " + a + ": get(2, " + place + ")", line.slave().get(2, place), want);
                }
            }
        }
    }

    private static void readsChangeNothing(Check check) {
        check.sentence("What is not refused is DONE: 1 to 4 change nothing");
        for (int to : new int[] {0, 9}) {
            Line line = new Line(9);
            for (int table = 0; table < 4; table++) {
                line.slave().set(table, 0, 1);
            }
            for (int function = 1; function <= 4; function++) {
                line.send(to, function, 0, 0, 0, 2);
            }
            for (int table = 0; table < 4; table++) {
                check.due("to " + to + ": get(" + table + ", 0)", line.slave().get(table, 0), 1);
                check.due("to " + to + ": get(" + table + ", 1)", line.slave().get(table, 1), 0);
            }
        }
    }
}
