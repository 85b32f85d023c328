/** The boundary cases of the document's list of refusals: a test for each of its clauses. */
public final class BoundsOfRefusalsTest {
    public static void main(String[] args) {
        Check check = new Check();
        functions(check);
        fourBytesOfData(check);
        fewerThanSixBytesOfData(check);
        theNumberThatTheFifthTells(check);
        amountsOf1And2(check);
        amountsOf3And4(check);
        valuesOf5(check);
        valuesOf6(check);
        amountsOf15(check);
        theFifthOf15(check);
        amountsOf16(check);
        theFifthOf16(check);
        placesOfReads(check);
        placesOf5And6(check);
        placesOf15(check);
        placesOf16(check);
        placesDoNotWrapAround(check);
        eachFunctionHasItsTable(check);
        whatIsRefusedIsNotDone(check);
        check.finish();
    }

    private static void functions(Check check) {
        check.sentence("1 the function is none of 1 to 6, 15, 16.");
        for (int function : new int[] {0, 7, 8, 14, 17, 127, 128, 129, 134, 143, 144, 255}) {
            check.dueRefusal(1, Line.request(function, 0, 1));
        }
        for (int function = 1; function <= 6; function++) {
            check.dueDone(function < 3 ? 6 : function < 5 ? 7 : 8, Line.request(function, 0, function == 5 ? 0 : 1));
        }
        check.dueDone(8, Line.writing(15, 0, 1, 1));
        check.dueDone(8, Line.writing(16, 0, 1, 1, 1));
    }

    private static void fourBytesOfData(Check check) {
        check.sentence("3 it is 1 to 6, and the data have not 4 bytes");
        for (int function = 1; function <= 6; function++) {
            int[] good = Line.request(function, 0, function == 5 ? 0 : 1);
            for (int size : new int[] {0, 1, 3, 5, 6, 252}) {
                check.dueRefusal(3, java.util.Arrays.copyOf(good, 2 + size));
            }
            check.dueDone(function < 3 ? 6 : function < 5 ? 7 : 8, good);
        }
    }

    private static void fewerThanSixBytesOfData(Check check) {
        check.sentence("or 15 or 16, and they have fewer than 6");
        for (int function = 15; function <= 16; function++) {
            for (int size = 0; size <= 5; size++) {
                check.dueRefusal(3, java.util.Arrays.copyOf(Line.request(function, 0, 1, 0), 2 + size));
            }
            // The fifth one tells the truth, and so does n, of no byte at all.
            check.dueRefusal(3, Line.request(function, 0, 0, 0));
        }
        check.dueDone(8, Line.request(15, 0, 1, 1, 1));
    }

    private static void theNumberThatTheFifthTells(Check check) {
        check.sentence("or more or less than the 5 and the number that the fifth one tells");
        check.dueRefusal(3, Line.request(15, 0, 16, 2, 1));
        check.dueDone(8, Line.request(15, 0, 16, 2, 1, 1));
        check.dueRefusal(3, Line.request(15, 0, 16, 2, 1, 1, 1));
        check.dueRefusal(3, Line.request(16, 0, 1, 2, 1));
        check.dueDone(8, Line.request(16, 0, 1, 2, 1, 1));
        check.dueRefusal(3, Line.request(16, 0, 1, 2, 1, 1, 1));
        check.dueRefusal(3, Line.request(15, 0, 1, 0, 1));
        check.dueRefusal(3, Line.request(15, 0, 1, 255, 1));
        check.dueRefusal(3, Line.join(Line.request(15, 0, 1, 1), Line.many(247, 1)));
        check.dueRefusal(3, Line.join(Line.request(16, 0, 1, 2), Line.many(247, 1)));
    }

    private static void amountsOf1And2(Check check) {
        check.sentence("for 1 and 2 it is not 1 .. 2,000");
        for (int function = 1; function <= 2; function++) {
            check.dueRefusal(3, Line.request(function, 0, 0));
            check.dueDone(6, Line.request(function, 0, 1));
            check.dueRefusal(2, Line.request(function, 0, 2000));
            check.dueRefusal(3, Line.request(function, 0, 2001));
            check.dueRefusal(3, Line.request(function, 0, 32768));
            check.dueRefusal(3, Line.request(function, 0, 65535));
        }
    }

    private static void amountsOf3And4(Check check) {
        check.sentence("for 3 and 4 not 1 .. 125");
        for (int function = 3; function <= 4; function++) {
            check.dueRefusal(3, Line.request(function, 0, 0));
            check.dueDone(7, Line.request(function, 0, 1));
            check.dueRefusal(2, Line.request(function, 0, 125));
            check.dueRefusal(3, Line.request(function, 0, 126));
            check.dueRefusal(3, Line.request(function, 0, 256));
            check.dueRefusal(3, Line.request(function, 0, 257));
            check.dueRefusal(3, Line.request(function, 0, 65535));
        }
    }

    private static void valuesOf5(Check check) {
        check.sentence("for 5 it is neither 0 nor 65,280");
        check.dueDone(8, Line.request(5, 0, 0));
        check.dueDone(8, Line.request(5, 0, 65280));
        for (int n : new int[] {1, 255, 256, 32768, 65279, 65281, 65535}) {
            check.dueRefusal(3, Line.request(5, 0, n));
        }
    }

    private static void valuesOf6(Check check) {
        check.sentence("3 of the second number n: nothing is told for 6");
        for (int n : new int[] {0, 1, 126, 2001, 32768, 65280, 65535}) {
            check.dueDone(8, Line.request(6, 0, n));
        }
    }

    private static void amountsOf15(Check check) {
        check.sentence("for 15 it is not 1 .. 1,968");
        check.dueRefusal(3, Line.writing(15, 0, 0, 1));
        check.dueDone(8, Line.writing(15, 0, 1, 1));
        check.dueRefusal(2, Line.writing(15, 0, 1968, Line.many(246, 1)));
        // 247 are the bytes for 1,969 to 1,976, and the most that a frame can hold.
        check.dueRefusal(3, Line.writing(15, 0, 1969, Line.many(247, 1)));
        check.dueRefusal(3, Line.writing(15, 0, 1976, Line.many(247, 1)));
        check.dueRefusal(3, Line.writing(15, 0, 65535, Line.many(247, 1)));
    }

    private static void theFifthOf15(Check check) {
        check.sentence("or the fifth one is not (n + 7) / 8");
        for (int n : new int[] {1, 7, 8, 9, 15, 16, 17, 248, 249, 255, 256}) {
            int due = n % 8 == 0 ? n / 8 : n / 8 + 1;
            check.dueDone(8, Line.writing(15, 0, n, Line.many(due, 1)));
            check.dueRefusal(3, Line.writing(15, 0, n, Line.many(due + 1, 1)));
            if (due > 1) {
                check.dueRefusal(3, Line.writing(15, 0, n, Line.many(due - 1, 1)));
            }
        }
    }

    private static void amountsOf16(Check check) {
        check.sentence("for 16 not 1 .. 123");
        check.dueRefusal(3, Line.writing(16, 0, 0, 1, 1));
        check.dueDone(8, Line.writing(16, 0, 1, 1, 1));
        check.dueRefusal(2, Line.writing(16, 0, 123, Line.many(246, 1)));
        // The 248 bytes of 124 numbers make a frame of 257; what fits is told wrong by the fifth.
        check.dueRefusal(3, Line.writing(16, 0, 124, Line.many(247, 1)));
        check.dueRefusal(3, Line.writing(16, 0, 124, Line.many(246, 1)));
        check.dueRefusal(3, Line.writing(16, 0, 65535, Line.many(246, 1)));
        Line line = new Line(9);
        line.send(Line.writing(16, 0, 124, Line.many(248, 1)));
        check.dueReply("124 with all their bytes", line);
        check.due("124 with all their bytes: count(1)", line.slave().count(1), 1);
    }

    private static void theFifthOf16(Check check) {
        check.sentence("or the fifth one is not 2 n");
        for (int n : new int[] {1, 2, 32, 63, 64}) {
            check.dueRefusal(3, Line.writing(16, 0, n, Line.many(n, 1)));
            check.dueRefusal(3, Line.writing(16, 0, n, Line.many(2 * n - 1, 1)));
            check.dueDone(8, Line.writing(16, 0, n, Line.many(2 * n, 1)));
            check.dueRefusal(3, Line.writing(16, 0, n, Line.many(2 * n + 1, 1)));
        }
        // Twice 129 is 2 in the lowest eight bits alone.
        check.dueRefusal(3, Line.writing(16, 0, 129, 1, 1));
    }

    private static void placesOfReads(Check check) {
        check.sentence("2 one of the places a to a + n - 1 is none of the table, for 1 to 4");
        for (int function = 1; function <= 4; function++) {
            int places = function < 3 ? 256 : 64;
            int one = function < 3 ? 6 : 7;
            check.dueDone(one, Line.request(function, 0, 1));
            check.dueDone(one, Line.request(function, places - 1, 1));
            check.dueRefusal(2, Line.request(function, places, 1));
            check.dueRefusal(2, Line.request(function, places - 1, 2));
            check.dueDone(function < 3 ? 37 : 133, Line.request(function, 0, places));
            check.dueRefusal(2, Line.request(function, 0, places + 1));
            check.dueRefusal(2, Line.request(function, 1, places));
            check.dueDone(function < 3 ? 37 : 131, Line.request(function, 1, places - 1));
        }
    }

    private static void placesOf5And6(Check check) {
        check.sentence("(of 5 and 6: a)");
        for (int n : new int[] {0, 65280}) {
            check.dueDone(8, Line.request(5, 0, n));
            check.dueDone(8, Line.request(5, 255, n));
            check.dueRefusal(2, Line.request(5, 256, n));
            check.dueRefusal(2, Line.request(5, 65535, n));
        }
        for (int n : new int[] {0, 1, 65535}) {
            check.dueDone(8, Line.request(6, 0, n));
            check.dueDone(8, Line.request(6, 63, n));
            check.dueRefusal(2, Line.request(6, 64, n));
            check.dueRefusal(2, Line.request(6, 65535, n));
        }
    }

    private static void placesOf15(Check check) {
        check.sentence("2 one of the places a to a + n - 1 is none of the table, for 15");
        check.dueDone(8, Line.writing(15, 255, 1, 1));
        check.dueRefusal(2, Line.writing(15, 256, 1, 1));
        check.dueRefusal(2, Line.writing(15, 255, 2, 1));
        check.dueDone(8, Line.writing(15, 248, 8, 1));
        check.dueRefusal(2, Line.writing(15, 249, 8, 1));
        check.dueDone(8, Line.writing(15, 0, 256, Line.many(32, 1)));
        check.dueRefusal(2, Line.writing(15, 0, 257, Line.many(33, 1)));
        check.dueRefusal(2, Line.writing(15, 1, 256, Line.many(32, 1)));
    }

    private static void placesOf16(Check check) {
        check.sentence("2 one of the places a to a + n - 1 is none of the table, for 16");
        check.dueDone(8, Line.writing(16, 63, 1, 1, 1));
        check.dueRefusal(2, Line.writing(16, 64, 1, 1, 1));
        check.dueRefusal(2, Line.writing(16, 63, 2, 1, 1, 1, 1));
        check.dueDone(8, Line.writing(16, 0, 64, Line.many(128, 1)));
        check.dueRefusal(2, Line.writing(16, 0, 65, Line.many(130, 1)));
        check.dueRefusal(2, Line.writing(16, 1, 64, Line.many(128, 1)));
    }

    private static void placesDoNotWrapAround(Check check) {
        check.sentence("2 the first number a (data 0 and 1)");
        for (int a : new int[] {256, 32768, 65280, 65535}) {
            for (int function = 1; function <= 4; function++) {
                check.dueRefusal(2, Line.request(function, a, 1));
                check.dueRefusal(2, Line.request(function, a, 2));
                check.dueRefusal(2, Line.request(function, a, 125));
            }
            check.dueRefusal(2, Line.writing(15, a, 2, 1));
            check.dueRefusal(2, Line.writing(16, a, 2, 1, 1, 1, 1));
        }
    }

    /** The places that only the longer tables have. */
    private static void eachFunctionHasItsTable(Check check) {
        check.sentence("coils for 1, 5, 15, switches for 2, registers for 3, 6, 16, meters for 4");
        for (int place : new int[] {64, 255}) {
            check.dueDone(6, Line.request(1, place, 1));
            check.dueDone(6, Line.request(2, place, 1));
            check.dueRefusal(2, Line.request(3, place, 1));
            check.dueRefusal(2, Line.request(4, place, 1));
            check.dueDone(8, Line.request(5, place, 65280));
            check.dueRefusal(2, Line.request(6, place, 1));
            check.dueDone(8, Line.writing(15, place, 1, 1));
            check.dueRefusal(2, Line.writing(16, place, 1, 1, 1));
        }
        for (int function = 1; function <= 4; function++) {
            Line line = new Line(9);
            line.slave().set(function - 1, 7, 1);
            line.send(Line.request(function, 7, 1));
            check.due(function + " reads its own: reply", line.slave().reply(function < 3 ? 3 : 4), 1);
            Line other = new Line(9);
            for (int table = 0; table < 4; table++) {
                other.slave().set(table, 7, table == function - 1 ? 0 : 1);
            }
            other.send(Line.request(function, 7, 1));
            check.due(function + " reads no other: reply", other.slave().reply(function < 3 ? 3 : 4), 0);
        }
    }

    private static void whatIsRefusedIsNotDone(Check check) {
        check.sentence("What is not refused is DONE");
        Line line = new Line(9);
        line.send(Line.request(5, 255, 65281));
        line.send(Line.request(5, 255, 255));
        line.send(Line.request(6, 63, 258, 0));
        line.send(Line.writing(15, 254, 3, 7));
        line.send(Line.writing(15, 255, 1, 1, 1));
        line.send(Line.writing(16, 63, 2, 1, 1, 1, 1));
        line.send(Line.writing(16, 63, 1, 1, 1, 1));
        check.due("count(3)", line.slave().count(3), 7);
        check.due("count(4)", line.slave().count(4), 0);
        check.due("get(0, 254)", line.slave().get(0, 254), 0);
        check.due("get(0, 255)", line.slave().get(0, 255), 0);
        check.due("get(2, 63)", line.slave().get(2, 63), 0);
    }
}
