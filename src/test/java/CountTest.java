/** Promise 8: how many frames ended, and how. */
public final class CountTest {
    public static void main(String[] args) {
        Check check = new Check();
        eachKind(check);
        wrongNumbers(check);
        aFrameThatHasNotEnded(check);
        check.finish();
    }

    private static void dueCounts(Check check, String what, Line line, int... want) {
        for (int which = 0; which < 6; which++) {
            check.due(what + ": count(" + which + ")", line.slave().count(which), want[which]);
        }
    }

    private static void eachKind(Check check) {
        Line line = new Line(9);
        line.sendRaw(9, 3, 0);
        dueCounts(check, "too short", line, 1, 1, 0, 0, 0, 0);
        line.sendRaw(9, 3, 0, 0, 0, 1, 0, 0);
        dueCounts(check, "a wrong check sum", line, 2, 2, 0, 0, 0, 0);
        line.send(8, 3, 0, 0, 0, 1);
        dueCounts(check, "for another", line, 3, 2, 1, 0, 0, 0);
        line.send(8, 99);
        dueCounts(check, "a wrong one for another", line, 4, 2, 2, 0, 0, 0);
        line.send(9, 3, 0, 0, 0, 1);
        dueCounts(check, "a read", line, 5, 2, 2, 0, 1, 1);
        line.send(9, 6, 0, 0, 0, 1);
        dueCounts(check, "a write", line, 6, 2, 2, 0, 2, 2);
        line.send(9, 3, 0, 64, 0, 1);
        dueCounts(check, "a refused one", line, 7, 2, 2, 1, 2, 3);
        line.send(0, 6, 0, 0, 0, 1);
        dueCounts(check, "a write to all", line, 8, 2, 2, 1, 3, 3);
        line.send(0, 3, 0, 0, 0, 1);
        dueCounts(check, "a read to all", line, 9, 2, 2, 1, 4, 3);
        line.send(0, 6, 0, 64, 0, 1);
        dueCounts(check, "a refused write to all", line, 10, 2, 2, 2, 4, 3);
        line.send(0, 7);
        dueCounts(check, "an unknown function to all", line, 11, 2, 2, 3, 4, 3);
        line.put(Line.withSum(9, 6, 0, 0, 0));
        line.slave().rest(7);
        line.sendRaw(1);
        dueCounts(check, "a spoilt one", line, 12, 3, 2, 3, 4, 3);
    }

    private static void wrongNumbers(Check check) {
        WireSlave x = new WireSlave(9);
        for (int which : new int[] {-1, 6, 7, 256, Integer.MIN_VALUE, Integer.MAX_VALUE}) {
            check.due("count(" + which + ")", x.count(which), WireSlave.BAD);
        }
    }

    private static void aFrameThatHasNotEnded(Check check) {
        Line line = new Line(9);
        line.put(Line.withSum(9, 6, 0, 0, 0, 1));
        line.slave().rest(13);
        dueCounts(check, "behind a gap of 13", line, 0, 0, 0, 0, 0, 0);
        line.slave().rest(1);
        dueCounts(check, "behind a gap of 14", line, 1, 0, 0, 0, 1, 1);
        line.slave().rest(1000);
        dueCounts(check, "behind a longer one", line, 1, 0, 0, 0, 1, 1);
    }
}
