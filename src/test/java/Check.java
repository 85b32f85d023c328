/** Compares answers with those that are due, tells the wrong ones, and ends the test. */
final class Check {
    private int wrong = 0;
    private int made = 0;

    void due(String what, long got, long want) {
        made++;
        if (got != want) {
            wrong++;
            System.out.println(what + " answered " + got + ", due is " + want);
        }
    }

    void due(String what, boolean got) {
        due(what, got ? 1 : 0, 1);
    }

    /** The whole reply, byte for byte, with its check sum; no bytes mean that there is none. */
    void dueReply(String what, Line line, int... body) {
        int[] want = body.length == 0 ? body : Line.withSum(body);
        due(what + ": size", line.answered(), want.length);
        for (int i = 0; i < want.length; i++) {
            due(what + ": reply(" + i + ")", line.slave().reply(i), want[i]);
        }
        due(what + ": reply(" + want.length + ")", line.slave().reply(want.length), WireSlave.BAD);
    }

    void finish() {
        if (made == 0) {
            System.out.println("nothing was checked");
        }
        if (wrong != 0 || made == 0) {
            System.exit(1);
        }
    }
}
