/** Compares answers with those that are due, tells the wrong ones, and ends the test. */
final class Check {
    private int wrong = 0;
    private int made = 0;
    private String about = "";

    /** The document's words that the answers from here on are due by. */
    void sentence(String words) {
        about = "'" + words + "': ";
    }

    void due(String what, long got, long want) {
        made++;
        if (got != want) {
            wrong++;
            System.out.println(about + what + " answered " + got + ", due is " + want);
        }
    }

    void due(String what, boolean got) {
        due(what, got ? 1 : 0, 1);
    }

    /** The whole reply, byte for byte, with its check sum; no bytes mean that there is none. */
    void dueReply(String what, Line line, int... body) {
        int[] want = body.length == 0 ? body : Line.withSum(body);
        due(what + ": size", line.answered(), want.length);
        for (int i = 0; i < want.length; i++) {
            due(what + ": reply(" + i + ")", line.slave().reply(i), want[i]);
        }
        due(what + ": reply(" + want.length + ")", line.slave().reply(want.length), WireSlave.BAD);
    }

    /** A new slave 9 refuses the request for this number. */
    void dueRefusal(int number, int... request) {
        Line line = new Line(9);
        line.send(request);
        String what = "refusal of " + told(request);
        dueReply(what, line, 9, request[1] | 128, number);
        due(what + ": count(3)", line.slave().count(3), 1);
        due(what + ": count(4)", line.slave().count(4), 0);
    }

    /** A new slave 9 does what the request asks, with a reply of this size. */
    void dueDone(int size, int... request) {
        Line line = new Line(9);
        line.send(request);
        String what = "done " + told(request);
        due(what, line.answered(), size);
        due(what + ": reply(1)", line.slave().reply(1), request[1]);
        due(what + ": count(3)", line.slave().count(3), 0);
        due(what + ": count(4)", line.slave().count(4), 1);
    }

    private static String told(int[] request) {
        String all = java.util.Arrays.toString(java.util.Arrays.copyOf(request, Math.min(8, request.length)));
        return request.length > 8 ? all + " of " + request.length : all;
    }

    void finish() {
        if (made == 0) {
            System.out.println("nothing was checked");
        }
        if (wrong != 0 || made == 0) {
            System.exit(1);
        }
    }
}
