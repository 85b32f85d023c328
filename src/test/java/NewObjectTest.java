/** Promise 1: the slave's own address, and a line that is quiet. */
public final class NewObjectTest {
    public static void main(String[] args) {
        Check check = new Check();
        ownAddress(check, 1, 1);
        ownAddress(check, 2, 2);
        ownAddress(check, 17, 17);
        ownAddress(check, 246, 246);
        ownAddress(check, 247, 247);
        ownAddress(check, 0, 1);
        ownAddress(check, -1, 1);
        ownAddress(check, Integer.MIN_VALUE, 1);
        ownAddress(check, 248, 247);
        ownAddress(check, 255, 247);
        ownAddress(check, 256 + 9, 247);
        ownAddress(check, Integer.MAX_VALUE, 247);
        allIsEmpty(check);
        theLineIsQuiet(check);
        objectsAreApart(check);
        check.finish();
    }

    private static void ownAddress(Check check, int given, int own) {
        for (int to = Math.max(1, own - 1); to <= Math.min(255, own + 1); to++) {
            Line line = new Line(given);
            line.send(to, 6, 0, 3, 1, 2);
            String what = "new WireSlave(" + given + "), a request to " + to;
            if (to == own) {
                check.dueReply(what, line, own, 6, 0, 3, 1, 2);
            } else {
                check.dueReply(what, line);
                check.due(what + ": count(2)", line.slave().count(2), 1);
            }
        }
    }

    private static void allIsEmpty(Check check) {
        for (int table = 0; table < 4; table++) {
            WireSlave x = new WireSlave(9);
            int places = table < 2 ? 256 : 64;
            for (int place = 0; place < places; place++) {
                check.due("get(" + table + ", " + place + ") at first", x.get(table, place), 0);
            }
        }
        WireSlave x = new WireSlave(9);
        for (int which = 0; which < 6; which++) {
            check.due("count(" + which + ") at first", x.count(which), 0);
        }
        check.due("reply(0) at first", x.reply(0), WireSlave.BAD);
    }

    private static void theLineIsQuiet(Check check) {
        for (int silence : new int[] {0, 1, 7, 13, 14, 1000}) {
            Line line = new Line(9);
            check.due("rest(" + silence + ") at first", line.slave().rest(silence), WireSlave.WAITING);
            check.due("count(0) behind it", line.slave().count(0), 0);
            line.send(9, 6, 0, 0, 0, 5);
            check.dueReply("a frame behind it", line, 9, 6, 0, 0, 0, 5);
        }
    }

    private static void objectsAreApart(Check check) {
        WireSlave x = new WireSlave(9);
        WireSlave y = new WireSlave(9);
        x.set(0, 0, 1);
        x.hear(9);
        x.rest(14);
        check.due("another's get(0, 0)", y.get(0, 0), 0);
        check.due("another's count(0)", y.count(0), 0);
    }
}
