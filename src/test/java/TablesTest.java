/** Promises 6 and 7: set and get. */
public final class TablesTest {
    private static final int[] PLACES = {256, 256, 64, 64};
    private static final int[] MOST = {1, 1, 65535, 65535};

    public static void main(String[] args) {
        Check check = new Check();
        for (int table = 0; table < 4; table++) {
            everyPlace(check, table);
            wrongPlaces(check, table);
            wrongValues(check, table);
            tablesAreApart(check, table);
        }
        wrongTables(check);
        theWireIsLeftAlone(check);
        check.finish();
    }

    private static int valueFor(int table, int place) {
        return table < 2 ? place % 3 % 2 : place * 1021 + 7;
    }

    private static void everyPlace(Check check, int table) {
        WireSlave x = new WireSlave(9);
        for (int place = 0; place < PLACES[table] - 1; place++) {
            check.due("set(" + table + ", " + place + ")", x.set(table, place, valueFor(table, place)), 0);
        }
        for (int place = 0; place < PLACES[table] - 1; place++) {
            check.due("get(" + table + ", " + place + ")", x.get(table, place), valueFor(table, place));
        }
        WireSlave y = new WireSlave(9);
        int last = PLACES[table] - 1;
        check.due("set of the last place", y.set(table, last, MOST[table]), 0);
        check.due("set of the last place again", y.set(table, last, 0), MOST[table]);
        check.due("set of the last place once more", y.set(table, last, 1), 0);
        check.due("get of the last place", y.get(table, last), 1);
        check.due("get of the one before", y.get(table, last - 1), 0);
    }

    private static void wrongPlaces(Check check, int table) {
        WireSlave x = new WireSlave(9);
        int[] wrong = {-1, PLACES[table], PLACES[table] + 1, 65536, Integer.MIN_VALUE, Integer.MAX_VALUE};
        for (int place : wrong) {
            check.due("set(" + table + ", " + place + ", 1)", x.set(table, place, 1), WireSlave.BAD);
            check.due("get(" + table + ", " + place + ")", x.get(table, place), WireSlave.BAD);
        }
        check.due("get of the first place", x.get(table, 0), 0);
        check.due("get of the last place", x.get(table, PLACES[table] - 1), 0);
    }

    private static void wrongValues(Check check, int table) {
        WireSlave x = new WireSlave(9);
        x.set(table, 5, 1);
        int[] wrong = {-1, MOST[table] + 1, MOST[table] + 2, 65536, Integer.MIN_VALUE, Integer.MAX_VALUE};
        for (int v : wrong) {
            check.due("set(" + table + ", 5, " + v + ")", x.set(table, 5, v), WireSlave.BAD);
            check.due("get(" + table + ", 5)", x.get(table, 5), 1);
        }
        check.due("set to the highest", x.set(table, 5, MOST[table]), 1);
        check.due("get of the highest", x.get(table, 5), MOST[table]);
    }

    private static void tablesAreApart(Check check, int table) {
        WireSlave x = new WireSlave(9);
        x.set(table, 7, 1);
        for (int other = 0; other < 4; other++) {
            check.due("set in " + table + ", get in " + other, x.get(other, 7), other == table ? 1 : 0);
        }
    }

    private static void wrongTables(Check check) {
        WireSlave x = new WireSlave(9);
        for (int table : new int[] {-1, 4, 5, 256, Integer.MIN_VALUE, Integer.MAX_VALUE}) {
            check.due("set(" + table + ", 0, 0)", x.set(table, 0, 0), WireSlave.BAD);
            check.due("get(" + table + ", 0)", x.get(table, 0), WireSlave.BAD);
        }
    }

    private static void theWireIsLeftAlone(Check check) {
        WireSlave x = new WireSlave(9);
        x.hear(1);
        x.rest(10);
        x.set(0, 0, 1);
        x.get(0, 0);
        x.set(9, 0, 1);
        check.due("rest(4): the gap went on", x.rest(4), 0);
        check.due("count(0)", x.count(0), 1);
    }
}
