/** The boundary cases of the document's TABLES, and of promises 6 and 7: a test for each sentence. */
public final class BoundsOfTablesTest {
    private static final int LEAST = Integer.MIN_VALUE, MOST = Integer.MAX_VALUE;

    public static void main(String[] args) {
        Check check = new Check();
        placesOfBits(check);
        valuesOfBits(check);
        placesOfNumbers(check);
        valuesOfNumbers(check);
        allAreZeroAtFirst(check);
        setAnswersWhatWas(check);
        setWhereThereIsNone(check);
        setWhatCannotBeThere(check);
        getWhereThereIsNone(check);
        check.finish();
    }

    private static void duePlaces(Check check, int table, int places) {
        WireSlave x = new WireSlave(9);
        for (int place : new int[] {0, places - 1}) {
            check.due("set(" + table + ", " + place + ", 1)", x.set(table, place, 1), 0);
            check.due("get(" + table + ", " + place + ")", x.get(table, place), 1);
        }
        for (int place : new int[] {-1, places}) {
            check.due("set(" + table + ", " + place + ", 1)", x.set(table, place, 1), WireSlave.BAD);
            check.due("get(" + table + ", " + place + ")", x.get(table, place), WireSlave.BAD);
        }
    }

    private static void dueValues(Check check, int table, int most) {
        WireSlave x = new WireSlave(9);
        check.due("set(" + table + ", 3, " + most + ")", x.set(table, 3, most), 0);
        check.due("set(" + table + ", 3, " + (most + 1) + ")", x.set(table, 3, most + 1), WireSlave.BAD);
        check.due("get(" + table + ", 3), the highest", x.get(table, 3), most);
        check.due("set(" + table + ", 3, 0)", x.set(table, 3, 0), most);
        check.due("set(" + table + ", 3, -1)", x.set(table, 3, -1), WireSlave.BAD);
        check.due("get(" + table + ", 3), the lowest", x.get(table, 3), 0);
    }

    private static void placesOfBits(Check check) {
        check.sentence("0 COILS and 1 SWITCHES, 256 places each");
        duePlaces(check, 0, 256);
        duePlaces(check, 1, 256);
    }

    private static void valuesOfBits(Check check) {
        check.sentence("of 0 or 1");
        dueValues(check, 0, 1);
        dueValues(check, 1, 1);
    }

    private static void placesOfNumbers(Check check) {
        check.sentence("2 REGISTERS and 3 METERS, 64 places each");
        duePlaces(check, 2, 64);
        duePlaces(check, 3, 64);
    }

    private static void valuesOfNumbers(Check check) {
        check.sentence("of 0 .. 65,535");
        dueValues(check, 2, 65535);
        dueValues(check, 3, 65535);
    }

    private static void allAreZeroAtFirst(Check check) {
        check.sentence("At first all are 0.");
        for (int table = 0; table < 4; table++) {
            WireSlave x = new WireSlave(9);
            for (int place = 0; place < (table < 2 ? 256 : 64); place++) {
                check.due("get(" + table + ", " + place + ")", x.get(table, place), 0);
            }
        }
    }

    private static void setAnswersWhatWas(Check check) {
        check.sentence("A place of a table becomes v: what it was.");
        WireSlave x = new WireSlave(9);
        check.due("set(2, 0, 65535)", x.set(2, 0, 65535), 0);
        check.due("set(2, 0, 65534)", x.set(2, 0, 65534), 65535);
        check.due("set(2, 0, 65534) again", x.set(2, 0, 65534), 65534);
        check.due("set(2, 0, 0)", x.set(2, 0, 0), 65534);
        check.due("set(2, 0, 1)", x.set(2, 0, 1), 0);
        check.due("get(2, 1), the place beside it", x.get(2, 1), 0);
        check.due("get(3, 0), the table beside it", x.get(3, 0), 0);
    }

    private static void setWhereThereIsNone(Check check) {
        check.sentence("set: BAD: there is none");
        WireSlave x = new WireSlave(9);
        for (int table : new int[] {-1, 4, LEAST, MOST}) {
            check.due("set(" + table + ", 0, 0)", x.set(table, 0, 0), WireSlave.BAD);
        }
        for (int place : new int[] {64, 255}) {
            check.due("set(2, " + place + ", 0), a place of coils", x.set(2, place, 0), WireSlave.BAD);
            check.due("set(3, " + place + ", 0), a place of switches", x.set(3, place, 0), WireSlave.BAD);
        }
        for (int place : new int[] {-256, 65536, LEAST, MOST}) {
            check.due("set(0, " + place + ", 1)", x.set(0, place, 1), WireSlave.BAD);
        }
        check.due("get(0, 0): nothing wrapped around", x.get(0, 0), 0);
    }

    private static void setWhatCannotBeThere(Check check) {
        check.sentence("or v can't be there");
        for (int table = 0; table < 4; table++) {
            WireSlave x = new WireSlave(9);
            x.set(table, 0, 1);
            for (int v : new int[] {-1, table < 2 ? 2 : 65536, 65537, LEAST, MOST}) {
                check.due("set(" + table + ", 0, " + v + ")", x.set(table, 0, v), WireSlave.BAD);
                check.due("get(" + table + ", 0) is as it was", x.get(table, 0), 1);
            }
        }
    }

    private static void getWhereThereIsNone(Check check) {
        check.sentence("get: BAD: there is none.");
        WireSlave x = new WireSlave(9);
        for (int table : new int[] {-1, 4, LEAST, MOST}) {
            check.due("get(" + table + ", 0)", x.get(table, 0), WireSlave.BAD);
        }
        for (int table = 0; table < 4; table++) {
            for (int place : new int[] {-1, table < 2 ? 256 : 64, 65536, LEAST, MOST}) {
                check.due("get(" + table + ", " + place + ")", x.get(table, place), WireSlave.BAD);
            }
        }
    }
}
