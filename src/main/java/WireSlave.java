/**
 * A slave on a serial line: it hears bytes with silences between, knows frames by them, answers
 * what is asked of its four tables and does what it is told.
 */
public final class WireSlave {
    public static final int BAD = -1, WAITING = -2;

    private static final int COILS = 0, SWITCHES = 1, REGISTERS = 2, METERS = 3;
    private static final int BIT_PLACES = 256, NUMBER_PLACES = 64;
    private static final int MOST_OF_BYTE = 255, MOST_OF_NUMBER = 65_535;

    private static final int SPOILING_GAP = 7, ENDING_GAP = 14, LONGEST_REST = 1_000;
    private static final int LONGEST_FRAME = 256, SHORTEST_FRAME = 4, BYTES_OF_LONG = 8;

    private static final int EVERYONE = 0, LOWEST_ADDRESS = 1, HIGHEST_ADDRESS = 247;
    private static final int ADDRESS_AT = 0, FUNCTION_AT = 1, DATA_AT = 2;

    private static final int READ_COILS = 1, READ_SWITCHES = 2;
    private static final int READ_REGISTERS = 3, READ_METERS = 4;
    private static final int WRITE_COIL = 5, WRITE_REGISTER = 6;
    private static final int WRITE_COILS = 15, WRITE_REGISTERS = 16;
    private static final int ON = 65_280, OFF = 0;

    private static final int NOT_REFUSED = 0, NO_FUNCTION = 1, NO_PLACE = 2, NO_VALUE = 3;
    private static final int REFUSED_BIT = 128;

    private static final int ENDED = 0, THROWN_AWAY = 1, PASSED_BY = 2;
    private static final int REFUSED = 3, ACCEPTED = 4, REPLIES = 5, KINDS_OF_COUNT = 6;

    private static final int FIRST_SUM = 65_535, SUM_FACTOR = 40_961;

    private final int address;
    private final Table coils, switches, registers, meters;
    private final Bytes frame, answer;
    private final int[] counts;
    private int gap;
    private boolean spoilt;

    public WireSlave(int address) {
        this.address = Math.max(LOWEST_ADDRESS, Math.min(HIGHEST_ADDRESS, address));
        coils = new Table(new int[BIT_PLACES], 1);
        switches = new Table(new int[BIT_PLACES], 1);
        registers = new Table(new int[NUMBER_PLACES], MOST_OF_NUMBER);
        meters = new Table(new int[NUMBER_PLACES], MOST_OF_NUMBER);
        // One byte more than a frame may have, so that a full row tells a frame that is too long.
        frame = new Bytes(new int[LONGEST_FRAME + 1]);
        answer = new Bytes(new int[LONGEST_FRAME]);
        counts = new int[KINDS_OF_COUNT];
        gap = 0;
        spoilt = false;
    }

    public int hear(int b) {
        if (b < 0 || b > MOST_OF_BYTE) {
            return BAD;
        }
        takeByte(b);
        return frame.size();
    }

    public int listen(int n, long v) {
        if (n < 1 || n > BYTES_OF_LONG) {
            return BAD;
        }
        for (int i = n - 1; i >= 0; i--) {
            takeByte(byteOf(v, i));
        }
        return frame.size();
    }

    public int rest(int quarters) {
        if (quarters < 0 || quarters > LONGEST_REST) {
            return BAD;
        }
        // On a quiet line there is no frame that the silence could end or spoil.
        if (frame.size() == 0) {
            return WAITING;
        }
        gap += quarters;
        if (gap < ENDING_GAP) {
            return WAITING;
        }
        endFrame();
        return answer.size();
    }

    public int reply(int i) {
        return answer.at(i);
    }

    public int set(int table, int place, int v) {
        Table t = tableNumbered(table);
        return t == null ? BAD : t.replace(place, v);
    }

    public int get(int table, int place) {
        Table t = tableNumbered(table);
        return t == null ? BAD : t.at(place);
    }

    public int count(int which) {
        return which < 0 || which >= counts.length ? BAD : counts[which];
    }

    public int sum(int n, long v) {
        if (n < 0 || n > BYTES_OF_LONG) {
            return BAD;
        }
        int s = FIRST_SUM;
        for (int i = n - 1; i >= 0; i--) {
            s = sumWith(s, byteOf(v, i));
        }
        return s;
    }

    /** Byte i of v, the lowest being 0. */
    private static int byteOf(long v, int i) {
        return (int) (v >>> (8 * i)) & MOST_OF_BYTE;
    }

    private static int sumWith(int sumBefore, int b) {
        int s = sumBefore ^ b;
        for (int k = 0; k < 8; k++) {
            boolean odd = (s & 1) != 0;
            s = s >>> 1;
            if (odd) {
                s = s ^ SUM_FACTOR;
            }
        }
        return s;
    }

    private static boolean isFromTo(int x, int least, int most) {
        return x >= least && x <= most;
    }

    private static int bytesForBits(int n) {
        return (n + 7) / 8;
    }

    private Table tableNumbered(int table) {
        switch (table) {
            case COILS: return coils;
            case SWITCHES: return switches;
            case REGISTERS: return registers;
            case METERS: return meters;
            default: return null;
        }
    }

    private Table tableOfFunction(int function) {
        switch (function) {
            case READ_COILS: case WRITE_COIL: case WRITE_COILS: return coils;
            case READ_SWITCHES: return switches;
            case READ_REGISTERS: case WRITE_REGISTER: case WRITE_REGISTERS: return registers;
            case READ_METERS: return meters;
            default: return null;
        }
    }

    private void tally(int which) {
        if (which >= 0 && which < counts.length) {
            counts[which]++;
        }
    }

    private void takeByte(int b) {
        // The gap before a frame's first byte is the quiet of the line and spoils nothing.
        if (frame.size() > 0 && gap >= SPOILING_GAP) {
            spoilt = true;
        }
        gap = 0;
        frame.append(b);
    }

    private void endFrame() {
        answer.clear();
        tally(ENDED);
        if (isThrownAway()) {
            tally(THROWN_AWAY);
        } else if (isForOthers()) {
            tally(PASSED_BY);
        } else {
            answerRequest();
        }
        frame.clear();
        spoilt = false;
    }

    private boolean isThrownAway() {
        return spoilt || !isFromTo(frame.size(), SHORTEST_FRAME, LONGEST_FRAME)
                || !frame.endsWithItsSum();
    }

    private boolean isForOthers() {
        int to = frame.at(ADDRESS_AT);
        return to != EVERYONE && to != address;
    }

    /** The shortest frame is one without data. */
    private int dataSize() {
        return frame.size() - SHORTEST_FRAME;
    }

    private int data(int i) {
        return frame.at(DATA_AT + i);
    }

    private int dataNumber(int i) {
        return data(i) * 256 + data(i + 1);
    }

    private void answerRequest() {
        int function = frame.at(FUNCTION_AT);
        // Where the data are too short these mean nothing; refusalOf looks at the size first.
        int a = dataNumber(0);
        int n = dataNumber(2);
        int refusal = refusalOf(function, a, n);
        tally(refusal == NOT_REFUSED ? ACCEPTED : REFUSED);
        if (refusal == NOT_REFUSED) {
            carryOut(function, a, n);
        }
        if (frame.at(ADDRESS_AT) == EVERYONE) {
            return;
        }
        answer.append(address);
        if (refusal == NOT_REFUSED) {
            answer.append(function);
            appendResult(function, a, n);
        } else {
            answer.append(function | REFUSED_BIT);
            answer.append(refusal);
        }
        answer.appendItsSum();
        tally(REPLIES);
    }

    /** The order of these tests is the document's: a wrong amount comes before a wrong place. */
    private int refusalOf(int function, int a, int n) {
        Table table = tableOfFunction(function);
        if (table == null) {
            return NO_FUNCTION;
        }
        if (!isDueSize(function) || !isDueAmount(function, n)) {
            return NO_VALUE;
        }
        boolean ofOnePlace = function == WRITE_COIL || function == WRITE_REGISTER;
        int last = ofOnePlace ? a : a + n - 1;
        return table.has(a) && table.has(last) ? NOT_REFUSED : NO_PLACE;
    }

    private boolean isDueSize(int function) {
        if (function == WRITE_COILS || function == WRITE_REGISTERS) {
            return dataSize() >= 6 && dataSize() == 5 + data(4);
        }
        return dataSize() == 4;
    }

    private boolean isDueAmount(int function, int n) {
        switch (function) {
            case READ_COILS: case READ_SWITCHES: return isFromTo(n, 1, 2_000);
            case READ_REGISTERS: case READ_METERS: return isFromTo(n, 1, 125);
            case WRITE_COIL: return n == OFF || n == ON;
            case WRITE_REGISTER: return true;
            case WRITE_COILS: return isFromTo(n, 1, 1_968) && data(4) == bytesForBits(n);
            case WRITE_REGISTERS: return isFromTo(n, 1, 123) && data(4) == 2 * n;
            default: return false;
        }
    }

    /** Only writes change anything, so a read that was sent to everyone does nothing here. */
    private void carryOut(int function, int a, int n) {
        switch (function) {
            case WRITE_COIL: coils.replace(a, n == OFF ? 0 : 1); break;
            case WRITE_REGISTER: registers.replace(a, n); break;
            case WRITE_COILS: writeCoils(a, n); break;
            case WRITE_REGISTERS: writeRegisters(a, n); break;
            default: break;
        }
    }

    private void writeCoils(int a, int n) {
        for (int i = 0; i < n; i++) {
            coils.replace(a + i, (data(5 + i / 8) >>> (i % 8)) & 1);
        }
    }

    private void writeRegisters(int a, int n) {
        for (int i = 0; i < n; i++) {
            registers.replace(a + i, dataNumber(5 + 2 * i));
        }
    }

    private void appendResult(int function, int a, int n) {
        switch (function) {
            case READ_COILS: appendBits(coils, a, n); break;
            case READ_SWITCHES: appendBits(switches, a, n); break;
            case READ_REGISTERS: appendNumbers(registers, a, n); break;
            case READ_METERS: appendNumbers(meters, a, n); break;
            default: appendEcho(); break;
        }
    }

    private void appendBits(Table table, int a, int n) {
        answer.append(bytesForBits(n));
        for (int i = 0; i < n; i += 8) {
            answer.append(packedBits(table, a + i, Math.min(8, n - i)));
        }
    }

    private static int packedBits(Table table, int a, int n) {
        int packed = 0;
        for (int i = 0; i < n; i++) {
            packed |= table.at(a + i) << i;
        }
        return packed;
    }

    private void appendNumbers(Table table, int a, int n) {
        answer.append(2 * n);
        for (int i = 0; i < n; i++) {
            int number = table.at(a + i);
            answer.append(number >>> 8);
            answer.append(number & MOST_OF_BYTE);
        }
    }

    private void appendEcho() {
        for (int i = 0; i < 4; i++) {
            answer.append(data(i));
        }
    }

    /** Places of numbers from 0 to a highest one. */
    private static final class Table {
        private final int[] places;
        private final int most;

        Table(int[] places, int most) {
            this.places = places;
            this.most = most;
        }

        boolean has(int place) {
            return place >= 0 && place < places.length;
        }

        int at(int place) {
            return has(place) ? places[place] : BAD;
        }

        /** What the place had before; BAD, and nothing is changed, where v can't be put. */
        int replace(int place, int v) {
            if (!has(place) || v < 0 || v > most) {
                return BAD;
            }
            int before = places[place];
            places[place] = v;
            return before;
        }
    }

    /** A row of bytes that is filled from its start; what comes when it is full is dropped. */
    private static final class Bytes {
        private final int[] row;
        private int size;

        Bytes(int[] row) {
            this.row = row;
            this.size = 0;
        }

        int size() {
            return size;
        }

        void clear() {
            size = 0;
        }

        void append(int b) {
            if (size >= 0 && size < row.length) {
                row[size] = b;
                size++;
            }
        }

        int at(int i) {
            return i >= 0 && i < size && i < row.length ? row[i] : BAD;
        }

        private int sumOfFirst(int n) {
            int s = FIRST_SUM;
            for (int i = 0; i < n; i++) {
                s = sumWith(s, at(i));
            }
            return s;
        }

        boolean endsWithItsSum() {
            int s = sumOfFirst(size - 2);
            return at(size - 2) == (s & MOST_OF_BYTE) && at(size - 1) == s >>> 8;
        }

        void appendItsSum() {
            int s = sumOfFirst(size);
            append(s & MOST_OF_BYTE);
            append(s >>> 8);
        }
    }
}
