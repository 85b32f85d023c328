import java.util.ArrayList;
import java.util.List;
import java.util.Random;

/**
 * Runs of calls that are drawn by fixed seeds, each answer held against a second slave that is
 * written straight from the document's terms, with lists and without care for room.
 */
public final class AgainstModelTest {
    private static final int RUNS = 3000, CALLS = 512;

    public static void main(String[] args) {
        Check check = new Check();
        for (int seed = 0; seed < RUNS; seed++) {
            new AgainstModelTest(seed, check).run();
        }
        check.finish();
    }

    private final Random random;
    private final Check check;
    private final String name;
    private final int address;
    private final WireSlave slave;
    private final Model model;
    private int calls = 0;

    private AgainstModelTest(int seed, Check check) {
        random = new Random(seed);
        this.check = check;
        name = "seed " + seed;
        address = 1 + random.nextInt(247);
        slave = new WireSlave(address);
        model = new Model(address);
    }

    private void run() {
        while (calls < CALLS) {
            switch (random.nextInt(8)) {
                case 0: set(random.nextInt(6) - 1, random.nextInt(260) - 2, random.nextInt(4) - 1); break;
                case 1: set(2 + random.nextInt(2), random.nextInt(66) - 1, random.nextInt(66000) - 100); break;
                case 2: get(random.nextInt(6) - 1, random.nextInt(260) - 2); break;
                case 3: rest(random.nextInt(20) == 0 ? random.nextInt(1100) - 50 : random.nextInt(16)); break;
                case 4: hear(random.nextInt(260) - 2); break;
                case 5: count(random.nextInt(8) - 1); break;
                default: frame(); break;
            }
        }
    }

    private void frame() {
        rest(14);
        int[] bytes = Line.withSum(body());
        if (random.nextInt(20) == 0) {
            bytes[random.nextInt(bytes.length)] ^= 1 << random.nextInt(8);
        }
        for (int i = 0; i < bytes.length; ) {
            int n = Math.min(1 + random.nextInt(8), bytes.length - i);
            long v = random.nextLong();
            for (int k = 0; k < n; k++) {
                v = v << 8 | bytes[i + k];
            }
            listen(n, v);
            i += n;
            if (random.nextInt(10) == 0 && i < bytes.length) {
                rest(random.nextInt(random.nextInt(5) == 0 ? 14 : 7));
            }
        }
        rest(14);
        for (int i = -1; i < Math.min(9, model.reply.size() + 1); i++) {
            reply(i);
        }
        for (int k = 0; k < 4; k++) {
            reply(random.nextInt(model.reply.size() + 2) - 1);
        }
    }

    private int[] body() {
        int[] known = {1, 2, 3, 4, 5, 6, 15, 16};
        int function = random.nextInt(20) == 0 ? random.nextInt(256) : known[random.nextInt(8)];
        int to = random.nextInt(8) == 0 ? 0 : random.nextInt(15) == 0 ? random.nextInt(256) : address;
        boolean bits = function <= 2 || function == 5 || function == 15;
        int a = random.nextInt(30) == 0 ? random.nextInt(65536) : random.nextInt(bits ? 258 : 66);
        int n = amount(function, (bits ? 256 : 64) - a);
        int[] body = {to, function, a >> 8, a & 255, n >> 8, n & 255};
        if (function == 15 || function == 16) {
            int due = function == 15 ? (n + 7) / 8 : 2 * n;
            int told = Math.min(255, random.nextInt(20) == 0 ? due + random.nextInt(3) : due) & 255;
            int[] data = new int[Math.min(245, told)];
            for (int i = 0; i < data.length; i++) {
                data[i] = random.nextInt(256);
            }
            body = Line.join(Line.join(body, told), data);
        }
        return random.nextInt(30) == 0 ? java.util.Arrays.copyOf(body, 2 + random.nextInt(body.length)) : body;
    }

    private int amount(int function, int left) {
        if (function == 5) {
            return random.nextInt(8) == 0 ? random.nextInt(65536) : random.nextInt(2) * 65280;
        }
        if (function == 6 || random.nextInt(20) == 0) {
            return random.nextInt(65536);
        }
        return random.nextInt(Math.max(1, left) + 2);
    }

    private void due(String call, long got, long want) {
        calls++;
        if (calls <= CALLS) {
            check.due(name + ", call " + calls + ": " + call, got, want);
        }
    }

    private void hear(int b) {
        due("hear(" + b + ")", slave.hear(b), model.hear(b));
    }

    private void listen(int n, long v) {
        due("listen(" + n + ", " + v + ")", slave.listen(n, v), model.listen(n, v));
    }

    private void rest(int q) {
        due("rest(" + q + ")", slave.rest(q), model.rest(q));
    }

    private void reply(int i) {
        int want = i < 0 || i >= model.reply.size() ? -1 : model.reply.get(i);
        due("reply(" + i + ")", slave.reply(i), want);
    }

    private void set(int t, int p, int v) {
        due("set(" + t + ", " + p + ", " + v + ")", slave.set(t, p, v), model.set(t, p, v));
    }

    private void get(int t, int p) {
        due("get(" + t + ", " + p + ")", slave.get(t, p), model.get(t, p));
    }

    private void count(int which) {
        due("count(" + which + ")", slave.count(which), which < 0 || which > 5 ? -1 : model.counts[which]);
    }

    /** The document's terms, one after the other. */
    private static final class Model {
        private final int own;
        private final int[][] tables = {new int[256], new int[256], new int[64], new int[64]};
        private final int[] counts = new int[6];
        private List<Integer> heard = new ArrayList<>();
        private List<Integer> reply = new ArrayList<>();
        private boolean spoilt = false;
        private int gap = 1000;

        Model(int own) {
            this.own = own;
        }

        int hear(int b) {
            if (b < 0 || b > 255) {
                return -1;
            }
            spoilt |= gap >= 7 && gap <= 13;
            gap = 0;
            heard.add(b);
            return Math.min(257, heard.size());
        }

        int listen(int n, long v) {
            int last = -1;
            for (int i = n; i > 0; i--) {
                last = hear((int) (v >> 8 * (i - 1) & 255));
            }
            return last;
        }

        int rest(int q) {
            if (q < 0 || q > 1000) {
                return -1;
            }
            boolean wasQuiet = gap >= 14;
            gap += q;
            if (wasQuiet || gap < 14) {
                return -2;
            }
            List<Integer> frame = heard;
            boolean thrown = spoilt || frame.size() > 256;
            heard = new ArrayList<>();
            spoilt = false;
            reply = new ArrayList<>();
            counts[0]++;
            end(frame.stream().mapToInt(x -> x).toArray(), thrown);
            return reply.size();
        }

        private void end(int[] f, boolean thrown) {
            int[] body = java.util.Arrays.copyOf(f, Math.max(0, f.length - 2));
            if (thrown || f.length < 4 || !java.util.Arrays.equals(Line.withSum(body), f)) {
                counts[1]++;
                return;
            }
            if (f[0] != 0 && f[0] != own) {
                counts[2]++;
                return;
            }
            int[] data = java.util.Arrays.copyOfRange(body, 2, body.length);
            int why = refusal(f[1], data);
            counts[why == 0 ? 4 : 3]++;
            List<Integer> answer = new ArrayList<>(List.of(f[0], why == 0 ? f[1] : f[1] % 128 + 128));
            if (why == 0) {
                answer.addAll(perform(f[1], data));
            } else {
                answer.add(why);
            }
            if (f[0] != 0) {
                counts[5]++;
                for (int b : Line.withSum(answer.stream().mapToInt(x -> x).toArray())) {
                    reply.add(b);
                }
            }
        }

        private static int tableOf(int function) {
            switch (function) {
                case 1: case 5: case 15: return 0;
                case 2: return 1;
                case 4: return 3;
                default: return 2;
            }
        }

        private int refusal(int function, int[] d) {
            if (function < 1 || function > 6 && function != 15 && function != 16) {
                return 1;
            }
            boolean many = function > 6;
            if (!many && d.length != 4 || many && (d.length < 6 || d.length != 5 + d[4])) {
                return 3;
            }
            int a = d[0] * 256 + d[1];
            int n = d[2] * 256 + d[3];
            int most = function <= 2 ? 2000 : function <= 4 ? 125 : function == 15 ? 1968 : 123;
            boolean counted = function <= 4 || many;
            if (counted && (n < 1 || n > most) || function == 5 && n != 0 && n != 65280) {
                return 3;
            }
            if (function == 15 && d[4] != (n + 7) / 8 || function == 16 && d[4] != 2 * n) {
                return 3;
            }
            for (int i = 0; i < (counted ? n : 1); i++) {
                if (a + i >= tables[tableOf(function)].length) {
                    return 2;
                }
            }
            return 0;
        }

        private List<Integer> perform(int function, int[] d) {
            int a = d[0] * 256 + d[1];
            int n = d[2] * 256 + d[3];
            int[] table = tables[tableOf(function)];
            List<Integer> out = new ArrayList<>();
            if (function <= 2) {
                int[] packed = new int[(n + 7) / 8];
                for (int i = 0; i < n; i++) {
                    packed[i / 8] += table[a + i] << i % 8;
                }
                out.add(packed.length);
                for (int b : packed) {
                    out.add(b);
                }
                return out;
            }
            if (function <= 4) {
                out.add(2 * n);
                for (int i = 0; i < n; i++) {
                    out.addAll(List.of(table[a + i] / 256, table[a + i] % 256));
                }
                return out;
            }
            if (function <= 6) {
                table[a] = function == 6 ? n : n == 0 ? 0 : 1;
            }
            for (int i = 0; function > 6 && i < n; i++) {
                table[a + i] = function == 15 ? d[5 + i / 8] >> i % 8 & 1 : d[5 + 2 * i] * 256 + d[6 + 2 * i];
            }
            out.addAll(List.of(d[0], d[1], d[2], d[3]));
            return out;
        }

        int set(int t, int p, int v) {
            int before = get(t, p);
            if (before < 0 || v < 0 || v > (t < 2 ? 1 : 65535)) {
                return -1;
            }
            tables[t][p] = v;
            return before;
        }

        int get(int t, int p) {
            return t < 0 || t > 3 || p < 0 || p >= tables[t].length ? -1 : tables[t][p];
        }
    }
}
