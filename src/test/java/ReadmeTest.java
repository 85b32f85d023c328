import java.nio.file.Files;
import java.nio.file.Path;

/** README.md's example holds: its lines stand here, with the answers that it tells. */
public final class ReadmeTest {
    public static void main(String[] args) throws java.io.IOException {
        Check check = new Check();
        theExample(check);
        theLinesAreTheSame(check);
        check.finish();
    }

    private static void theExample(Check check) {
        WireSlave slave = new WireSlave(9);
        check.due("set(3, 8, 10)", slave.set(3, 8, 10), 0);
        slave.listen(6, 0x0904_0008_0001L);
        int sum = slave.sum(6, 0x0904_0008_0001L);
        slave.hear(sum & 255);
        slave.hear(sum >> 8);
        int size = slave.rest(14);
        check.due("rest(14)", size, 7);
        int[] told = Line.withSum(9, 4, 2, 0, 10);
        for (int i = 0; i < size; i++) {
            check.due("reply(" + i + ")", slave.reply(i), told[i]);
        }
    }

    /** A line of the example that was changed in one of the two files alone is found here. */
    private static void theLinesAreTheSame(Check check) throws java.io.IOException {
        String here = Files.readString(Path.of("src/test/java/ReadmeTest.java"));
        String readme = Files.readString(Path.of("README.md"));
        int from = readme.indexOf("```java\n");
        int to = readme.indexOf("```", from + 3);
        check.due("README.md has an example", from >= 0 && to > from);
        if (from < 0 || to <= from) {
            return;
        }
        for (String line : readme.substring(from, to).split("\n")) {
            String code = line.replaceAll("//.*", "").strip();
            if (code.startsWith("slave.set(") || code.startsWith("System.out")) {
                code = code.replaceAll(".*(slave\\.\\w+\\(.*?\\)).*", "$1");
            }
            if (!code.startsWith("```")) {
                check.due("'" + code + "' of README.md stands in ReadmeTest", here.contains(code));
            }
        }
    }
}
