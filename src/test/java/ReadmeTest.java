import java.io.IOException;
import java.nio.file.Files;
import java.nio.file.Path;
import java.util.ArrayList;
import java.util.List;

/** README.md's examples do what it says of them; its words are read from the file itself. */
public final class ReadmeTest {
    private static final Check CHECK = new Check();

    public static void main(String[] args) throws IOException {
        List<String> readme = Files.readAllLines(Path.of("README.md"));
        List<List<String>> examples = blocks(readme, "```text");
        CHECK.due("examples of words", examples.size(), 2);
        countsUp(blocks(readme, "```java"));
        addsUpMemory(machine(examples.get(0)));
        carriesOutBytes(machine(examples.get(1)));
        CHECK.end();
    }

    private static List<List<String>> blocks(List<String> lines, String fence) {
        List<List<String>> blocks = new ArrayList<>();
        boolean isInside = false;
        for (String line : lines) {
            if (isInside && !line.equals("```")) {
                blocks.get(blocks.size() - 1).add(line);
            } else if (line.equals(fence)) {
                blocks.add(new ArrayList<>());
            }
            isInside = line.equals(fence) || (isInside && !line.equals("```"));
        }
        return blocks;
    }

    /** Lines of a number, a text, and what is said of it. */
    private static MicroMachine machine(List<String> lines) {
        MicroMachine x = new MicroMachine();
        for (String line : lines) {
            String[] columns = line.split(" +");
            Check.word(x, Integer.parseInt(columns[0]), columns[1]);
        }
        return x;
    }

    private static void countsUp(List<List<String>> blocks) {
        CHECK.due("examples of calls", blocks.size(), 1);
        CHECK.due("the calls", String.join("\n", blocks.get(0)), String.join("\n",
                "MicroMachine x = new MicroMachine();",
                "x.type(0x483D482B31L);   // H=H+1",
                "x.type(0x3B6730);        // ;g0",
                "x.word(0);               // answers 2, the number of parts",
                "x.run(500);              // answers 0, the word at hand",
                "x.register(8);           // H: 500"));
        MicroMachine x = new MicroMachine();
        x.type(0x483D482B31L);
        x.type(0x3B6730);
        CHECK.due("word", x.word(0), 2);
        CHECK.due("run", x.run(500), 0);
        CHECK.due("H", x.register(8), 500);
    }

    private static void addsUpMemory(MicroMachine x) {
        int sum = 0;
        for (int i = 0; i < 64; i++) {
            x.poke(i, 3 * i * i - 1000);
            sum += 3 * i * i - 1000;
        }
        x.set(3, 64);
        CHECK.due("run", x.run(192), 0);
        CHECK.due("T", x.register(6), sum);
    }

    /** "with them programs of bytes can be carried out" */
    private static void carriesOutBytes(MicroMachine x) {
        int[] program = {16, 40, 16, 2, 20, 32};
        for (int i = 0; i < program.length; i++) {
            x.code(i, program[i]);
        }
        x.set(2, -1);
        x.set(3, -1);
        CHECK.due("run", x.run(18), 32);
        CHECK.due("the sum", x.memory(0), 42);
        CHECK.due("bytes read", x.count(9), program.length);
        CHECK.due("run on", x.run(500), 32);
    }
}
