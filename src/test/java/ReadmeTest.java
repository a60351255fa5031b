import java.io.IOException;
import java.nio.file.Files;
import java.nio.file.Path;

/** The example in README.md stands there as it is tried here, and the program answers what its comments say. */
final class ReadmeTest {
    private static final String EXAMPLE = """
        ```java
        BlockPrograms x = new BlockPrograms();
        int seven = x.block(1);        // kind 1, NUMBER: says its first number
        x.numbers(seven, 7, 0);
        int sum = x.block(24);         // kind 24, SUM: adds up input 0, begins anew when input 1 is not 0
        int reset = x.block(0);        // kind 0, POINT: says the value of a point
        x.wire(sum, 0, seven);
        x.wire(sum, 1, reset);
        x.run(3);                      // three ticks; answers the time, 3
        x.out(sum);                    // 21
        x.point(0, 1);
        x.run(1);
        x.out(sum);                    // 0
        ```
        """;

    private ReadmeTest() {
    }

    static void run() {
        Check.same("README.md has the example", true, readme().contains(EXAMPLE));
        BlockPrograms x = new BlockPrograms();
        int seven = x.block(1);
        x.numbers(seven, 7, 0);
        int sum = x.block(24);
        int reset = x.block(0);
        x.wire(sum, 0, seven);
        x.wire(sum, 1, reset);
        Check.same("README: the time", 3, x.run(3));
        Check.same("README: the sum", 21, x.out(sum));
        x.point(0, 1);
        x.run(1);
        Check.same("README: the sum begins anew", 0, x.out(sum));
    }

    private static String readme() {
        try {
            return Files.readString(Path.of("README.md"));
        } catch (IOException e) {
            return "";
        }
    }
}
