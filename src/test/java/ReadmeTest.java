import java.io.IOException;
import java.nio.file.Files;
import java.nio.file.Path;

/** The example of README.md: its calls answer what README.md says of them, and they are the ones that stand there. */
public final class ReadmeTest {
    private static final String[] EXAMPLE = {
        "Panelry house = new Panelry();",
        "int page = house.page(false);",
        "int first = house.panel(page, 0, 0, 28, 40);",
        "int second = house.panel(page, 32, 0, 28, 40);",
        "house.read(page, true, 0);",
        "int figure = house.figure();",
        "house.draw(page, first, figure, 4, 20, 6, 3, false);",
        "int balloon = house.balloon(page, first, 2, 2, 16, 8, figure, 12);",
        "house.faults(page, balloon);",
        "house.tell(0, 10, 5, false);",
        "house.known(0, 50, 0);",
        "house.pass(4);",
        "house.press(page);",
        "house.printed(page, 0);",
    };

    public static void main(String[] args) throws IOException {
        Due due = new Due("ReadmeTest");
        callTheExample(due);
        String readme = Files.readString(Path.of(System.getProperty("root", "."), "README.md"));
        due.same("the calls of README.md", String.join("\n", EXAMPLE), exampleOf(readme));
        due.end();
    }

    private static void callTheExample(Due due) {
        Panelry house = new Panelry();
        int page = house.page(false);
        int first = house.panel(page, 0, 0, 28, 40);
        int second = house.panel(page, 32, 0, 28, 40);
        due.is("read leftward", second, () -> house.read(page, true, 0));
        int figure = house.figure();
        house.draw(page, first, figure, 4, 20, 6, 3, false);
        int balloon = house.balloon(page, first, 2, 2, 16, 8, figure, 12);
        due.is("faults", 0, () -> house.faults(page, balloon));
        due.is("tell", 0, () -> house.tell(0, 10, 5, false));
        due.is("known", 5, () -> house.known(0, 50, 0));
        due.is("pass", 4, () -> house.pass(4));
        due.is("stage", 4, () -> house.stage(page));
        due.is("press", 2, () -> house.press(page));
        due.is("printed", 4, () -> house.printed(page, 0));
        due.fails("a change behind the press", Due.NOT_NOW, () -> house.move(page, balloon, 2, 3));
    }

    /** The lines between ```java and ```, without their comments and empty lines. */
    private static String exampleOf(String readme) {
        StringBuilder calls = new StringBuilder();
        boolean isInside = false;
        for (String line : readme.split("\n")) {
            if (line.startsWith("```")) {
                isInside = line.equals("```java");
            } else if (isInside && !line.isBlank()) {
                String call = line.contains("//") ? line.substring(0, line.indexOf("//")) : line;
                calls.append(calls.length() == 0 ? "" : "\n").append(call.strip());
            }
        }
        return calls.toString();
    }
}
