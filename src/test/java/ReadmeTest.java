import java.io.IOException;
import java.nio.file.Files;
import java.nio.file.Path;
import java.util.List;

/** The example of README.md: it is the one below, line by line, and its calls answer what it says. */
final class ReadmeTest {
    public static void main(String[] args) throws IOException {
        example();
        refusals();
        List<String> own = Files.readAllLines(Path.of("src", "test", "java", "ReadmeTest.java"))
                .stream().map(String::strip).toList();
        boolean inExample = false;
        int lines = 0;
        for (String line : Files.readAllLines(Path.of("README.md"))) {
            if (line.startsWith("```")) {
                inExample = line.equals("```java");
            } else if (inExample) {
                lines++;
                Check.due("this test has the line \"" + line + "\"", own.contains(line), true);
            }
        }
        Check.due("the example is there", lines > 0, true);
        Check.end("ReadmeTest");
    }

    private static void example() {
        SapNetwork sugarHouse = new SapNetwork();
        sugarHouse.setPump(60);
        int line = sugarHouse.addJunction(0, 5);
        int tap = sugarHouse.addTap(line, 4, 10, 2, 0);
        int tank = sugarHouse.addTank(200);
        sugarHouse.pass(-5);                    // frost charges the tap
        int volume = sugarHouse.pass(4);        // 35 of sap run into the tank
        sugarHouse.load(tank, volume);
        sugarHouse.setFire(9);
        sugarHouse.pass(-1);                    // the pan boils
        int batch = sugarHouse.draw();          // 2 of syrup
        char grade = sugarHouse.gradeOf(batch); // 'g'

        Check.due("the tap's sap", sugarHouse.sapOf(tap, 1), 35);
        Check.due("volume", volume, 35);
        Check.due("syrup", sugarHouse.batchVolume(batch), 2);
        Check.due("grade", grade, 'g');
    }

    private static void refusals() {
        SapNetwork sugarHouse = new SapNetwork();
        Check.thrown("setPump(100)", IllegalArgumentException.class, () -> sugarHouse.setPump(100));
        Check.due("the setting after it", sugarHouse.setPump(1), 0);
    }
}
