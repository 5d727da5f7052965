import java.io.IOException;
import java.nio.file.Files;
import java.nio.file.Path;
import java.util.regex.Pattern;

/** The example of README.md answers what stands there. Run from the project's directory. */
public final class ReadmeTest {
    public static void main(String[] args) throws IOException {
        String text = Files.readString(Path.of("README.md"));
        ShipPower plant = new ShipPower();
        int pump = plant.consumer(0, 5, 60, 12);
        stands(text, "int pump = plant.consumer(0, 5, 60, 12);", pump);
        stands(text, "plant.ask(pump, true);", plant.ask(pump, true));
        stands(text, "plant.start(0);", plant.start(0));
        stands(text, "plant.ticks(1000);", plant.ticks(1000));
        stands(text, "plant.look(pump, 0);", plant.look(pump, 0));
        stands(text, "plant.bus(0, 0);", plant.bus(0, 0));
        stands(text, "plant.set(0, 0);", plant.set(0, 0));
        stands(text, "plant.trip(0);", plant.trip(0));
        stands(text, "plant.event(0, 1);", plant.event(0, 1));
        stands(text, "plant.count(0);", plant.count(0));
        Check.end("ReadmeTest");
    }

    private static void stands(String text, String call, Object answer) {
        Pattern line = Pattern.compile("\n" + Pattern.quote(call) + " +// " + answer + ": ");
        Check.yes(call + " answers " + answer, line.matcher(text).find());
    }
}
