import java.io.IOException;
import java.lang.reflect.Method;
import java.lang.reflect.Modifier;
import java.nio.file.Files;
import java.nio.file.Path;

/** README.md says how to use the class: its example answers what stands there, and no call is left out. */
public final class ReadmeTest {
    private final String[] lines;

    private ReadmeTest(String[] lines) {
        this.lines = lines;
    }

    public static void main(String[] args) throws IOException {
        ReadmeTest readme = new ReadmeTest(Files.readString(Path.of("README.md")).split("\n"));
        readme.example();
        readme.namesEveryCall();
        Check.finish();
    }

    private void example() {
        GritWatch county = new GritWatch();
        int road = county.road(0, 1, 2, 0, 3, 1, false);
        answers("int road = county.road(0, 1, 2, 0, 3, 1, false)", road, 0);
        int lorry = county.lorry(true);
        answers("int lorry = county.lorry(true)", lorry, 0);
        answers("county.load(lorry)", county.load(lorry), 90);
        answers("county.forecast(8, -6, -4, 5, true)", county.forecast(8, -6, -4, 5, true), 1);
        answers("county.air(-6, false)", county.air(-6, false), 5);
        answers("county.fall(1, 0, 0)", county.fall(1, 0, 0), 0);
        answers("county.slipperyIn(road, 12)", county.slipperyIn(road, 12), 4);
        answers("county.saltFor(road, 8)", county.saltFor(road, 8), 14);
        answers("county.pass(8)", county.pass(8), 5);
        answers("county.claim(road, 8)", county.claim(road, 8), 4);
        answers("county.rate(lorry, 9)", county.rate(lorry, 9), 2);
        answers("county.order(lorry, road)", county.order(lorry, road), 1);
        answers("county.pass(2)", county.pass(2), 2);
        Check.same("the node of the lorry", county.ofLorry(lorry, 0), 1);
        answers("county.claim(road, 10)", county.claim(road, 10), 1);
        answers("county.ofRoad(road, 11)", county.ofRoad(road, 11), 18);
        answers("county.many(3)", county.many(3), 10);
        answers("county.bestOrders(lorry, 0)", county.bestOrders(lorry, 0), 10);
        Check.isTrue("meanWarmth", county.meanWarmth() == -7.0);
        Check.isTrue("meanWarmth is not on the page", stands("county.meanWarmth();", "// -7.0:"));
    }

    private void answers(String call, int got, int due) {
        Check.same(call, got, due);
        Check.isTrue(call + " with " + due + " is not on the page", stands(call + ";", "// " + due + ":"));
    }

    private boolean stands(String call, String answer) {
        for (String line : lines) {
            if (line.startsWith(call) && line.substring(call.length()).trim().startsWith(answer)) {
                return true;
            }
        }
        return false;
    }

    private void namesEveryCall() {
        for (Method method : GritWatch.class.getDeclaredMethods()) {
            if (Modifier.isPublic(method.getModifiers())) {
                Check.isTrue(method.getName() + " is not in the table", isInTable(method));
            }
        }
    }

    private boolean isInTable(Method method) {
        for (String line : lines) {
            if (line.startsWith("| `" + method.getName() + "(")) {
                String numbers = line.substring(line.indexOf('(') + 1, line.indexOf(')'));
                int count = numbers.isEmpty() ? 0 : numbers.split(",").length;
                return count == method.getParameterCount();
            }
        }
        return false;
    }
}
