import java.io.IOException;
import java.lang.reflect.Method;
import java.lang.reflect.Modifier;
import java.nio.file.Files;
import java.nio.file.Path;
import java.util.ArrayList;
import java.util.List;
import java.util.regex.Matcher;
import java.util.regex.Pattern;

/** README.md: its example answers what it says, and each method of the public face and each test is told. */
public final class ReadmeTest {
    private static final Pattern CALL = Pattern.compile("room\\.(feed|end|request|octet)\\(([^)]*)\\);(?: *// (\\d+).*)?.*");

    public static void main(String[] args) throws IOException {
        List<String> lines = Files.readAllLines(Path.of("README.md"));
        exampleAnswersWhatItSays(lines);
        eachMethodIsTold(String.join("\n", lines));
        eachTestIsTold(String.join("\n", lines));
        Room.finish();
    }

    private static void exampleAnswersWhatItSays(List<String> lines) {
        Room.about("README.md, the example");
        DavRoom room = new DavRoom();
        int told = 0;
        for (String line : lines) {
            Matcher call = CALL.matcher(line);
            if (call.matches()) {
                int got = answer(room, call.group(1), numbers(call.group(2)));
                if (call.group(3) != null) {
                    Room.due(line, got, Integer.parseInt(call.group(3)));
                    told++;
                }
            }
        }
        Room.due("how many answers are told", told, 4);
    }

    private static int answer(DavRoom room, String name, List<Integer> with) {
        return switch (name) {
            case "feed" -> room.feed(with.get(0), with.get(1), with.get(2), with.get(3), with.get(4));
            case "end" -> room.end(with.get(0));
            case "octet" -> room.octet(with.get(0));
            default -> room.request();
        };
    }

    private static List<Integer> numbers(String text) {
        List<Integer> numbers = new ArrayList<>();
        for (String one : text.split(", ")) {
            if (!one.isEmpty()) {
                numbers.add(Integer.decode(one));
            }
        }
        return numbers;
    }

    private static void eachMethodIsTold(String readme) {
        Room.about("README.md, each method of the public face");
        for (Method one : DavRoom.class.getDeclaredMethods()) {
            if (Modifier.isPublic(one.getModifiers())) {
                Room.due(one.getName(), readme.contains("\n| `" + one.getName() + "(") ? 1 : 0, 1);
            }
        }
    }

    private static void eachTestIsTold(String readme) throws IOException {
        Room.about("README.md, each test");
        try (var tests = Files.list(Path.of("src/test/java"))) {
            for (Path one : tests.toList()) {
                String name = one.getFileName().toString().replace(".java", "");
                Room.due(name, readme.contains("`" + name + "`") ? 1 : 0, 1);
            }
        }
    }
}
