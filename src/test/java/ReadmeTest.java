import java.io.IOException;
import java.lang.reflect.Method;
import java.lang.reflect.Modifier;
import java.nio.file.Files;
import java.nio.file.Path;
import java.util.LinkedHashMap;
import java.util.Map;
import java.util.regex.Matcher;
import java.util.regex.Pattern;

/** README.md's example is the one that stands here, its answers are those that it tells, and it names every call. */
public final class ReadmeTest {
    private static final Check CHECK = new Check("ReadmeTest");
    private static final Path README = Path.of("README.md");
    private static final Path THIS = Path.of("src/test/java/ReadmeTest.java");
    private static final Pattern ANSWER = Pattern.compile("int (\\w+) = [^\n]*// (-?\\d+): ");

    private ReadmeTest() {
    }

    public static void main(String[] args) throws IOException {
        String readme = Files.readString(README);
        String shown = lines(between(readme, "```java\n", "```"));
        CHECK.tell("README's example", shown, lines(between(Files.readString(THIS), "// as in README\n", "// as far as that")));
        CHECK.tell("the example's answers", example().toString(), toldAnswers(shown).toString());
        for (Method method : CardRights.class.getDeclaredMethods()) {
            if (Modifier.isPublic(method.getModifiers())) {
                CHECK.is("README has a row for " + method.getName(), readme.contains("\n| `" + method.getName() + "("), true);
            }
        }
        CHECK.finish();
    }

    private static Map<String, Integer> example() {
        // as in README
        CardRights house = new CardRights();
        int hall = house.room(0);                       // in zone 0
        int lab = house.room(1);                        // in zone 1
        int door = house.door(hall, lab);
        int ann = house.person(3);                      // of group 3; everybody is in room 0 at first
        int card = house.card(ann, 5000);               // good up to minute 5000
        house.right(3, 1, 480, 1020, 0);                // group 3, zone 1, 8:00 to 17:00, from minute 0 on

        int first = house.asks(card, door, lab, 600);   // 0: let in
        int room = house.where(ann);                    // 1: she is in the lab
        int again = house.asks(card, door, lab, 601);   // 4: she is not in the hall, so she can't come from there
        int back = house.asks(card, door, hall, 602);   // 5: her group has no right for zone 0

        house.off(door, true);                          // the door is cut off
        house.lost(card, 650);                          // the card is lost from minute 650 on
        int unheard = house.asks(card, door, lab, 700); // 0: the door has not heard of that; it keeps a row
        int rows = house.off(door, false);              // 1: the door joins again, a row is gone through
        int bad = house.against();                      // 1: by what is known now, that row should not be
        int why = house.found(0, 3);                    // 3: the card was lost
        int enough = house.fewest();                    // 1: right 0 (2 to the power of 0) would have done
        // as far as that
        Map<String, Integer> answers = new LinkedHashMap<>();
        answers.put("first", first);
        answers.put("room", room);
        answers.put("again", again);
        answers.put("back", back);
        answers.put("unheard", unheard);
        answers.put("rows", rows);
        answers.put("bad", bad);
        answers.put("why", why);
        answers.put("enough", enough);
        return answers;
    }

    private static Map<String, Integer> toldAnswers(String example) {
        Map<String, Integer> answers = new LinkedHashMap<>();
        Matcher line = ANSWER.matcher(example);
        while (line.find()) {
            answers.put(line.group(1), Integer.valueOf(line.group(2)));
        }
        return answers;
    }

    private static String between(String text, String before, String behind) {
        int start = text.indexOf(before);
        int end = start < 0 ? -1 : text.indexOf(behind, start + before.length());
        return end < 0 ? "nothing behind " + before : text.substring(start + before.length(), end);
    }

    /** Without what stands ahead of a line, as a method's lines are set in. */
    private static String lines(String text) {
        return text.replaceAll("(?m)^ +", "").trim();
    }
}
