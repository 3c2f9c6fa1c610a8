import java.lang.reflect.Method;
import java.lang.reflect.Modifier;
import java.nio.file.Files;
import java.nio.file.Path;
import java.util.List;

/** README.md tells of each call, in the document's groups, and its first lines of code are so. */
public final class ReadmeTest {
    private static final Check CHECK = new Check();
    private static final String[] GROUPS = {"The ring", "Now", "Behind so many rounds", "Where it comes from",
        "Strokes, ink", "What was seen", "Acts", "What is told"};
    private static final String[] CALLS = {"feed ring fault where", "copies error cell first",
        "after many unlike trueOnes when areas largest scale", "round origin blame loop depth", "strokes strokeAt ink",
        "judge fits fit surely", "rounds draw mend copy seed undo keep back", "led size trouble"};

    public static void main(String[] args) throws Exception {
        eachCallInItsGroup();
        firstCalls();
        CHECK.end();
    }

    private static void eachCallInItsGroup() throws Exception {
        CHECK.part("README.md");
        List<String> lines = Files.readAllLines(Path.of("README.md"));
        int at = 0;
        int told = 0;
        for (int group = 0; group < GROUPS.length; group++) {
            at = find(lines, at, "### " + GROUPS[group]);
            for (String call : CALLS[group].split(" ")) {
                at = find(lines, at, "| `" + call + "(");
                if (at < lines.size()) {
                    CHECK.due(call + ": its parameters", parameters(lines.get(at)), parameters(call));
                }
                told++;
            }
        }
        int shown = 0;
        for (Method m : NineMaps.class.getDeclaredMethods()) {
            shown += Modifier.isPublic(m.getModifiers()) ? 1 : 0;
        }
        CHECK.due("calls", told, shown);
    }

    private static int find(List<String> lines, int from, String begin) {
        for (int i = from; i < lines.size(); i++) {
            if (lines.get(i).startsWith(begin)) {
                return i;
            }
        }
        CHECK.due(begin + " behind line " + from, false, true);
        return from;
    }

    /** How many parameters stand between the brackets of a row, or has the call of a name. */
    private static int parameters(String row) {
        if (row.indexOf('(') >= 0) {
            String inside = row.substring(row.indexOf('(') + 1, row.indexOf(')'));
            return inside.isEmpty() ? 0 : inside.split(",").length;
        }
        for (Method m : NineMaps.class.getDeclaredMethods()) {
            if (m.getName().equals(row)) {
                return m.getParameterCount();
            }
        }
        return NineMaps.NONE;
    }

    private static void firstCalls() {
        CHECK.part("the first calls");
        NineMaps x = new NineMaps();
        CHECK.due("feed", x.feed(0x72696e67, 0x20776964, 0x65203220, 0x68696768, 0x2032206d), 20);
        CHECK.due("feed", x.feed(0x61726b73, 0x20323b74, 0x6f776e20, 0x70206162, 0x2c626120), 40);
        CHECK.due("ring", x.ring(40), 1);
        CHECK.due("cell", x.cell(0, 10), 1);
        CHECK.due("draw", x.draw(0, 10, 0), true);
        CHECK.due("drawn", x.cell(0, 10), 0);
        CHECK.due("undo", x.undo(), true);
        CHECK.due("undone", x.cell(0, 10), 1);
        x = CHECK.good("ring wide 3 high 2 marks 4;town p abc,dab;town q aaa,aaa;copies q p by swap a b;guess fold 1;"
            + "seen q 5 2 1 d", 2);
        CHECK.due("judge", x.judge(), 0);
    }
}
