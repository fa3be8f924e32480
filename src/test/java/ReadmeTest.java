import java.io.IOException;
import java.lang.reflect.Method;
import java.lang.reflect.Modifier;
import java.nio.file.Files;
import java.nio.file.Path;
import java.util.ArrayList;
import java.util.List;

/** README.md says how the class is used: its example answers as it says there, and it has every call. */
public final class ReadmeTest {
    private final DeskMoves office = new DeskMoves();
    private final List<String> written;
    private int next = 0;

    private ReadmeTest(List<String> written) {
        this.written = written;
    }

    /** The project's directory is where .ci/run starts the tests. */
    public static void main(String[] args) throws IOException {
        List<String> lines = Files.readAllLines(Path.of("README.md"));
        tableHasEveryCall(lines);
        ReadmeTest example = new ReadmeTest(callsWritten(lines));
        example.desks();
        example.moves();
        example.rooms();
        example.end();
        Checks.end();
    }

    private static void tableHasEveryCall(List<String> lines) {
        for (Method method : DeskMoves.class.getDeclaredMethods()) {
            if (Modifier.isPublic(method.getModifiers())) {
                String row = "| `" + method.getName() + "(";
                Checks.due("a row of " + method.getName(), 1,
                    () -> lines.stream().filter(line -> line.startsWith(row)).count());
            }
        }
    }

    /** Each call of the example with the answer that stands at its line's end. */
    private static List<String> callsWritten(List<String> lines) {
        List<String> calls = new ArrayList<>();
        for (String line : lines) {
            int start = line.indexOf("office.");
            int comment = line.indexOf("; ");
            if (start >= 0 && comment > start && line.contains("// ")) {
                String answer = line.substring(line.indexOf("// ") + 3).split("[ ,:;]")[0];
                calls.add(line.substring(start, comment) + " -> " + answer);
            }
        }
        return calls;
    }

    private void same(String call, Checks.Call made) {
        String answer = Checks.outcome(made);
        told(call, answer.equals(Integer.toString(DeskMoves.NONE)) ? "NONE" : answer);
    }

    private void same(String call, boolean answer) {
        told(call, Boolean.toString(answer));
    }

    private void told(String call, String answer) {
        String due = next < written.size() ? written.get(next) : "no such line";
        Checks.told("the example of README.md", due, "office." + call + " -> " + answer);
        next++;
    }

    private void end() {
        Checks.due("calls in README.md", written.size(), () -> next);
    }

    private void desks() {
        int window = 0;
        int door = 1;
        int ann = 0;
        int bob = 1;
        same("desk()", office::desk);
        same("desk()", office::desk);
        same("person()", office::person);
        same("person()", office::person);
        same("sits(ann, door)", () -> office.sits(ann, door));
        same("sits(bob, window)", () -> office.sits(bob, window));
        same("wish(ann, window, 10)", () -> office.wish(ann, window, 10));
        same("bar(bob, window, true)", office.bar(bob, window, true));
        same("seat()", office::seat);
        same("deskOf(ann)", () -> office.deskOf(ann));
        same("deskOf(bob)", () -> office.deskOf(bob));
        same("moved()", office::moved);
        same("steps()", office::steps);
        same("worthOf(ann)", () -> office.worthOf(ann));
    }

    private void moves() {
        same("desk()", office::desk);
        same("deskOf(ann)", () -> office.deskOf(0));
        same("seat()", office::seat);
        same("deskOf(bob)", () -> office.deskOf(1));
        same("steps()", office::steps);
        same("step(0, 0)", () -> office.step(0, 0));
        same("step(0, 1)", () -> office.step(0, 1));
        same("step(0, 2)", () -> office.step(0, 2));
        same("settle()", office::settle);
    }

    private void rooms() {
        same("room(8)", () -> office.room(8));
        same("book(540, 600, 5)", () -> office.book(540, 600, 5));
        same("book(570, 580, 2)", () -> office.book(570, 580, 2));
        same("roomOf(0)", () -> office.roomOf(0));
        same("inside(0, 599)", () -> office.inside(0, 599));
        same("gap(0, 540, 30)", () -> office.gap(0, 540, 30));
        same("waste()", office::waste);
        same("cancel(0)", office.cancel(0));
    }
}
