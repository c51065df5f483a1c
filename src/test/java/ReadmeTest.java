import java.io.IOException;
import java.lang.reflect.Method;
import java.lang.reflect.Modifier;
import java.nio.charset.StandardCharsets;
import java.nio.file.Files;
import java.nio.file.Path;

/** README.md: its examples answer as it says, and it names every call of the face. */
final class ReadmeTest {
  private static final Path README = Path.of("README.md");

  private ReadmeTest() {
  }

  static void run() {
    firstExample();
    exampleOfText();
    deniedCalls();
    namesEveryCall();
  }

  private static void firstExample() {
    BraidCourt court = new BraidCourt();
    Check.same("readme: openCase", 0, court.openCase());
    court.cross(0, 'a');
    court.cross(0, 'b');
    Check.same("readme: cross", 3, court.cross(0, 'A'));
    Check.same("readme: relax", 1, court.relax(0));
    Check.same("readme: the relaxed word", "Bab", Check.word(court, 0));
    Check.same("readme: decide", true, court.decide(0));
    Check.same("readme: precedentOf", 0, court.precedentOf(0));
    Check.same("readme: appeal", 1, court.appeal(0));
    Check.same("readme: freed after the appeal", false, court.isTangled(0));
  }

  private static void exampleOfText() {
    BraidCourt court = new BraidCourt();
    Check.same("readme: execute", 4, Check.execute(court, "open;cross 0 a;cross 0 a;decide 0"));
    Check.same("readme: one change", 1, court.undoCount());
    int length = court.writeCase(0);
    Check.same("readme: writeCase", "aa:f", Check.line(court, length));
    Check.same("readme: undo", 0, court.undo());
    Check.same("readme: no case", 0, court.caseCount());
    for (String text : new String[] {"open", "cross 0 a", "cut 0", "cancel 0", "relax 0",
        "decide 0", "appeal 0"}) {
      Check.answers("readme: " + text, 1, () -> Check.execute(court, text));
      if (text.startsWith("cut")) {
        court.cross(0, 'b');
      }
    }
    Check.refuses("readme: no text", IllegalArgumentException.class,
        () -> Check.execute(court, "open cut"));
    Check.same("readme: faultPosition", 4, court.faultPosition());
  }

  private static void deniedCalls() {
    BraidCourt court = Check.court("", "CbDBaadDbcaCcBcB", "AbCCDcBcba");
    Check.denies("readme: undecided", court, "3 0 -", () -> court.appeal(0));
    Check.denies("readme: empty", court, "4 0 -", () -> court.cutLast(0));
    Check.denies("readme: 16 letters", court, "1 16 -", () -> court.cross(1, 'a'));
    Check.denies("readme: relaxed to 18 letters", court, "5 10 -", () -> court.relax(2));
    Check.denies("readme: a command failed", court, "7 1 8",
        () -> Check.execute(court, "open;cut 9"));
    court.decide(0);
    Check.denies("readme: decided", court, "2 0 -", () -> court.cancel(0));
    court.appeal(0);
    Check.denies("readme: appealed", court, "6 0 -", () -> court.appeal(0));
  }

  private static void namesEveryCall() {
    String readme = "";
    try {
      readme = Files.readString(README, StandardCharsets.UTF_8);
    } catch (IOException unread) {
      Check.same("readme: it can be read", "read", unread.toString());
    }
    for (Method method : BraidCourt.class.getDeclaredMethods()) {
      if (Modifier.isPublic(method.getModifiers())) {
        String call = "`" + method.getName() + "(";
        Check.same("readme: names " + method.getName(), true, readme.contains(call));
      }
    }
  }
}
