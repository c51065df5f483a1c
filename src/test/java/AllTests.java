/** Runs every test of the project; exits with 1 if one fails. */
public final class AllTests {
  private AllTests() {
  }

  public static void main(String[] args) {
    FaceTest.run();
    LanguageTest.run();
    WordsTest.run();
    BraidsTest.run();
    VerdictsTest.run();
    TextsTest.run();
    DenialsTest.run();
    UndoTest.run();
    RelaxerTest.run();
    RandomRunsTest.run();
    if (!Check.report()) {
      System.exit(1);
    }
  }
}
