/** Runs every test of the project; exits with 1 if one fails. */
public final class AllTests {
  private static final long MINUTES = 5;
  private static final int PROMISES = 51;

  private AllTests() {
  }

  public static void main(String[] args) {
    watch();
    run("FaceTest", FaceTest::run);
    run("LanguageTest", LanguageTest::run);
    run("WordsTest", WordsTest::run);
    run("BraidsTest", BraidsTest::run);
    run("VerdictsTest", VerdictsTest::run);
    run("TextsTest", TextsTest::run);
    run("DenialsTest", DenialsTest::run);
    run("UndoTest", UndoTest::run);
    run("NumberEdgesTest", NumberEdgesTest::run);
    run("WordEdgesTest", WordEdgesTest::run);
    run("HandleEdgesTest", HandleEdgesTest::run);
    run("BraidEdgesTest", BraidEdgesTest::run);
    run("VerdictEdgesTest", VerdictEdgesTest::run);
    run("TextEdgesTest", TextEdgesTest::run);
    run("DenialEdgesTest", DenialEdgesTest::run);
    run("UndoEdgesTest", UndoEdgesTest::run);
    run("ReadmeTest", ReadmeTest::run);
    run("RelaxerTest", RelaxerTest::run);
    run("RandomRunsTest", RandomRunsTest::run);
    everyPromiseIsChecked();
    System.exit(Check.report() ? 0 : 1);
  }

  private static void run(String name, Runnable test) {
    try {
      test.run();
    } catch (RuntimeException thrown) {
      Check.same(name + " ends", "ended", thrown + " at " + thrown.getStackTrace()[0]);
      thrown.printStackTrace(System.out);
    }
  }

  private static void everyPromiseIsChecked() {
    for (int promise = 1; promise <= PROMISES; promise++) {
      Check.same("promise " + promise + " is checked", true, Check.hasChecked(promise));
    }
  }

  /** Fails if a call does not end. */
  private static void watch() {
    Thread watch = new Thread(() -> {
      try {
        Thread.sleep(MINUTES * 60 * 1000);
      } catch (InterruptedException ended) {
        return;
      }
      System.out.println("the tests do not end");
      Runtime.getRuntime().halt(1);
    });
    watch.setDaemon(true);
    watch.start();
  }
}
