import java.util.NoSuchElementException;

/**
 * What a refused call leaves as it was: two courts with the same past, of which one has refused a
 * call, must look the same, also after their texts are executed, their changes undone and their
 * snapshots restored.
 */
final class Still {
  interface Past {
    BraidCourt make();
  }

  interface Refused {
    Object call(BraidCourt court);
  }

  private Still() {
  }

  /** A call that throws and leaves everything as it was. */
  static void refuses(String what, Class<? extends RuntimeException> exception, Past past,
      Refused refused) {
    BraidCourt tried = past.make();
    Check.refuses(what, exception, () -> refused.call(tried));
    BraidCourt calm = past.make();
    Check.same(what + ", the latest denial", denial(calm), denial(tried));
    Check.same(what + ", the fault position", fault(calm), fault(tried));
    Check.same(what + ", the rest", look(calm) + future(calm), look(tried) + future(tried));
  }

  /** A call that is denied, which is all that it changes. */
  static void denies(String what, String denial, Past past, Refused refused) {
    BraidCourt tried = past.make();
    Check.denies(what, tried, denial, () -> refused.call(tried));
    BraidCourt calm = past.make();
    Check.same(what + ", the fault position", fault(calm), fault(tried));
    Check.same(what + ", the rest", look(calm) + future(calm), look(tried) + future(tried));
  }

  /** A text that does not match: only the text buffer and the fault position change. */
  static void misfits(String what, int position, Past past, String text) {
    BraidCourt tried = past.make();
    Check.refuses(what, IllegalArgumentException.class, () -> Check.execute(tried, text));
    Check.answers(what + ", the fault position", position, tried::faultPosition);
    BraidCourt calm = past.make();
    Check.same(what + ", the latest denial", denial(calm), denial(tried));
    Check.same(what + ", the rest", look(calm) + afterText(calm), look(tried) + afterText(tried));
  }

  /** A text with a command that fails: only the text buffer and the latest denial change. */
  static void fails(String what, String denial, Past past, String text) {
    BraidCourt tried = past.make();
    Check.denies(what, tried, denial, () -> Check.execute(tried, text));
    BraidCourt calm = past.make();
    Check.same(what + ", the fault position", fault(calm), fault(tried));
    Check.same(what + ", the rest", look(calm) + afterText(calm), look(tried) + afterText(tried));
  }

  /**
   * A court with a case for each word, of which nothing is empty: there is a snapshot, a line, a
   * latest denial and a fault position.
   */
  static BraidCourt busy(String... words) {
    BraidCourt court = Check.court(words);
    Check.refuses("busy: a wrong text", IllegalArgumentException.class,
        () -> Check.execute(court, "oh"));
    Check.refuses("busy: a failed text", UnsupportedOperationException.class,
        () -> Check.execute(court, "relax 9"));
    court.saveSnapshot();
    court.writeCase(0);
    return court;
  }

  /** A busy court in whose text buffer there is the beginning of a text, too. */
  static BraidCourt busyWithText(String... words) {
    BraidCourt court = busy(words);
    for (char character : "ope".toCharArray()) {
      court.feed(character);
    }
    return court;
  }

  /** All that can be seen of a court without changing it, but for the denial and the fault. */
  static String look(BraidCourt court) {
    StringBuilder look = new StringBuilder();
    for (int i = 0; i < court.caseCount(); i++) {
      look.append(Check.word(court, i));
      look.append(court.isDecided(i) ? court.isTangled(i) ? " t" : " f" : " ?");
      look.append(court.isDecided(i) ? court.precedentOf(i) + ", " : ", ");
    }
    for (int i = 0; i < court.precedentCount(); i++) {
      look.append(court.isAppealed(i) ? "appealed " : "not appealed ");
      look.append(court.casesOn(i)).append(", ");
    }
    look.append("undo ").append(court.undoCount());
    return look.append(", line ").append(line(court)).append("; ").toString();
  }

  private static String line(BraidCourt court) {
    StringBuilder line = new StringBuilder();
    try {
      while (line.length() < 500) {
        line.append(court.lineCharacter(line.length()));
      }
    } catch (IndexOutOfBoundsException ended) {
      line.append('.');
    }
    return line.toString();
  }

  static String denial(BraidCourt court) {
    try {
      return Check.denial(court);
    } catch (NoSuchElementException none) {
      return "none";
    }
  }

  static String fault(BraidCourt court) {
    try {
      return "" + court.faultPosition();
    } catch (NoSuchElementException none) {
      return "none";
    }
  }

  /** What comes of the text in the buffer, and then of the changes and the snapshot. */
  private static String future(BraidCourt court) {
    StringBuilder future = new StringBuilder();
    try {
      future.append(court.feed('n')).append(" characters, ");
    } catch (IllegalStateException full) {
      future.append("full, ");
    }
    try {
      future.append(court.execute()).append(" commands; ");
    } catch (IllegalArgumentException wrong) {
      future.append("fault ").append(court.faultPosition()).append("; ");
    } catch (UnsupportedOperationException denied) {
      future.append("denied ").append(court.denialDetail()).append("; ");
    }
    return future + afterText(court);
  }

  /** What comes of an empty text buffer, the changes and the snapshot. */
  private static String afterText(BraidCourt court) {
    StringBuilder after = new StringBuilder();
    after.append(court.feed('o')).append(" character; ");
    while (court.undoCount() > 0) {
      court.undo();
      after.append(glance(court));
    }
    try {
      court.restoreSnapshot();
      after.append(look(court));
    } catch (IllegalStateException none) {
      after.append("no snapshot");
    }
    return after.toString();
  }

  /** A short look, so that a court keeps well below the 512 calls that are promised. */
  private static String glance(BraidCourt court) {
    StringBuilder glance = new StringBuilder("undo: ");
    for (int i = 0; i < court.caseCount(); i++) {
      glance.append(court.wordLength(i)).append(' ').append(court.writhe(i));
      glance.append(court.isDecided(i) ? " decided, " : ", ");
    }
    return glance.append(court.precedentCount()).append("; ").toString();
  }
}
