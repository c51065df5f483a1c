import java.io.DataInputStream;
import java.io.IOException;
import java.io.InputStream;
import java.util.Set;
import java.util.TreeSet;

/** What of the library the compiled program names: LANGUAGE.md's rules 4 and 6, roughly. */
final class LanguageTest {
  private static final Set<String> ALLOWED = Set.of(
      "java/lang/Object", "java/lang/Enum", "java/lang/String", "java/lang/StringBuilder",
      "java/lang/Integer", "java/lang/Long", "java/lang/Math", "java/lang/System",
      "java/lang/IllegalStateException", "java/lang/IllegalArgumentException",
      "java/lang/IndexOutOfBoundsException", "java/lang/ArithmeticException",
      "java/lang/UnsupportedOperationException", "java/lang/RuntimeException",
      "java/util/NoSuchElementException", "java/util/ArrayList", "java/util/List",
      "java/util/Arrays", "java/util/Iterator",
      // The compiler's own, for a switch on an enum.
      "java/lang/NoSuchFieldError");

  private LanguageTest() {
  }

  static void run() {
    check("BraidCourt");
    for (Class<?> inner : BraidCourt.class.getDeclaredClasses()) {
      check(inner.getName());
    }
    // Classes that the compiler makes, as for a switch on an enum, and anonymous ones.
    for (int i = 1; LanguageTest.class.getResource("/BraidCourt$" + i + ".class") != null; i++) {
      check("BraidCourt$" + i);
    }
    Check.same("language: some twelve classes at most", true,
        BraidCourt.class.getDeclaredClasses().length < 13);
  }

  private static void check(String name) {
    Set<String> strange = new TreeSet<>();
    try {
      read(name + ".class", strange);
    } catch (IOException unread) {
      strange.add(unread.toString());
    }
    Check.same("language: " + name + " names nothing else", "[]", strange.toString());
  }

  private static void read(String file, Set<String> strange) throws IOException {
    try (InputStream stream = LanguageTest.class.getResourceAsStream("/" + file)) {
      if (stream == null) {
        strange.add("no file " + file);
        return;
      }
      readPool(new DataInputStream(stream), strange);
    }
  }

  private static void readPool(DataInputStream in, Set<String> strange) throws IOException {
    in.readInt();
    in.readInt();
    int count = in.readUnsignedShort();
    String[] texts = new String[count];
    int[] classes = new int[count];
    for (int i = 1; i < count; i++) {
      int tag = in.readUnsignedByte();
      switch (tag) {
        case 1 -> texts[i] = in.readUTF();
        case 3, 4, 9, 10, 11, 12 -> in.readInt();
        case 5, 6 -> {
          in.readLong();
          i++;
        }
        case 7 -> classes[i] = in.readUnsignedShort();
        case 8 -> in.readUnsignedShort();
        default -> throw new IOException("constant of kind " + tag + ", as of a lambda");
      }
    }
    for (int at : classes) {
      String name = at == 0 ? "BraidCourt" : texts[at];
      if (!name.startsWith("BraidCourt") && !name.startsWith("[") && !ALLOWED.contains(name)) {
        strange.add(name);
      }
    }
  }
}
