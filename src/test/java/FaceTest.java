import java.lang.reflect.Constructor;
import java.lang.reflect.Field;
import java.lang.reflect.Member;
import java.lang.reflect.Method;
import java.lang.reflect.Modifier;
import java.util.ArrayList;
import java.util.Arrays;
import java.util.Collections;
import java.util.List;

/** The public face as the document lists it, and nothing beside it. */
final class FaceTest {
  private static final String[] FACE = {
    "int openCase() throws UnsupportedOperationException",
    "int cross(int, char) throws IndexOutOfBoundsException, IllegalArgumentException,"
        + " UnsupportedOperationException",
    "char cutLast(int) throws IndexOutOfBoundsException, UnsupportedOperationException",
    "int cancel(int) throws IndexOutOfBoundsException, UnsupportedOperationException",
    "int relax(int) throws IndexOutOfBoundsException, UnsupportedOperationException",
    "int caseCount()",
    "int wordLength(int) throws IndexOutOfBoundsException",
    "char letterAt(int, int) throws IndexOutOfBoundsException, NoSuchElementException",
    "boolean hasHandle(int) throws IndexOutOfBoundsException",
    "int handleBegin(int) throws IndexOutOfBoundsException, NoSuchElementException",
    "int handleEnd(int) throws IndexOutOfBoundsException, NoSuchElementException",
    "int relaxedLength(int) throws IndexOutOfBoundsException, IllegalStateException",
    "int writhe(int) throws IndexOutOfBoundsException",
    "int strandEnd(int, int) throws IndexOutOfBoundsException, IllegalArgumentException",
    "int closedThreads(int) throws IndexOutOfBoundsException",
    "int crossings(int, int, int) throws IndexOutOfBoundsException, IllegalArgumentException",
    "long coordinate(int, int) throws IndexOutOfBoundsException, IllegalArgumentException",
    "boolean isTrivial(int) throws IndexOutOfBoundsException, IllegalStateException",
    "boolean areEqual(int, int) throws IndexOutOfBoundsException, IllegalStateException",
    "boolean areEqualByCoordinates(int, int) throws IndexOutOfBoundsException",
    "int compare(int, int) throws IndexOutOfBoundsException, IllegalStateException",
    "int compareByCoordinates(int, int) throws IndexOutOfBoundsException",
    "int caseByBraid(int) throws NoSuchElementException",
    "boolean decide(int) throws IndexOutOfBoundsException, UnsupportedOperationException",
    "int appeal(int) throws IndexOutOfBoundsException, UnsupportedOperationException",
    "boolean isDecided(int) throws IndexOutOfBoundsException",
    "boolean isTangled(int) throws IndexOutOfBoundsException",
    "int precedentOf(int) throws IndexOutOfBoundsException, NoSuchElementException",
    "int findPrecedent(int) throws IndexOutOfBoundsException, NoSuchElementException",
    "int precedentCount()",
    "boolean isAppealed(int) throws IndexOutOfBoundsException",
    "int casesOn(int) throws IndexOutOfBoundsException",
    "int decidedCount()",
    "int tangledCount()",
    "double meanLength() throws ArithmeticException",
    "float freedShare() throws ArithmeticException",
    "boolean isConsistent()",
    "int feed(char) throws IllegalStateException",
    "int execute() throws IllegalArgumentException, UnsupportedOperationException",
    "int faultPosition() throws NoSuchElementException",
    "int writeCase(int) throws IndexOutOfBoundsException",
    "int writeRelaxed(int) throws IndexOutOfBoundsException, IllegalStateException",
    "char lineCharacter(int) throws IndexOutOfBoundsException",
    "int denial() throws NoSuchElementException",
    "int denialDetail() throws NoSuchElementException",
    "int denialCause() throws NoSuchElementException",
    "int undo() throws IllegalStateException",
    "int undoCount()",
    "int saveSnapshot()",
    "int restoreSnapshot() throws IllegalStateException",
  };

  private FaceTest() {
  }

  static void run() {
    Class<?> court = BraidCourt.class;
    Check.same("face: public and final", Modifier.PUBLIC | Modifier.FINAL, court.getModifiers());
    Check.same("face: methods", sorted(Arrays.asList(FACE)), sorted(methodsOf(court)));
    Constructor<?>[] constructors = court.getDeclaredConstructors();
    Check.same("face: constructors", 1, constructors.length);
    Check.same("face: a public constructor without parameters", "public BraidCourt()",
        constructors[0].toString());
    for (Field field : court.getDeclaredFields()) {
      Check.same("face: " + field + " is private", true, isPrivate(field));
    }
    noNameOfTheFace(court);
    for (Class<?> inner : court.getDeclaredClasses()) {
      int open = inner.getModifiers() & (Modifier.PUBLIC | Modifier.PROTECTED);
      Check.same("face: " + inner + " is private or package-visible", 0, open);
      Check.same("face: " + inner + " is static", true, Modifier.isStatic(inner.getModifiers()));
      noNameOfTheFace(inner);
    }
  }

  private static List<String> methodsOf(Class<?> court) {
    List<String> methods = new ArrayList<>();
    for (Method method : court.getDeclaredMethods()) {
      if (!isPrivate(method)) {
        methods.add(spell(method));
      }
    }
    return methods;
  }

  private static void noNameOfTheFace(Class<?> type) {
    for (Method method : type.getDeclaredMethods()) {
      for (String line : FACE) {
        boolean same = isPrivate(method) && line.contains(" " + method.getName() + "(");
        Check.same("face: " + method + " bears no public name", false, same);
      }
    }
  }

  private static boolean isPrivate(Member member) {
    return Modifier.isPrivate(member.getModifiers());
  }

  private static String spell(Method method) {
    String spelled = method.getReturnType() + " " + method.getName() + "("
        + names(method.getParameterTypes()) + ")";
    String thrown = names(method.getExceptionTypes());
    return thrown.isEmpty() ? spelled : spelled + " throws " + thrown;
  }

  private static String names(Class<?>[] types) {
    List<String> names = new ArrayList<>();
    for (Class<?> type : types) {
      names.add(type.getSimpleName());
    }
    return String.join(", ", names);
  }

  private static List<String> sorted(List<String> lines) {
    List<String> sorted = new ArrayList<>(lines);
    Collections.sort(sorted);
    return sorted;
  }
}
