import java.util.ArrayList;
import java.util.List;
import java.util.function.LongSupplier;
import java.util.function.Supplier;
import java.util.function.ToLongFunction;

/**
 * What the tests of the document's edges share. Each sentence of the document that names an edge is
 * one edge("where", "the sentence", test): a test of its own, that says by name whether it holds.
 */
abstract class Edges {
  static final int ADD = 0;
  static final int GET = 1;
  static final int PUT = 2;
  static final int CALL = 3;
  static final int SUPER = 4;
  static final int MAKE = 5;
  static final int READ = 6;
  static final int KEEP = 7;
  static final int IS = 8;

  static final int NONE = -1;
  static final int LOW = Integer.MIN_VALUE;
  static final int HIGH = Integer.MAX_VALUE;

  static final Class<?> INDEX = IndexOutOfBoundsException.class;
  static final Class<?> ARGUMENT = IllegalArgumentException.class;
  static final Class<?> STATE = IllegalStateException.class;

  private static int edges;
  private static int answers;
  private static int answersOfEdge;
  private static int wrong;
  private static String now = "";

  static void edge(String where, String sentence, Runnable test) {
    now = where + ": " + sentence;
    answersOfEdge = 0;
    edges++;
    try {
      test.run();
    } catch (RuntimeException | StackOverflowError e) {
      wrong++;
      System.out.println(now + "\n    ended by " + e);
    }
    due("answers that were looked at", answersOfEdge > 0 ? 1 : 0, 1);
  }

  static void end(String test) {
    System.out.println(test + ": " + edges + " edges, " + answers + " answers, " + wrong + " are not as due");
    if (wrong != 0) {
      System.exit(1);
    }
  }

  static void due(String what, long got, long want) {
    answers++;
    answersOfEdge++;
    if (got != want) {
      wrong++;
      System.out.println(now + "\n    " + what + " answered " + got + ", due is " + want);
    }
  }

  static void dueD(String what, double got, double want) {
    due(what + " (" + got + " for " + want + ")", Double.doubleToLongBits(got), Double.doubleToLongBits(want));
  }

  /** One call on a machine, made anew by the supplier, throws just that, and changes nothing at all. */
  static void refused(String what, Class<?> wanted, Supplier<VtableTown> machine, ToLongFunction<VtableTown> call) {
    VtableTown x = machine.get();
    String got = thrown(() -> call.applyAsLong(x));
    answers++;
    answersOfEdge++;
    if (!got.equals(wanted.getName())) {
      wrong++;
      System.out.println(now + "\n    " + what + " threw " + got + ", due is " + wanted.getName());
    }
    same(what + " and what is asked behind it", x, machine.get());
  }

  /** A call on a machine that is not made anew, where it is looked at that it is thrown alone. */
  static void throwsJust(String what, Class<?> wanted, LongSupplier call) {
    String got = thrown(call);
    answers++;
    answersOfEdge++;
    if (!got.equals(wanted.getName())) {
      wrong++;
      System.out.println(now + "\n    " + what + " threw " + got + ", due is " + wanted.getName());
    }
  }

  private static String thrown(LongSupplier call) {
    try {
      call.getAsLong();
    } catch (RuntimeException e) {
      return e.getClass().getName();
    }
    return "nothing";
  }

  /** Two machines answer all that one can ask alike, and all that can be told of them still. Both are spoilt by it. */
  static void same(String what, VtableTown x, VtableTown y) {
    due(what + ", differing answers", differing(asked(x), asked(y)), 0);
    due(what + ", differing parts", differing(parts(x), parts(y)), 0);
  }

  private static int differing(List<Long> a, List<Long> b) {
    int n = Math.abs(a.size() - b.size());
    for (int i = 0; i < Math.min(a.size(), b.size()); i++) {
      if (!a.get(i).equals(b.get(i))) {
        n++;
      }
    }
    return n;
  }

  /** All that one can ask, and all that would be. */
  static List<Long> asked(VtableTown x) {
    List<Long> row = new ArrayList<>();
    for (int what = 0; what <= 13; what++) {
      row.add((long) x.many(what));
    }
    row.add(Double.doubleToLongBits(x.meanCost()));
    int told = x.many(0);
    for (int cls = 0; cls < told; cls++) {
      for (int what = 0; what <= 8; what++) {
        row.add((long) x.ofClass(cls, what));
      }
      boolean finds = x.ofClass(cls, 0) == 0 && x.ofClass(cls, 1) == 1;
      for (int name = 1; name <= 5 && finds; name++) {
        row.add((long) x.finds(cls, name));
        row.add((long) x.slot(cls, name));
      }
      addPlaces(row, x, cls);
    }
    for (int cls = 0; cls < 12; cls++) {
      row.add((long) x.wouldLoad(cls));
      row.add((long) x.wouldTurn(cls));
      for (int name = 1; name <= 5; name++) {
        row.add((long) x.wouldRun(cls, name));
        row.add((long) x.wouldCost(cls, name));
        row.add((long) x.wouldWarm(cls, name));
      }
    }
    row.add(x.digest());
    return row;
  }

  private static void addPlaces(List<Long> row, VtableTown x, int cls) {
    for (int name = 0; name <= 5; name++) {
      for (int i = 0; i < 6; i++) {
        for (int what = 0; what <= 6; what++) {
          try {
            row.add((long) x.ofPlace(cls, name, i, what));
          } catch (IndexOutOfBoundsException e) {
            row.add(-99L);
          }
        }
      }
    }
  }

  /** What CLASSES that are FRESH have: found out by telling more of them. */
  private static List<Long> parts(VtableTown x) {
    List<Long> row = new ArrayList<>();
    int told = x.many(0);
    for (int cls = 0; cls < told; cls++) {
      for (int name = 0; name <= 5; name++) {
        row.add((long) room(x, cls, name));
        int c = cls;
        int n = name;
        row.add(answerOr99(() -> x.method(c, n)));
      }
      row.add((long) roomOfInitialiser(x, cls));
      for (int field = 0; field < 4; field++) {
        int c = cls;
        int f = field;
        row.add(answerOr99(() -> x.field(c, f) ? 1 : 0));
      }
    }
    row.add(answerOr99(() -> x.plain(NONE, 0)));
    return row;
  }

  private static long answerOr99(LongSupplier call) {
    try {
      return call.getAsLong();
    } catch (RuntimeException e) {
      return -99;
    }
  }

  /** How many STEPS a BODY takes until one is refused. */
  static int room(VtableTown x, int cls, int name) {
    for (int n = 0; n < 99; n++) {
      try {
        x.step(cls, name, ADD, 1, 0);
      } catch (IllegalStateException e) {
        return n;
      }
    }
    return 99;
  }

  static int roomOfInitialiser(VtableTown x, int cls) {
    for (int n = 0; n < 99; n++) {
      try {
        x.first(cls, ADD, 1, 0);
      } catch (IllegalStateException e) {
        return n;
      }
    }
    return 99;
  }

  static VtableTown empty() {
    return new VtableTown();
  }

  /** So many PLAIN CLASSES without anything. */
  static VtableTown plains(int count) {
    VtableTown x = new VtableTown();
    for (int n = 0; n < count; n++) {
      x.plain(NONE, 0);
    }
    return x;
  }

  static VtableTown faces(int count) {
    VtableTown x = new VtableTown();
    for (int n = 0; n < count; n++) {
      x.face(0);
    }
    return x;
  }

  /** A METHOD with a BODY of STEPS, told three numbers each. */
  static void body(VtableTown x, int cls, int name, int... steps) {
    x.method(cls, name);
    for (int i = 0; i + 2 < steps.length; i += 3) {
      x.step(cls, name, steps[i], steps[i + 1], steps[i + 2]);
    }
  }

  static void initialiser(VtableTown x, int cls, int... steps) {
    for (int i = 0; i + 2 < steps.length; i += 3) {
      x.first(cls, steps[i], steps[i + 1], steps[i + 2]);
    }
  }

  /** The same STEP so many times. */
  static int[] times(int count, int kind, int a, int b) {
    int[] row = new int[3 * count];
    for (int i = 0; i < count; i++) {
      row[3 * i] = kind;
      row[3 * i + 1] = a;
      row[3 * i + 2] = b;
    }
    return row;
  }

  static int[] join(int[]... rows) {
    int length = 0;
    for (int[] row : rows) {
      length += row.length;
    }
    int[] all = new int[length];
    int at = 0;
    for (int[] row : rows) {
      System.arraycopy(row, 0, all, at, row.length);
      at += row.length;
    }
    return all;
  }
}
