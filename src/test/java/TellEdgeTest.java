import java.util.function.Supplier;
import java.util.function.ToLongFunction;

/** The edges of section 1 and of promises 1 to 8: what is told, and what is refused of it. */
public final class TellEdgeTest extends Edges {
  public static void main(String[] args) {
    newObject();
    classesTold();
    parents();
    interfaceSets();
    fullMachine();
    namesAndClasses();
    makers();
    whatThereWas();
    rowsOfSteps();
    kindsOfSteps();
    stepsRefused();
    initialisers();
    fields();
    freshOnly();
    end("TellEdgeTest");
  }

  // ---- promise 1

  private static void newObject() {
    edge("promise 1", "a machine without CLASSES", () -> {
      VtableTown x = empty();
      for (int what = 0; what <= 13; what++) {
        due("many(" + what + ")", x.many(what), 0);
      }
      dueD("meanCost()", x.meanCost(), 0.0);
    });
    edge("promise 1", "no CLASS is there to be told more of, or to be asked", () -> {
      for (int cls : new int[] {LOW, -1, 0, 1, 11, 12, HIGH}) {
        refused("method", INDEX, Edges::empty, x -> x.method(cls, 1));
        refused("open", INDEX, Edges::empty, x -> x.open(cls, 1));
        refused("step", INDEX, Edges::empty, x -> x.step(cls, 1, ADD, 1, 0));
        refused("first", INDEX, Edges::empty, x -> x.first(cls, ADD, 1, 0));
        refused("field", INDEX, Edges::empty, x -> x.field(cls, 0) ? 1 : 0);
        refused("ofClass", INDEX, Edges::empty, x -> x.ofClass(cls, 0));
        refused("finds", INDEX, Edges::empty, x -> x.finds(cls, 1));
        refused("slot", INDEX, Edges::empty, x -> x.slot(cls, 1));
        refused("ofPlace", INDEX, Edges::empty, x -> x.ofPlace(cls, 1, 0, 0));
      }
    });
    edge("promise 1", "each of the twelve numbers is a CLASS that is not told", () -> {
      VtableTown x = empty();
      for (int cls = 0; cls <= 11; cls++) {
        due("wouldRun", x.wouldRun(cls, 1), -10001);
        due("wouldCost", x.wouldCost(cls, 5), 0);
        due("wouldLoad", x.wouldLoad(cls), 0);
        due("wouldTurn", x.wouldTurn(cls), 0);
        due("wouldWarm", x.wouldWarm(cls, 5), 0);
        due("load", x.load(cls), 1);
        due("run", x.run(cls, 5), -10001);
      }
    });
    edge("promise 1", "one machine knows nothing of another", () -> {
      VtableTown x = plains(12);
      x.load(3);
      same("a new one behind that", empty(), empty());
      due("many(0)", empty().many(0), 0);
      due("plain", empty().plain(11, 4095), 0);
    });
  }

  // ---- promises 2 and 3

  private static void classesTold() {
    edge("section 1", "at most 12 CLASSES, numbered from 0 as they are told", () -> {
      VtableTown x = empty();
      for (int n = 0; n < 12; n++) {
        due("the number", n % 3 == 1 ? x.face(0) : x.plain(NONE, 0), n);
        due("many(0)", x.many(0), n + 1);
        due("its sort", x.ofClass(n, 0), n % 3 == 1 ? 1 : 0);
      }
    });
    edge("promise 2", "a PLAIN CLASS, without METHODS, FIELDS and STEPS", () -> {
      VtableTown x = plains(1);
      due("STEPS of its INITIALISER", x.first(0, ADD, 0, 0), 1);
      for (int field = 0; field <= 3; field++) {
        due("it did not DECLARE it", x.field(0, field) ? 1 : 0, 1);
      }
      for (int name = 0; name <= 5; name++) {
        due("METHOD " + name, x.method(0, name), 0);
      }
    });
    edge("promise 3", "an INTERFACE, without METHODS and STEPS", () -> {
      VtableTown x = faces(1);
      due("STEPS of its INITIALISER", x.first(0, ADD, 0, 0), 1);
      for (int name = 1; name <= 5; name++) {
        due("METHOD " + name, x.method(0, name), 0);
      }
    });
    edge("section 1", "NONE, as always of an INTERFACE: it is LOADED alone", () -> {
      VtableTown x = faces(1);
      due("wouldLoad", x.wouldLoad(0), 1);
      due("load", x.load(0), 0);
      due("OF", x.ofClass(0, 5), 1);
    });
    edge("section 1", "one STATIC (0 at first)", () -> {
      VtableTown x = plains(1);
      x.face(0);
      due("of a PLAIN one", x.ofClass(0, 4), 0);
      due("of an INTERFACE", x.ofClass(1, 4), 0);
    });
  }

  private static void parents() {
    edge("promise 2", "a parent of -1 and of 0 to 11 (told or not) is one", () -> {
      for (int parent = -1; parent <= 11; parent++) {
        int own = parent == 0 ? 1 : 0;
        VtableTown x = plains(own);
        due("plain(" + parent + ", 0)", x.plain(parent, 0), own);
      }
    });
    edge("promise 2", "a parent below -1 or above 11 is none", () -> {
      for (int bad : new int[] {-2, 12, 13, -12, LOW, LOW + 1, HIGH, HIGH - 1}) {
        refused("plain(" + bad + ", 0)", ARGUMENT, Edges::empty, x -> x.plain(bad, 0));
        refused("plain(" + bad + ", 0) behind others", ARGUMENT, () -> plains(3), x -> x.plain(bad, 0));
      }
    });
    edge("promise 2", "its own number is no parent, the ones beside it are", () -> {
      for (int own = 0; own <= 11; own++) {
        int n = own;
        refused("plain(" + n + ", 0)", ARGUMENT, () -> plains(n), x -> x.plain(n, 0));
        if (n > 0) {
          due("the one ahead", plains(n).plain(n - 1, 0), n);
        }
        if (n < 11) {
          due("the one behind", plains(n).plain(n + 1, 0), n);
        }
      }
    });
    edge("promise 2", "a call that was refused takes no number", () -> {
      VtableTown x = plains(1);
      throwsJust("plain(1, 0)", ARGUMENT, () -> x.plain(1, 0));
      throwsJust("plain(-2, 0)", ARGUMENT, () -> x.plain(-2, 0));
      throwsJust("plain(-1, -1)", ARGUMENT, () -> x.plain(-1, -1));
      throwsJust("face(4096)", ARGUMENT, () -> x.face(4096));
      due("the next one", x.plain(0, 0), 1);
    });
  }

  private static void interfaceSets() {
    edge("promise 2", "interfaces of 0 and of 4095 are a set", () -> {
      due("plain(-1, 0)", empty().plain(-1, 0), 0);
      due("plain(-1, 1)", empty().plain(-1, 1), 0);
      due("plain(-1, 2048)", empty().plain(-1, 2048), 0);
      due("plain(-1, 4095)", empty().plain(-1, 4095), 0);
    });
    edge("promise 2", "interfaces below 0 or above 4095 are none", () -> {
      for (int bad : new int[] {-1, -2, 4096, 4097, 8191, LOW, HIGH}) {
        refused("plain(-1, " + bad + ")", ARGUMENT, Edges::empty, x -> x.plain(-1, bad));
        refused("plain(0, " + bad + ")", ARGUMENT, () -> plains(2), x -> x.plain(0, bad));
      }
    });
    edge("promise 3", "interfaces of 0 and of 4095 are a set", () -> {
      due("face(0)", empty().face(0), 0);
      due("face(1)", empty().face(1), 0);
      due("face(2048)", empty().face(2048), 0);
      due("face(4095)", empty().face(4095), 0);
    });
    edge("promise 3", "interfaces below 0 or above 4095 are none", () -> {
      for (int bad : new int[] {-1, -2, 4096, 4097, 8191, LOW, HIGH}) {
        refused("face(" + bad + ")", ARGUMENT, Edges::empty, x -> x.face(bad));
        refused("face(" + bad + ") behind another", ARGUMENT, () -> faces(1), x -> x.face(bad));
      }
    });
    edge("section 1", "the set holds the first and the last number", () -> {
      VtableTown x = faces(1);
      for (int n = 1; n <= 10; n++) {
        x.plain(NONE, n == 1 ? 1 + 2048 : 0);
      }
      x.face(0);
      due("load", x.load(1), 0);
      due("OF", x.ofClass(1, 5), 1 + 2 + 2048);
    });
  }

  private static void fullMachine() {
    Supplier<VtableTown> full = () -> plains(12);
    edge("promise 2", "IllegalStateException if there are 12, and not as long as there are 11", () -> {
      due("the 12th", plains(11).plain(NONE, 0), 11);
      refused("the 13th", STATE, full, x -> x.plain(NONE, 0));
      refused("with each right parent, 0", STATE, full, x -> x.plain(0, 0));
      refused("with each right parent, 11", STATE, full, x -> x.plain(11, 4095));
    });
    edge("promise 3", "IllegalStateException if there are 12, and not as long as there are 11", () -> {
      due("the 12th", plains(11).face(0), 11);
      refused("the 13th", STATE, full, x -> x.face(0));
      refused("the 13th with all", STATE, full, x -> x.face(4095));
      refused("the 13th behind INTERFACES", STATE, () -> faces(12), x -> x.face(0));
    });
    edge("promise 2", "the one that is named first: IllegalArgumentException ahead of IllegalStateException", () -> {
      for (int bad : new int[] {-2, 12, LOW, HIGH}) {
        refused("plain(" + bad + ", 0)", ARGUMENT, full, x -> x.plain(bad, 0));
      }
      for (int bad : new int[] {-1, 4096, LOW, HIGH}) {
        refused("plain(-1, " + bad + ")", ARGUMENT, full, x -> x.plain(-1, bad));
      }
    });
    edge("promise 3", "the one that is named first: IllegalArgumentException ahead of IllegalStateException", () -> {
      for (int bad : new int[] {-1, 4096, LOW, HIGH}) {
        refused("face(" + bad + ")", ARGUMENT, full, x -> x.face(bad));
      }
    });
  }

  // ---- promises 4 and 5

  /** A PLAIN CLASS 0 and an INTERFACE 1. */
  private static VtableTown two() {
    VtableTown x = plains(1);
    x.face(0);
    return x;
  }

  private static void refusedOfBadClassOrName(String what, int lowest, TwoNumbers call) {
    for (int bad : new int[] {LOW, -1, 2, 3, 11, 12, HIGH}) {
      refused(what + "(" + bad + ", 1)", INDEX, TellEdgeTest::two, x -> call.on(x, bad, 1));
    }
    for (int bad : new int[] {LOW, -2, lowest - 1, 6, 7, HIGH}) {
      refused(what + "(0, " + bad + ")", INDEX, TellEdgeTest::two, x -> call.on(x, 0, bad));
      refused(what + "(1, " + bad + ")", INDEX, TellEdgeTest::two, x -> call.on(x, 1, bad));
    }
  }

  private interface TwoNumbers {
    long on(VtableTown x, int one, int other);
  }

  private static void namesAndClasses() {
    edge("promise 4", "IndexOutOfBoundsException if there is no such CLASS, or NAME",
        () -> refusedOfBadClassOrName("method", 0, VtableTown::method));
    edge("promise 5", "IndexOutOfBoundsException if there is no such CLASS, or NAME",
        () -> refusedOfBadClassOrName("open", 0, VtableTown::open));
    edge("promise 6", "IndexOutOfBoundsException if there is no such CLASS, or NAME",
        () -> refusedOfBadClassOrName("step", 0, (x, cls, name) -> x.step(cls, name, ADD, 1, 0)));
    edge("promise 8", "IndexOutOfBoundsException if there is no such CLASS, or FIELD", () -> {
      for (int bad : new int[] {LOW, -1, 2, 3, 11, 12, HIGH}) {
        refused("field(" + bad + ", 0)", INDEX, TellEdgeTest::two, x -> x.field(bad, 0) ? 1 : 0);
      }
      for (int bad : new int[] {LOW, -1, 4, 5, HIGH}) {
        refused("field(0, " + bad + ")", INDEX, TellEdgeTest::two, x -> x.field(0, bad) ? 1 : 0);
      }
    });
    edge("promise 7", "IndexOutOfBoundsException if there is no such CLASS", () -> {
      for (int bad : new int[] {LOW, -1, 2, 3, 11, 12, HIGH}) {
        refused("first(" + bad + ")", INDEX, TellEdgeTest::two, x -> x.first(bad, ADD, 1, 0));
      }
    });
    edge("promises 4 to 8", "the first CLASS and the last one that is told are such", () -> {
      VtableTown x = plains(12);
      for (int cls : new int[] {0, 11}) {
        due("method", x.method(cls, 1), 0);
        due("open", x.open(cls, 2), 0);
        due("step", x.step(cls, 1, ADD, 1, 0), 1);
        due("first", x.first(cls, ADD, 1, 0), 1);
        due("field", x.field(cls, 0) ? 1 : 0, 1);
      }
      for (int bad : new int[] {-1, 12}) {
        refused("method", INDEX, () -> plains(12), y -> y.method(bad, 1));
        refused("open", INDEX, () -> plains(12), y -> y.open(bad, 1));
        refused("step", INDEX, () -> plains(12), y -> y.step(bad, 1, ADD, 1, 0));
        refused("first", INDEX, () -> plains(12), y -> y.first(bad, ADD, 1, 0));
        refused("field", INDEX, () -> plains(12), y -> y.field(bad, 0) ? 1 : 0);
      }
    });
    edge("promises 4 and 5", "NAMES are 0 to 5", () -> {
      for (int name = 0; name <= 5; name++) {
        due("method(0, " + name + ")", two().method(0, name), 0);
        if (name > 0) {
          due("method(1, " + name + ")", two().method(1, name), 0);
          due("open(0, " + name + ")", two().open(0, name), 0);
          due("open(1, " + name + ")", two().open(1, name), 0);
        }
      }
    });
  }

  private static void makers() {
    edge("promise 4", "IllegalArgumentException if name is 0, and it is an INTERFACE", () -> {
      refused("method(1, 0)", ARGUMENT, TellEdgeTest::two, x -> x.method(1, 0));
      due("of a PLAIN one it is right", two().method(0, 0), 0);
    });
    edge("promise 5", "IllegalArgumentException if name is 0", () -> {
      refused("open(0, 0)", ARGUMENT, TellEdgeTest::two, x -> x.open(0, 0));
      refused("open(1, 0)", ARGUMENT, TellEdgeTest::two, x -> x.open(1, 0));
    });
    edge("promise 5", "a MAKER that is there stays as it was", () -> {
      Supplier<VtableTown> made = () -> {
        VtableTown x = two();
        body(x, 0, 0, ADD, 5, 0, KEEP, 0, 0);
        body(x, 0, 1, READ, 0, 0);
        return x;
      };
      refused("open(0, 0)", ARGUMENT, made, x -> x.open(0, 0));
      due("it is run", made.get().run(0, 1), 5);
    });
    edge("promise 4", "no such CLASS, or NAME, goes ahead of the MAKER of an INTERFACE", () -> {
      refused("method(2, 0)", INDEX, TellEdgeTest::two, x -> x.method(2, 0));
      refused("method(-1, 0)", INDEX, TellEdgeTest::two, x -> x.method(-1, 0));
      refused("method(1, 6)", INDEX, TellEdgeTest::two, x -> x.method(1, 6));
      refused("open(2, 0)", INDEX, TellEdgeTest::two, x -> x.open(2, 0));
      refused("open(-1, 0)", INDEX, TellEdgeTest::two, x -> x.open(-1, 0));
    });
  }

  private static void whatThereWas() {
    edge("promise 4", "what there was: 0 none, 1 an ABSTRACT one, 2 one with a BODY", () -> {
      for (int cls = 0; cls <= 1; cls++) {
        VtableTown x = two();
        due("none", x.method(cls, 3), 0);
        due("a BODY", x.method(cls, 3), 2);
        due("a BODY, for open", x.open(cls, 3), 2);
        due("ABSTRACT, for open", x.open(cls, 3), 1);
        due("ABSTRACT", x.method(cls, 3), 1);
        due("a BODY again", x.method(cls, 3), 2);
        due("another NAME has none", x.method(cls, 2), 0);
        due("another NAME has none, for open", x.open(cls, 4), 0);
      }
    });
    edge("promise 4", "a BODY without STEPS, in place of what there was", () -> {
      VtableTown x = plains(1);
      body(x, 0, 1, times(6, ADD, 9, 0));
      throwsJust("a 7th STEP", STATE, () -> x.step(0, 1, ADD, 1, 0));
      due("a full one was there", x.method(0, 1), 2);
      due("it gives 0", x.wouldRun(0, 1), 0);
      due("50 and 6, and no STEP", x.wouldCost(0, 1), 56);
      due("its first STEP", x.step(0, 1, ADD, 7, 0), 1);
      due("it gives that alone", x.wouldRun(0, 1), 7);
      due("and five more", room(x, 0, 1), 5);
    });
    edge("promise 5", "an ABSTRACT METHOD, in place of a full BODY", () -> {
      VtableTown x = plains(1);
      body(x, 0, 1, times(6, ADD, 9, 0));
      due("a BODY was there", x.open(0, 1), 2);
      due("it gives a FAULT", x.wouldRun(0, 1), -10004);
      due("ABSTRACT was there", x.method(0, 1), 1);
      due("it is empty", x.wouldRun(0, 1), 0);
      due("six STEPS", room(x, 0, 1), 6);
    });
    edge("section 5", "a CALL that was replaced is no PLACE", () -> {
      VtableTown x = plains(1);
      body(x, 0, 1, times(6, CALL, 2, 0));
      body(x, 0, 2);
      body(x, 0, 1, ADD, 1, 0);
      body(x, 0, 3, times(2, CALL, 2, 0));
      x.open(0, 3);
      x.load(0);
      due("PLACES", x.many(5), 0);
      due("those that are DIRECT", x.many(6), 0);
      for (int i = 0; i < 6; i++) {
        int step = i;
        throwsJust("the STEP " + i, INDEX, () -> x.ofPlace(0, 1, step, 0));
        throwsJust("the STEP " + i + " of the ABSTRACT one", INDEX, () -> x.ofPlace(0, 3, step, 0));
      }
    });
  }

  // ---- promises 6 and 7

  private static void rowsOfSteps() {
    edge("promise 6", "a BODY is a row of at most 6 STEPS; how many it has then", () -> {
      for (int name = 0; name <= 5; name++) {
        VtableTown x = plains(1);
        x.method(0, name);
        for (int n = 1; n <= 6; n++) {
          due("STEP of the NAME " + name, x.step(0, name, ADD, n, 0), n);
        }
        int full = name;
        throwsJust("the 7th of the NAME " + name, STATE, () -> x.step(0, full, ADD, 7, 0));
      }
    });
    edge("promise 6", "IllegalStateException if that has 6 STEPS, and nothing is changed", () -> {
      Supplier<VtableTown> full = () -> {
        VtableTown x = plains(1);
        body(x, 0, 1, times(6, ADD, 1, 0));
        return x;
      };
      refused("a 7th STEP", STATE, full, x -> x.step(0, 1, ADD, 50, 0));
      refused("a 7th STEP that is none", ARGUMENT, full, x -> x.step(0, 1, ADD, 100, 0));
      due("what six give", full.get().run(0, 1), 6);
    });
    edge("promise 6", "IllegalStateException if it has no such METHOD with a BODY", () -> {
      Supplier<VtableTown> abstracts = () -> {
        VtableTown x = two();
        x.open(0, 2);
        x.open(1, 2);
        x.method(0, 3);
        return x;
      };
      for (int name : new int[] {0, 1, 2, 4, 5}) {
        refused("step(0, " + name + ")", STATE, abstracts, x -> x.step(0, name, ADD, 1, 0));
        refused("step(1, " + name + ")", STATE, abstracts, x -> x.step(1, name, ADD, 1, 0));
        refused("step(0, " + name + ") that is none", ARGUMENT, abstracts, x -> x.step(0, name, 9, 1, 0));
      }
    });
    edge("section 1", "each CLASS has a row for each NAME and one more: all of them full beside each other", () -> {
      VtableTown x = plains(12);
      for (int cls = 0; cls < 12; cls++) {
        for (int name = 0; name <= 5; name++) {
          body(x, cls, name, times(5, ADD, cls + 1, 0));
          due("the sixth", x.step(cls, name, name == 0 ? KEEP : ADD, name == 0 ? cls : 10 * name, 0), 6);
        }
        initialiser(x, cls, times(6, ADD, 99, 0));
        due("no STEP more", roomOfInitialiser(x, cls), 0);
      }
      for (int cls = 0; cls < 12; cls++) {
        for (int name = 1; name <= 5; name++) {
          due("what it gives", x.run(cls, name), 5 * (cls + 1) + 10 * name);
        }
        due("what its MAKER keeps", x.ofClass(cls, 4), 5 * (cls + 1));
      }
    });
  }

  private static VtableTown withBody() {
    VtableTown x = plains(1);
    x.method(0, 1);
    return x;
  }

  private static void allowed(int kind, int a, int b) {
    due("step of " + kind + ", " + a + ", " + b, withBody().step(0, 1, kind, a, b), 1);
  }

  private static void forbidden(int kind, int a, int b) {
    String what = "step of " + kind + ", " + a + ", " + b;
    refused(what, ARGUMENT, TellEdgeTest::withBody, x -> x.step(0, 1, kind, a, b));
  }

  /** The lowest and the highest a of a KIND, with the b; one below and one above that are none. */
  private static void ends(int kind, int low, int high, int b) {
    for (int a = low; a <= high; a++) {
      allowed(kind, a, b);
    }
    for (int bad : new int[] {low - 1, high + 1, low - 2, high + 2, LOW, HIGH}) {
      forbidden(kind, bad, b);
    }
  }

  private static void onlyB0(int kind, int a) {
    for (int bad : new int[] {-1, 1, 2, 5, LOW, HIGH}) {
      forbidden(kind, a, bad);
    }
  }

  private static void kindsOfSteps() {
    edge("promise 6", "kind is 0 to 8", () -> {
      for (int kind = 0; kind <= 8; kind++) {
        allowed(kind, 1, kind == MAKE ? 1 : 0);
      }
      for (int bad : new int[] {-1, -2, 9, 10, LOW, HIGH}) {
        forbidden(bad, 1, 0);
        forbidden(bad, 1, 1);
        forbidden(bad, 0, 0);
      }
    });
    edge("section 1", "ADD: a is -99 to 99", () -> ends(ADD, -99, 99, 0));
    edge("section 1", "GET: a is a FIELD, 0 to 3", () -> ends(GET, 0, 3, 0));
    edge("section 1", "PUT: a is a FIELD, 0 to 3", () -> ends(PUT, 0, 3, 0));
    edge("section 1", "CALL: a is a NAME, 1 to 5", () -> ends(CALL, 1, 5, 0));
    edge("section 1", "SUPER: a is a NAME, 1 to 5", () -> ends(SUPER, 1, 5, 0));
    edge("section 1", "MAKE: a is a CLASS, 0 to 11, told or not", () -> ends(MAKE, 0, 11, 1));
    edge("section 1", "READ: a is a CLASS, 0 to 11, told or not", () -> ends(READ, 0, 11, 0));
    edge("section 1", "KEEP: a is a CLASS, 0 to 11, told or not", () -> ends(KEEP, 0, 11, 0));
    edge("section 1", "IS: a is a CLASS, 0 to 11, told or not", () -> ends(IS, 0, 11, 0));
    edge("section 1", "MAKE: b is a NAME, 1 to 5", () -> {
      for (int b = 1; b <= 5; b++) {
        allowed(MAKE, 0, b);
        allowed(MAKE, 11, b);
      }
      for (int bad : new int[] {0, 6, -1, 7, LOW, HIGH}) {
        forbidden(MAKE, 0, bad);
        forbidden(MAKE, 11, bad);
      }
    });
    edge("section 1", "b is 0, but with MAKE", () -> {
      for (int kind : new int[] {ADD, GET, PUT, CALL, SUPER, READ, KEEP, IS}) {
        allowed(kind, 1, 0);
        onlyB0(kind, 1);
      }
    });
    edge("section 1", "the last a of ADD on both sides is what is added", () -> {
      VtableTown x = plains(1);
      body(x, 0, 1, ADD, 99, 0);
      body(x, 0, 2, ADD, -99, 0);
      body(x, 0, 3, ADD, 0, 0);
      due("99", x.run(0, 1), 99);
      due("-99", x.run(0, 2), -99);
      due("0", x.run(0, 3), 0);
    });
  }

  private static void stepsRefused() {
    edge("promise 6", "no such CLASS, or NAME, goes ahead of a STEP that is none", () -> {
      refused("a wrong CLASS", INDEX, TellEdgeTest::withBody, x -> x.step(1, 1, 9, 0, 0));
      refused("a wrong CLASS", INDEX, TellEdgeTest::withBody, x -> x.step(-1, 1, ADD, 100, 0));
      refused("a wrong NAME", INDEX, TellEdgeTest::withBody, x -> x.step(0, 6, -1, 0, 0));
      refused("a wrong NAME", INDEX, TellEdgeTest::withBody, x -> x.step(0, -1, ADD, 0, 1));
    });
    edge("promise 7", "no such CLASS goes ahead of a STEP that is none", () -> {
      refused("a wrong CLASS", INDEX, TellEdgeTest::withBody, x -> x.first(1, 9, 0, 0));
      refused("a wrong CLASS", INDEX, TellEdgeTest::withBody, x -> x.first(-1, GET, 0, 0));
    });
  }

  private static void initialisers() {
    edge("promise 7", "kind is 0, 5, 6 or 7", () -> {
      for (int kind : new int[] {ADD, MAKE, READ, KEEP}) {
        due("first of " + kind, two().first(0, kind, 1, kind == MAKE ? 1 : 0), 1);
        due("first of " + kind + " of an INTERFACE", two().first(1, kind, 1, kind == MAKE ? 1 : 0), 1);
      }
      for (int bad : new int[] {LOW, -2, -1, GET, PUT, CALL, SUPER, IS, 9, 10, HIGH}) {
        refused("first of " + bad, ARGUMENT, TellEdgeTest::two, x -> x.first(0, bad, 1, 0));
        refused("first of " + bad + " with 1", ARGUMENT, TellEdgeTest::two, x -> x.first(1, bad, 1, 1));
      }
    });
    edge("promise 7", "a or b is as section 1 says", () -> {
      int[][] right = {{ADD, -99, 0}, {ADD, 99, 0}, {MAKE, 0, 1}, {MAKE, 0, 5}, {MAKE, 11, 1}, {MAKE, 11, 5},
        {READ, 0, 0}, {READ, 11, 0}, {KEEP, 0, 0}, {KEEP, 11, 0}};
      for (int[] s : right) {
        due("first of " + s[0] + ", " + s[1] + ", " + s[2], two().first(0, s[0], s[1], s[2]), 1);
      }
      int[][] bad = {{ADD, -100, 0}, {ADD, 100, 0}, {ADD, 1, 1}, {ADD, 1, -1}, {MAKE, -1, 1}, {MAKE, 12, 1},
        {MAKE, 0, 0}, {MAKE, 0, 6}, {MAKE, 0, -1}, {READ, -1, 0}, {READ, 12, 0}, {READ, 0, 1}, {READ, 0, -1},
        {KEEP, -1, 0}, {KEEP, 12, 0}, {KEEP, 0, 1}, {KEEP, 0, -1}, {ADD, LOW, 0}, {ADD, HIGH, 0}, {ADD, 0, LOW},
        {MAKE, LOW, 1}, {MAKE, 1, HIGH}, {READ, HIGH, 0}, {KEEP, LOW, 0}};
      for (int[] s : bad) {
        refused("first of " + s[0] + ", " + s[1] + ", " + s[2], ARGUMENT, TellEdgeTest::two,
            x -> x.first(0, s[0], s[1], s[2]));
      }
    });
    edge("promise 7", "an INITIALISER is a row of at most 6 STEPS; how many it has then", () -> {
      for (int cls = 0; cls <= 1; cls++) {
        VtableTown x = two();
        for (int n = 1; n <= 6; n++) {
          due("STEP", x.first(cls, ADD, 1, 0), n);
        }
        int full = cls;
        throwsJust("the 7th", STATE, () -> x.first(full, ADD, 1, 0));
        due("the other one has its own", x.first(1 - cls, ADD, 1, 0), 1);
      }
    });
    edge("promise 7", "IllegalStateException if it has 6 STEPS, and nothing is changed", () -> {
      Supplier<VtableTown> full = () -> {
        VtableTown x = two();
        initialiser(x, 0, times(6, ADD, 1, 0));
        return x;
      };
      refused("a 7th STEP", STATE, full, x -> x.first(0, KEEP, 0, 0));
      refused("a 7th STEP that is none", ARGUMENT, full, x -> x.first(0, KEEP, 12, 0));
      refused("a 7th STEP of a wrong KIND", ARGUMENT, full, x -> x.first(0, GET, 0, 0));
      refused("of no CLASS", INDEX, full, x -> x.first(2, GET, 0, 0));
    });
  }

  // ---- promise 8

  private static void fields() {
    edge("promise 8", "FIELDS are 0 to 3; whether it did not DECLARE it", () -> {
      for (int field = 0; field <= 3; field++) {
        VtableTown x = plains(1);
        for (int other = 0; other <= 3; other++) {
          due("at first", x.field(0, other) ? 1 : 0, 1);
          due("then", x.field(0, other) ? 1 : 0, 0);
        }
        VtableTown y = plains(2);
        y.field(0, field);
        for (int other = 0; other <= 3; other++) {
          due("the others at first", y.field(0, other) ? 1 : 0, other == field ? 0 : 1);
          due("of another CLASS", y.field(1, other) ? 1 : 0, 1);
        }
      }
    });
    edge("promise 8", "one that it DECLARES stays so, however often it is told", () -> {
      VtableTown x = plains(1);
      body(x, 0, 1, ADD, 4, 0, PUT, 2, 0, GET, 2, 0);
      due("without it", x.wouldRun(0, 1), -10007);
      due("the first time", x.field(0, 2) ? 1 : 0, 1);
      due("with it", x.wouldRun(0, 1), 8);
      due("the second time", x.field(0, 2) ? 1 : 0, 0);
      due("with it still", x.wouldRun(0, 1), 8);
      due("the third time", x.field(0, 2) ? 1 : 0, 0);
      due("with it still", x.run(0, 1), 8);
    });
    edge("promise 8", "IllegalArgumentException if it is an INTERFACE", () -> {
      for (int field = 0; field <= 3; field++) {
        int f = field;
        refused("field(1, " + f + ")", ARGUMENT, TellEdgeTest::two, x -> x.field(1, f) ? 1 : 0);
      }
    });
    edge("promise 8", "no such FIELD goes ahead of an INTERFACE", () -> {
      for (int bad : new int[] {LOW, -1, 4, HIGH}) {
        refused("field(1, " + bad + ")", INDEX, TellEdgeTest::two, x -> x.field(1, bad) ? 1 : 0);
      }
    });
  }

  // ---- FRESH

  /** 0 PLAIN, LOADED; 1 an INTERFACE, LOADED; 2 PLAIN, BROKEN; 3 an INTERFACE, BROKEN; 4 and 5 FRESH. Each with a BODY. */
  private static VtableTown settled() {
    VtableTown x = new VtableTown();
    x.plain(NONE, 0);
    x.face(0);
    x.plain(11, 0);
    x.face(2048);
    x.plain(NONE, 0);
    x.face(0);
    for (int cls = 0; cls <= 5; cls++) {
      body(x, cls, 1, ADD, 3, 0);
      x.open(cls, 2);
    }
    x.load(0);
    x.load(1);
    x.load(2);
    x.load(3);
    return x;
  }

  private static void refusedOfSettled(String what, Class<?> wanted, int cls, ToLongFunction<VtableTown> call) {
    refused(what + " of the CLASS " + cls, wanted, TellEdgeTest::settled, call);
  }

  private static void freshOnly() {
    for (int n = 0; n <= 3; n++) {
      int cls = n;
      boolean face = cls % 2 == 1;
      String who = (face ? "an INTERFACE" : "a PLAIN one") + (cls < 2 ? " that is LOADED" : " that is BROKEN");
      edge("promise 4", "IllegalStateException if it is not FRESH: " + who, () -> {
        for (int name = face ? 1 : 0; name <= 5; name++) {
          int m = name;
          refusedOfSettled("method", STATE, cls, x -> x.method(cls, m));
        }
        refusedOfSettled("a wrong NAME", INDEX, cls, x -> x.method(cls, 6));
        if (face) {
          refusedOfSettled("a MAKER", ARGUMENT, cls, x -> x.method(cls, 0));
        }
      });
      edge("promise 5", "IllegalStateException if it is not FRESH: " + who, () -> {
        for (int name = 1; name <= 5; name++) {
          int m = name;
          refusedOfSettled("open", STATE, cls, x -> x.open(cls, m));
        }
        refusedOfSettled("a wrong NAME", INDEX, cls, x -> x.open(cls, 6));
        refusedOfSettled("a MAKER", ARGUMENT, cls, x -> x.open(cls, 0));
      });
      edge("promise 6", "IllegalStateException if it is not FRESH: " + who, () -> {
        refusedOfSettled("a BODY with room", STATE, cls, x -> x.step(cls, 1, ADD, 1, 0));
        refusedOfSettled("an ABSTRACT one", STATE, cls, x -> x.step(cls, 2, ADD, 1, 0));
        refusedOfSettled("none", STATE, cls, x -> x.step(cls, 3, ADD, 1, 0));
        refusedOfSettled("a wrong NAME", INDEX, cls, x -> x.step(cls, 6, ADD, 1, 0));
        refusedOfSettled("a wrong STEP", ARGUMENT, cls, x -> x.step(cls, 1, ADD, 100, 0));
      });
      edge("promise 7", "IllegalStateException if it is not FRESH: " + who, () -> {
        refusedOfSettled("first", STATE, cls, x -> x.first(cls, ADD, 1, 0));
        refusedOfSettled("a wrong STEP", ARGUMENT, cls, x -> x.first(cls, IS, 1, 0));
      });
      edge("promise 8", "IllegalStateException if it is not FRESH: " + who, () -> {
        for (int field = 0; field <= 3; field++) {
          int f = field;
          refusedOfSettled("field", face ? ARGUMENT : STATE, cls, x -> x.field(cls, f) ? 1 : 0);
        }
        refusedOfSettled("a wrong FIELD", INDEX, cls, x -> x.field(cls, 4) ? 1 : 0);
      });
    }
    edge("section 1", "all about a CLASS can be told as long as it is FRESH, whatever others are", () -> {
      for (int cls = 4; cls <= 5; cls++) {
        VtableTown x = settled();
        due("method", x.method(cls, 2), 1);
        due("open", x.open(cls, 3), 0);
        due("step", x.step(cls, 1, ADD, 4, 0), 2);
        due("first", x.first(cls, KEEP, cls, 0), 1);
        if (cls == 4) {
          due("field", x.field(4, 3) ? 1 : 0, 1);
          due("run", x.run(4, 1), 7);
        }
      }
    });
    edge("section 1", "what only would be leaves it FRESH", () -> {
      VtableTown x = withBody();
      x.wouldRun(0, 1);
      x.wouldLoad(0);
      due("a STEP", x.step(0, 1, ADD, 5, 0), 1);
      due("a FIELD", x.field(0, 0) ? 1 : 0, 1);
      due("run", x.run(0, 1), 5);
      throwsJust("a STEP behind a run", STATE, () -> x.step(0, 1, ADD, 5, 0));
    });
  }
}
