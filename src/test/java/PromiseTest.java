/**
 * The promises one by one: ordinary inputs, the edges that the document names, wrong inputs, and
 * which exception comes first. All that is due here was worked out by hand from the document.
 */
public final class PromiseTest {
  private static final int ADD = 0;
  private static final int GET = 1;
  private static final int PUT = 2;
  private static final int CALL = 3;
  private static final int SUPER = 4;
  private static final int MAKE = 5;
  private static final int READ = 6;
  private static final int KEEP = 7;
  private static final int IS = 8;

  private static final String INDEX = "IndexOutOfBoundsException";
  private static final String ARGUMENT = "IllegalArgumentException";
  private static final String STATE = "IllegalStateException";

  private static final int[] BAD = {Integer.MIN_VALUE, -100000, -2, 4096, 100000, Integer.MAX_VALUE};

  private static int promise;
  private static int passed;
  private static int wrong;

  private interface Call {
    long answer();
  }

  private static void due(String what, long got, long want) {
    if (got == want) {
      passed++;
    } else {
      wrong++;
      System.out.println("promise " + promise + ": " + what + " answered " + got + ", due is " + want);
    }
  }

  private static void dueD(String what, double got, double want) {
    if (got == want) {
      passed++;
    } else {
      wrong++;
      System.out.println("promise " + promise + ": " + what + " answered " + got + ", due is " + want);
    }
  }

  /** The call throws just that, and changes nothing. */
  private static void refused(VtableTown x, String what, String wanted, Call call) {
    long ahead = x.digest();
    String got = "nothing";
    try {
      call.answer();
    } catch (RuntimeException e) {
      got = e.getClass().getSimpleName();
    }
    if (!got.equals(wanted)) {
      wrong++;
      System.out.println("promise " + promise + ": " + what + " threw " + got + ", due is " + wanted);
    }
    due(what + " and the digest behind it", x.digest(), ahead);
  }

  private static void body(VtableTown x, int cls, int name, int... steps) {
    x.method(cls, name);
    for (int i = 0; i + 2 < steps.length; i += 3) {
      x.step(cls, name, steps[i], steps[i + 1], steps[i + 2]);
    }
  }

  private static void initialiser(VtableTown x, int cls, int... steps) {
    for (int i = 0; i + 2 < steps.length; i += 3) {
      x.first(cls, steps[i], steps[i + 1], steps[i + 2]);
    }
  }

  public static void main(String[] args) {
    newObject();
    plain();
    face();
    method();
    open();
    step();
    first();
    field();
    load();
    run();
    runFields();
    runMakers();
    runSupers();
    runStatics();
    runLimits();
    longLine();
    runFaults();
    ofClass();
    finds();
    slot();
    ofPlace();
    many();
    meanCost();
    costs();
    wouldRun();
    wouldCost();
    wouldLoad();
    wouldTurn();
    wouldWarm();
    digest();
    System.out.println("PromiseTest: " + passed + " answers are as due, " + wrong + " are not");
    if (wrong != 0) {
      System.exit(1);
    }
  }

  private static void newObject() {
    promise = 1;
    VtableTown x = new VtableTown();
    for (int what = 0; what <= 13; what++) {
      due("many(" + what + ") of a new one", x.many(what), 0);
    }
    dueD("meanCost() of a new one", x.meanCost(), 0);
    refused(x, "ofClass(0, 0)", INDEX, () -> x.ofClass(0, 0));
    VtableTown y = new VtableTown();
    x.plain(-1, 0);
    due("many(0) of another one", y.many(0), 0);
  }

  private static void plain() {
    promise = 2;
    VtableTown x = new VtableTown();
    for (int bad : BAD) {
      refused(x, "plain(" + bad + ", 0)", ARGUMENT, () -> x.plain(bad, 0));
      refused(x, "plain(-1, " + bad + ")", ARGUMENT, () -> x.plain(-1, bad));
    }
    refused(x, "plain(12, 0)", ARGUMENT, () -> x.plain(12, 0));
    refused(x, "plain(-1, -1)", ARGUMENT, () -> x.plain(-1, -1));
    refused(x, "plain(0, 0) as 0", ARGUMENT, () -> x.plain(0, 0));
    due("plain(11, 4095)", x.plain(11, 4095), 0);
    refused(x, "plain(1, 0) as 1", ARGUMENT, () -> x.plain(1, 0));
    due("plain(0, 0)", x.plain(0, 0), 1);
    due("it is plain", x.ofClass(1, 0), 0);
    due("it is fresh", x.ofClass(1, 1), 0);
    for (int n = 2; n < 12; n++) {
      due("plain(-1, 0)", x.plain(-1, 0), n);
    }
    refused(x, "a 13th", STATE, () -> x.plain(-1, 0));
    refused(x, "a 13th with parent 11", STATE, () -> x.plain(11, 0));
    refused(x, "a 13th with a wrong parent", ARGUMENT, () -> x.plain(12, 0));
    refused(x, "a 13th with wrong interfaces", ARGUMENT, () -> x.plain(-1, 4096));
  }

  private static void face() {
    promise = 3;
    VtableTown x = new VtableTown();
    for (int bad : BAD) {
      refused(x, "face(" + bad + ")", ARGUMENT, () -> x.face(bad));
    }
    due("face(4095)", x.face(4095), 0);
    due("it is an interface", x.ofClass(0, 0), 1);
    due("face(1)", x.face(1), 1);
    for (int n = 2; n < 12; n++) {
      due("face(0)", x.face(0), n);
    }
    refused(x, "a 13th", STATE, () -> x.face(0));
    refused(x, "a 13th with wrong interfaces", ARGUMENT, () -> x.face(-1));
  }

  private static void method() {
    promise = 4;
    VtableTown x = new VtableTown();
    x.plain(-1, 0);
    x.face(0);
    due("none was there", x.method(0, 1), 0);
    due("one with a body was there", x.method(0, 1), 2);
    x.open(0, 1);
    due("an abstract one was there", x.method(0, 1), 1);
    due("a maker", x.method(0, 0), 0);
    due("a maker again", x.method(0, 0), 2);
    due("in an interface", x.method(1, 5), 0);
    x.step(0, 1, ADD, 7, 0);
    x.method(0, 1);
    due("the new body is empty", x.wouldRun(0, 1), 0);
    due("a step is its first one", x.step(0, 1, ADD, 8, 0), 1);
    refused(x, "method(2, 1)", INDEX, () -> x.method(2, 1));
    refused(x, "method(-1, 1)", INDEX, () -> x.method(-1, 1));
    refused(x, "method(0, 6)", INDEX, () -> x.method(0, 6));
    refused(x, "method(1, -1)", INDEX, () -> x.method(1, -1));
    refused(x, "the maker of an interface", ARGUMENT, () -> x.method(1, 0));
    for (int bad : BAD) {
      refused(x, "method(" + bad + ", 1)", INDEX, () -> x.method(bad, 1));
      refused(x, "method(0, " + bad + ")", INDEX, () -> x.method(0, bad));
    }
    x.load(0);
    x.load(1);
    refused(x, "method(0, 1) as it is loaded", STATE, () -> x.method(0, 1));
    refused(x, "method(0, 6) as it is loaded", INDEX, () -> x.method(0, 6));
    refused(x, "method(1, 0) as it is loaded", ARGUMENT, () -> x.method(1, 0));
    x.plain(9, 0);
    x.load(2);
    refused(x, "method(2, 1) as it is broken", STATE, () -> x.method(2, 1));
  }

  private static void open() {
    promise = 5;
    VtableTown x = new VtableTown();
    x.plain(-1, 0);
    x.face(0);
    due("none was there", x.open(0, 1), 0);
    due("an abstract one was there", x.open(0, 1), 1);
    body(x, 0, 2, ADD, 4, 0);
    due("one with a body was there", x.open(0, 2), 2);
    refused(x, "a step of it", STATE, () -> x.step(0, 2, ADD, 1, 0));
    due("and then", x.method(0, 2), 1);
    due("the steps of it are gone", x.wouldRun(0, 2), 0);
    due("an abstract one gives a fault", x.wouldRun(0, 1), -10004);
    due("in an interface", x.open(1, 5), 0);
    refused(x, "open(0, 0)", ARGUMENT, () -> x.open(0, 0));
    refused(x, "open(1, 0)", ARGUMENT, () -> x.open(1, 0));
    refused(x, "open(2, 0)", INDEX, () -> x.open(2, 0));
    refused(x, "open(0, 6)", INDEX, () -> x.open(0, 6));
    for (int bad : BAD) {
      refused(x, "open(" + bad + ", 1)", INDEX, () -> x.open(bad, 1));
      refused(x, "open(0, " + bad + ")", INDEX, () -> x.open(0, bad));
    }
    x.load(0);
    refused(x, "open(0, 3) as it is loaded", STATE, () -> x.open(0, 3));
    refused(x, "open(0, 0) as it is loaded", ARGUMENT, () -> x.open(0, 0));
  }

  private static void step() {
    promise = 6;
    VtableTown x = new VtableTown();
    x.plain(-1, 0);
    x.face(0);
    body(x, 0, 1);
    body(x, 0, 0);
    due("the first", x.step(0, 1, ADD, 99, 0), 1);
    due("the second", x.step(0, 1, ADD, -99, 0), 2);
    due("of the maker", x.step(0, 0, CALL, 5, 0), 1);
    int[][] right = {{GET, 0, 0}, {GET, 3, 0}, {PUT, 0, 0}, {PUT, 3, 0}, {CALL, 1, 0}, {CALL, 5, 0}, {SUPER, 1, 0},
      {SUPER, 5, 0}, {MAKE, 0, 1}, {MAKE, 11, 5}, {READ, 0, 0}, {READ, 11, 0}, {KEEP, 0, 0}, {KEEP, 11, 0},
      {IS, 0, 0}, {IS, 11, 0}, {ADD, 0, 0}};
    for (int[] s : right) {
      x.method(0, 2);
      due("a right step of kind " + s[0], x.step(0, 2, s[0], s[1], s[2]), 1);
    }
    int[][] bad = {{-1, 0, 0}, {9, 0, 0}, {ADD, 100, 0}, {ADD, -100, 0}, {ADD, 1, 1}, {GET, -1, 0}, {GET, 4, 0},
      {GET, 0, 1}, {PUT, -1, 0}, {PUT, 4, 0}, {PUT, 0, -1}, {CALL, 0, 0}, {CALL, 6, 0}, {CALL, 1, 1},
      {SUPER, 0, 0}, {SUPER, 6, 0}, {SUPER, 1, 1}, {MAKE, -1, 1}, {MAKE, 12, 1}, {MAKE, 0, 0}, {MAKE, 0, 6},
      {READ, -1, 0}, {READ, 12, 0}, {READ, 0, 1}, {KEEP, -1, 0}, {KEEP, 12, 0}, {KEEP, 0, 1}, {IS, -1, 0},
      {IS, 12, 0}, {IS, 0, 1}, {Integer.MIN_VALUE, 0, 0}, {Integer.MAX_VALUE, 0, 0}, {ADD, Integer.MIN_VALUE, 0}};
    x.method(0, 2);
    for (int[] s : bad) {
      String what = "step(0, 2, " + s[0] + ", " + s[1] + ", " + s[2] + ")";
      refused(x, what, ARGUMENT, () -> x.step(0, 2, s[0], s[1], s[2]));
      refused(x, what + " without a method", ARGUMENT, () -> x.step(0, 3, s[0], s[1], s[2]));
      refused(x, what + " without a class", INDEX, () -> x.step(2, 3, s[0], s[1], s[2]));
    }
    refused(x, "a wrong name", INDEX, () -> x.step(0, 6, 9, 0, 0));
    refused(x, "a wrong name", INDEX, () -> x.step(0, -1, 9, 0, 0));
    refused(x, "a wrong class", INDEX, () -> x.step(-1, 1, 9, 0, 0));
    refused(x, "no method", STATE, () -> x.step(0, 3, ADD, 1, 0));
    refused(x, "no maker of an interface", STATE, () -> x.step(1, 0, ADD, 1, 0));
    x.open(0, 3);
    refused(x, "an abstract one", STATE, () -> x.step(0, 3, ADD, 1, 0));
    for (int n = 3; n <= 6; n++) {
      due("one more", x.step(0, 1, ADD, 1, 0), n);
    }
    refused(x, "a 7th", STATE, () -> x.step(0, 1, ADD, 1, 0));
    refused(x, "a 7th that is wrong", ARGUMENT, () -> x.step(0, 1, ADD, 100, 0));
    x.load(0);
    refused(x, "a step as it is loaded", STATE, () -> x.step(0, 2, ADD, 1, 0));
    refused(x, "a wrong step as it is loaded", ARGUMENT, () -> x.step(0, 2, ADD, 1, 1));
  }

  private static void first() {
    promise = 7;
    VtableTown x = new VtableTown();
    x.plain(-1, 0);
    x.face(0);
    due("the first", x.first(0, ADD, 99, 0), 1);
    due("the second", x.first(0, KEEP, 0, 0), 2);
    due("the third", x.first(0, READ, 11, 0), 3);
    due("the fourth", x.first(0, MAKE, 11, 5), 4);
    due("of an interface", x.first(1, KEEP, 1, 0), 1);
    for (int kind : new int[] {GET, PUT, CALL, SUPER, IS, -1, 9, Integer.MIN_VALUE, Integer.MAX_VALUE}) {
      refused(x, "kind " + kind, ARGUMENT, () -> x.first(0, kind, 1, 0));
    }
    refused(x, "add 100", ARGUMENT, () -> x.first(0, ADD, 100, 0));
    refused(x, "add with b", ARGUMENT, () -> x.first(0, ADD, 1, 1));
    refused(x, "make 12", ARGUMENT, () -> x.first(0, MAKE, 12, 1));
    refused(x, "make with the maker", ARGUMENT, () -> x.first(0, MAKE, 1, 0));
    refused(x, "read -1", ARGUMENT, () -> x.first(0, READ, -1, 0));
    refused(x, "keep with b", ARGUMENT, () -> x.first(0, KEEP, 1, 1));
    for (int bad : new int[] {-1, 2, Integer.MIN_VALUE, Integer.MAX_VALUE}) {
      refused(x, "first(" + bad + ")", INDEX, () -> x.first(bad, 1, 0, 0));
    }
    due("the fifth", x.first(0, ADD, 0, 0), 5);
    due("the sixth", x.first(0, ADD, 0, 0), 6);
    refused(x, "the seventh", STATE, () -> x.first(0, ADD, 0, 0));
    refused(x, "the seventh, wrong", ARGUMENT, () -> x.first(0, GET, 0, 0));
    x.load(1);
    refused(x, "as it is loaded", STATE, () -> x.first(1, ADD, 0, 0));
    refused(x, "wrong as it is loaded", ARGUMENT, () -> x.first(1, ADD, 0, 1));
  }

  private static void field() {
    promise = 8;
    VtableTown x = new VtableTown();
    x.plain(-1, 0);
    x.face(0);
    due("field 3", x.field(0, 3) ? 1 : 0, 1);
    due("field 3 again", x.field(0, 3) ? 1 : 0, 0);
    due("field 0", x.field(0, 0) ? 1 : 0, 1);
    due("field 3 is declared still", x.field(0, 3) ? 1 : 0, 0);
    for (int bad : new int[] {-1, 4, Integer.MIN_VALUE, Integer.MAX_VALUE}) {
      refused(x, "field(0, " + bad + ")", INDEX, () -> x.field(0, bad) ? 1 : 0);
      refused(x, "field(1, " + bad + ")", INDEX, () -> x.field(1, bad) ? 1 : 0);
    }
    for (int bad : new int[] {-1, 2, Integer.MIN_VALUE, Integer.MAX_VALUE}) {
      refused(x, "field(" + bad + ", 0)", INDEX, () -> x.field(bad, 0) ? 1 : 0);
    }
    refused(x, "of an interface", ARGUMENT, () -> x.field(1, 0) ? 1 : 0);
    x.load(0);
    x.load(1);
    refused(x, "as it is loaded", STATE, () -> x.field(0, 1) ? 1 : 0);
    refused(x, "of an interface that is loaded", ARGUMENT, () -> x.field(1, 0) ? 1 : 0);
  }

  private static void load() {
    promise = 9;
    VtableTown x = new VtableTown();
    for (int bad : new int[] {-1, 12, Integer.MIN_VALUE, Integer.MAX_VALUE}) {
      refused(x, "load(" + bad + ")", INDEX, () -> x.load(bad));
    }
    due("one that is not told", x.load(0), 1);
    x.plain(1, 12);
    x.plain(-1, 0);
    x.face(16);
    x.face(0);
    x.face(0);
    due("with all that it names", x.load(0), 0);
    due("and again", x.load(0), 0);
    int[] orders = {4, 0, 2, 3, 1};
    for (int cls = 0; cls < 5; cls++) {
      due("when it became loaded", x.ofClass(cls, 8), orders[cls]);
    }
    due("loading initialises nothing", x.ofClass(0, 3), 0);
    due("it is no run", x.many(11), 0);
    due("5 names 5 as its interface", x.plain(-1, 32), 5);
    due("and that is the fault 2", x.load(5), 2);
    x.face(128);
    x.face(64);
    x.plain(-1, 64);
    due("a ring of interfaces", x.load(8), 2);
    due("both are broken", x.ofClass(6, 2) * 10 + x.ofClass(7, 2), 22);
    x.plain(-1, 2 + 1024);
    due("an interface that is plain comes ahead of one that is not told", x.load(9), 3);
    due("it stays so", x.load(9), 3);
    x.plain(3, 0);
    due("a parent that is an interface", x.load(10), 3);
    x.plain(10, 8);
    due("a broken parent gives its fault", x.load(11), 3);
    loadStopsAtFault();
  }

  private static void loadStopsAtFault() {
    VtableTown x = new VtableTown();
    x.plain(1, 4);
    x.face(0);
    x.face(0);
    due("a parent that is an interface", x.load(0), 3);
    due("the parent is loaded", x.ofClass(1, 1), 1);
    due("nothing more is loaded for it", x.ofClass(2, 1), 0);
    x.plain(-1, 16 + 32 + 4);
    due("one that is not told", x.load(3), 1);
    due("what came ahead of that is loaded", x.ofClass(2, 1), 1);
    due("it is broken", x.ofClass(3, 1), 2);
    x.plain(-1, 0);
    due("for good", x.load(3), 1);
    x.plain(6, 0);
    x.plain(5, 0);
    due("a ring of parents", x.load(5), 2);
    due("the other one is broken, too", x.ofClass(6, 1) * 10 + x.ofClass(6, 2), 22);
  }

  private static void run() {
    promise = 10;
    VtableTown x = new VtableTown();
    for (int bad : new int[] {-1, 12, Integer.MIN_VALUE, Integer.MAX_VALUE}) {
      refused(x, "run(" + bad + ", 1)", INDEX, () -> x.run(bad, 1));
    }
    for (int bad : new int[] {0, 6, -1, Integer.MIN_VALUE, Integer.MAX_VALUE}) {
      refused(x, "run(0, " + bad + ")", INDEX, () -> x.run(0, bad));
    }
    due("one that is not told", x.run(0, 1), -10001);
    due("it is a run all the same", x.many(11), 1);
    x.plain(-1, 0);
    body(x, 0, 1, ADD, 99, 0, CALL, 2, 0, CALL, 3, 0);
    body(x, 0, 2, ADD, -5, 0);
    body(x, 0, 3);
    due("adds and calls", x.run(0, 1), 94);
    due("an empty body", x.run(0, 3), 0);
    due("a name that is not there", x.run(0, 4), -10004);
    x.face(0);
    body(x, 1, 1);
    due("an interface", x.run(1, 1), -10003);
    due("that is loaded all the same", x.ofClass(1, 1), 1);
    x.face(2048);
    due("an interface that is broken", x.run(2, 1), -10001);
    due("and not initialised", x.ofClass(1, 3), 0);
    runHolds();
    runIs();
  }

  /** 6 * 99, six times that, six times that: held to 9999 behind each STEP. */
  private static void runHolds() {
    VtableTown x = new VtableTown();
    x.plain(-1, 0);
    for (int sign = 1; sign >= -1; sign -= 2) {
      int cls = x.plain(-1, 0);
      body(x, cls, 1, CALL, 2, 0, CALL, 2, 0, CALL, 2, 0, ADD, -sign, 0);
      body(x, cls, 2, CALL, 3, 0, CALL, 3, 0, CALL, 3, 0, CALL, 3, 0, CALL, 3, 0, CALL, 3, 0);
      body(x, cls, 3, ADD, 99 * sign, 0, ADD, 99 * sign, 0, ADD, 99 * sign, 0, ADD, 99 * sign, 0, ADD, 99 * sign, 0,
          ADD, 99 * sign, 0);
      due("held behind each step", x.run(cls, 1), 9998 * sign);
      due("not held yet", x.run(cls, 2), 3564 * sign);
    }
  }

  private static void runIs() {
    VtableTown x = new VtableTown();
    x.face(0);
    x.face(1);
    x.plain(-1, 2);
    x.plain(2, 0);
    x.plain(-1, 0);
    body(x, 2, 1, IS, 0, 0, IS, 1, 0, IS, 2, 0, IS, 3, 0, IS, 4, 0);
    due("a parent is of itself and its interfaces", x.run(2, 1), 3);
    due("is loads", x.ofClass(4, 1), 1);
    due("is does not initialise", x.ofClass(4, 3), 0);
    due("a child of all but the last", x.run(3, 1), 4);
    x.plain(-1, 0);
    body(x, 5, 1, IS, 11, 0);
    due("is of one that is not told", x.run(5, 1), -10001);
  }

  private static void runFields() {
    VtableTown x = new VtableTown();
    x.plain(-1, 0);
    x.field(0, 1);
    body(x, 0, 1, ADD, 5, 0, PUT, 1, 0, GET, 1, 0, CALL, 2, 0);
    body(x, 0, 2, GET, 1, 0);
    x.plain(0, 0);
    x.field(1, 1);
    body(x, 1, 2, ADD, 70, 0, PUT, 1, 0, CALL, 3, 0);
    body(x, 1, 3, GET, 1, 0, SUPER, 2, 0);
    x.plain(1, 0);
    body(x, 2, 4, GET, 1, 0);
    due("put and get", x.run(0, 1), 15);
    // 5, the own one 5 is added, then 70 + (70 + the parent's 5)
    due("the child's field beside the parent's", x.run(1, 1), 155);
    due("a new object begins with 0", x.run(2, 4), 0);
    due("a get without a field", faultOf(GET, false), -10007);
    due("a put without a field", faultOf(PUT, false), -10007);
    due("a get in an interface", faultOf(GET, true), -10007);
    due("a put in an interface", faultOf(PUT, true), -10007);
  }

  /** The FIELD 2 where no CLASS of the LINE DECLARES it, or from the METHOD of an INTERFACE. */
  private static long faultOf(int kind, boolean inInterface) {
    VtableTown x = new VtableTown();
    x.face(0);
    x.plain(-1, 1);
    x.plain(1, 0);
    x.field(2, 2);
    if (inInterface) {
      x.field(1, 2);
    }
    body(x, inInterface ? 0 : 1, 1, kind, 2, 0);
    return x.run(2, 1);
  }

  private static void runMakers() {
    VtableTown x = new VtableTown();
    x.plain(-1, 0);
    x.field(0, 0);
    body(x, 0, 0, ADD, 3, 0, PUT, 0, 0);
    body(x, 0, 1, GET, 0, 0);
    x.plain(0, 0);
    x.plain(1, 0);
    body(x, 2, 0, GET, 0, 0, GET, 0, 0, ADD, 1, 0, PUT, 0, 0, ADD, 50, 0);
    due("the maker of the parent alone", x.run(1, 1), 3);
    due("the end of the line first, then up to itself", x.run(2, 1), 7);
    x.plain(2, 0);
    body(x, 3, 0, CALL, 2, 0);
    body(x, 3, 2, ADD, 9, 0, PUT, 0, 0);
    body(x, 3, 3, MAKE, 2, 1, GET, 0, 0, MAKE, 3, 1, GET, 0, 0);
    due("a maker calls; objects stand beside each other", x.run(3, 3), 7 + 9 + 9 + 9);
    due("objects of just it", x.ofClass(2, 7), 2);
    due("objects of just it", x.ofClass(3, 7), 2);
    x.plain(-1, 0);
    body(x, 4, 0, READ, 11, 0);
    due("a fault in a maker", x.run(4, 1), -10001);
    due("the object was made ahead of its maker", x.ofClass(4, 7), 1);
    due("it is ready all the same", x.ofClass(4, 3), 2);
  }

  private static void runSupers() {
    VtableTown x = new VtableTown();
    x.face(0);
    body(x, 0, 2, ADD, 40, 0, CALL, 3, 0);
    body(x, 0, 4, SUPER, 3, 0);
    x.plain(-1, 1);
    body(x, 1, 1, ADD, 1, 0, CALL, 3, 0);
    body(x, 1, 3, ADD, 10, 0);
    x.plain(1, 0);
    body(x, 2, 1, SUPER, 1, 0, SUPER, 2, 0, ADD, 2, 0);
    body(x, 2, 3, SUPER, 3, 0, ADD, 20, 0);
    x.plain(2, 0);
    body(x, 3, 1, SUPER, 1, 0);
    body(x, 3, 5, SUPER, 5, 0);
    due("super runs on the own object", x.run(2, 1), (1 + 30) + (40 + 30) + 2);
    due("super goes by the class that has the method", x.run(3, 1), (1 + 30) + (40 + 30) + 2);
    due("super in an interface", x.run(1, 4), -10004);
    due("super where the parent finds none", x.run(3, 5), -10004);
    x.plain(-1, 0);
    body(x, 4, 1, SUPER, 1, 0);
    due("super without a parent", x.run(4, 1), -10004);
  }

  private static void runStatics() {
    VtableTown x = new VtableTown();
    x.face(0);
    initialiser(x, 0, ADD, 6, 0, KEEP, 0, 0);
    x.plain(-1, 1);
    initialiser(x, 1, ADD, 2, 0, KEEP, 1, 0, READ, 2, 0, KEEP, 1, 0);
    body(x, 1, 1, READ, 1, 0, READ, 0, 0);
    x.plain(1, 0);
    initialiser(x, 2, READ, 1, 0, ADD, 30, 0, KEEP, 2, 0);
    body(x, 2, 2, READ, 2, 0, KEEP, 1, 0, READ, 1, 0);
    due("an interface sleeps until it is read", x.load(2) * 10 + x.ofClass(0, 3), 0);
    // 1 begins; reads 2, that begins; its parent has begun, so 2 keeps 2 + 30; then 1 keeps 2 + 32
    due("initialisers that read each other", x.run(1, 1), 34 + 6);
    due("what 2 keeps", x.ofClass(2, 4), 32);
    due("the interface is ready", x.ofClass(0, 3), 2);
    due("once only", x.run(2, 2), 64);
    due("what 1 keeps then", x.ofClass(1, 4), 32);
    x.plain(-1, 0);
    initialiser(x, 3, KEEP, 11, 0);
    x.plain(3, 0);
    initialiser(x, 4, ADD, 1, 0, KEEP, 4, 0);
    body(x, 4, 1);
    due("a fault in the initialiser of the parent", x.run(4, 1), -10001);
    due("both have failed", x.ofClass(3, 3) * 10 + x.ofClass(4, 3), 33);
    due("its own initialiser was not run", x.ofClass(4, 4), 0);
    due("failed before", x.run(4, 1), -10006);
    due("no object was made", x.ofClass(4, 7), 0);
    x.plain(3, 0);
    due("a failed parent", x.run(5, 1), -10006);
    due("makes the child fail", x.ofClass(5, 3), 3);
    x.plain(-1, 0);
    body(x, 6, 1, ADD, 5, 0, KEEP, 5, 0);
    due("keep on a failed one", x.run(6, 1), -10006);
    due("keeps nothing", x.ofClass(5, 4), 0);
  }

  private static void runLimits() {
    VtableTown x = new VtableTown();
    x.plain(-1, 0);
    // 1 + 6 + 36 + 216 + ... STEPS: more than 400, 7 FRAMES at most
    body(x, 0, 1, CALL, 2, 0, CALL, 2, 0, CALL, 2, 0, CALL, 2, 0, CALL, 2, 0, CALL, 2, 0);
    body(x, 0, 2, CALL, 3, 0, CALL, 3, 0, CALL, 3, 0, CALL, 3, 0, CALL, 3, 0, CALL, 3, 0);
    body(x, 0, 3, CALL, 4, 0, CALL, 4, 0, CALL, 4, 0, CALL, 4, 0, CALL, 4, 0, CALL, 4, 0);
    body(x, 0, 4, ADD, 1, 0, ADD, 1, 0, ADD, 1, 0, ADD, 1, 0);
    due("more than 400 steps", x.run(0, 1), -10008);
    due("400 steps", x.many(13), 400);
    due("6 + 36 + 144 steps", x.run(0, 2) * 1000 + x.many(13), 144 * 1000 + 186);
    x.plain(-1, 0);
    // 4 * (1 + 3 * 33) = 400 STEPS
    body(x, 1, 1, CALL, 2, 0, CALL, 2, 0, CALL, 2, 0, CALL, 2, 0);
    body(x, 1, 2, CALL, 3, 0, CALL, 3, 0, CALL, 3, 0);
    body(x, 1, 3, CALL, 4, 0, CALL, 4, 0, CALL, 4, 0, CALL, 4, 0, CALL, 5, 0);
    body(x, 1, 4, ADD, 1, 0, ADD, 1, 0, ADD, 1, 0, ADD, 1, 0, ADD, 1, 0, ADD, 1, 0);
    body(x, 1, 5, ADD, 1, 0, ADD, 1, 0, ADD, 1, 0);
    due("just 400 steps", x.run(1, 1) * 1000 + x.many(13), 12 * 27 * 1000 + 400);
    x.plain(1, 0);
    body(x, 2, 5, ADD, 1, 0, ADD, 1, 0, ADD, 1, 0, ADD, 1, 0);
    due("just more", x.run(2, 1) * 1000 - x.many(13), -10008 * 1000 - 400);
    runDeep();
  }

  /** Twenty FRAMES are allowed, one more is not. */
  private static void runDeep() {
    VtableTown x = twentyFrames(ADD, 7);
    x.plain(-1, 0);
    body(x, 4, 1, MAKE, 0, 1);
    due("20 frames", x.run(0, 1), 7);
    due("with a step each", x.many(13), 20);
    due("and one more", x.run(4, 1), -10009);
    due("the steps ahead of that", x.many(13), 20);
    due("what is called costs ahead of its frame", x.wouldCost(4, 1), 6 + 20 + 4 * 6 + 4 * 4);
    VtableTown y = new VtableTown();
    y.plain(-1, 0);
    body(y, 0, 1, MAKE, 0, 1);
    body(y, 0, 0, READ, 0, 0);
    due("makers end, their frames are over", y.run(0, 1), -10009);
    due("the 21st object is made, though its maker has no frame", y.ofClass(0, 7), 21);
    VtableTown z = twentyFrames(READ, 5);
    z.plain(-1, 0);
    initialiser(z, 4, READ, 11, 0);
    z.plain(4, 0);
    z.run(4, 1);
    due("a failed parent in the 20th frame, ahead of the frame that there is not", z.run(0, 1), -10006);
    initialiserAsFrame();
  }

  /** Of 0 to 3 the NAMES 1 to 5 call each other in a row; in the 20th FRAME there is one STEP. */
  private static VtableTown twentyFrames(int kind, int a) {
    VtableTown x = new VtableTown();
    for (int cls = 0; cls < 4; cls++) {
      x.plain(-1, 0);
      for (int name = 1; name <= 4; name++) {
        body(x, cls, name, CALL, name + 1, 0);
      }
      if (cls < 3) {
        body(x, cls, 5, MAKE, cls + 1, 1);
      } else {
        body(x, cls, 5, kind, a, 0);
      }
    }
    return x;
  }

  /** 20 FRAMES of a call chain; an INITIALISER that comes in the 20th has no FRAME left. */
  private static void initialiserAsFrame() {
    for (int depth = 19; depth <= 20; depth++) {
      VtableTown x = new VtableTown();
      x.plain(-1, 0);
      int rows = 0;
      // each class gives two frames, 1 calls 2, 2 makes the next one; the last one reads
      for (int cls = 1; cls <= 10; cls++) {
        x.plain(-1, 0);
        boolean last = 2 * cls >= depth;
        body(x, cls, 1, CALL, 2, 0);
        body(x, cls, 2, MAKE, Math.min(11, cls + 1), 1);
        if (last && depth == 19) {
          body(x, cls, 1, READ, 0, 0);
        } else if (last) {
          body(x, cls, 2, READ, 0, 0);
        }
        rows++;
        if (last) {
          break;
        }
      }
      // all but the class 0 are initialised ahead, one by one, so that their frames are over
      for (int cls = rows; cls >= 1; cls--) {
        x.run(cls, 5);
      }
      due("with " + depth + " frames ahead of an initialiser", x.run(1, 1), depth == 19 ? 0 : -10009);
      due("it is ready or failed", x.ofClass(0, 3), depth == 19 ? 2 : 3);
      due("it is loaded", x.ofClass(0, 1), 1);
    }
  }

  private static void runFaults() {
    VtableTown x = new VtableTown();
    x.plain(-1, 0);
    body(x, 0, 1, ADD, 9, 0, KEEP, 0, 0, READ, 11, 0, ADD, 1, 0, KEEP, 0, 0);
    due("a fault ends it", x.run(0, 1), -10001);
    due("all that was done stays", x.ofClass(0, 4), 9);
    due("nothing more is done", x.many(13), 3);
    x.face(0);
    x.face(0);
    body(x, 1, 2);
    body(x, 2, 2);
    x.plain(-1, 6);
    body(x, 3, 1, CALL, 2, 0);
    due("two bodies", x.run(3, 1), -10005);
    due("the place of that knows nothing", x.ofPlace(3, 1, 0, 3), 0);
    due("and it costs nothing: 3 classes, 6, a step", x.many(12), 157);
  }

  private static void ofClass() {
    promise = 11;
    VtableTown x = new VtableTown();
    x.face(0);
    x.face(1);
    x.plain(-1, 2);
    x.plain(2, 1);
    x.plain(9, 0);
    body(x, 1, 3);
    body(x, 2, 1, ADD, 7, 0, KEEP, 3, 0);
    int[][] fresh = {{1, 0, 0, 0, 0, 0, 0, 0, -1}, {1, 0, 0, 0, 0, 0, 0, 0, -1}, {0, 0, 0, 0, 0, 0, 0, 0, -1},
      {0, 0, 0, 0, 0, 0, 0, 0, -1}, {0, 0, 0, 0, 0, 0, 0, 0, -1}};
    allOfClasses(x, fresh);
    x.load(4);
    x.run(3, 1);
    x.run(2, 1);
    int[][] then = {{1, 1, 0, 0, 0, 1, 0, 0, 0}, {1, 1, 0, 0, 0, 3, 0, 0, 1}, {0, 1, 0, 2, 0, 7, 2, 1, 2},
      {0, 1, 0, 2, 7, 15, 2, 1, 3}, {0, 2, 1, 0, 0, 0, 0, 0, -1}};
    allOfClasses(x, then);
    for (int bad : new int[] {-1, 9, Integer.MIN_VALUE, Integer.MAX_VALUE}) {
      refused(x, "what " + bad, ARGUMENT, () -> x.ofClass(0, bad));
      refused(x, "what " + bad + " of none", INDEX, () -> x.ofClass(5, bad));
      refused(x, "class " + (bad == 9 ? 5 : bad), INDEX, () -> x.ofClass(bad == 9 ? 5 : bad, 0));
    }
  }

  private static void allOfClasses(VtableTown x, int[][] want) {
    for (int cls = 0; cls < want.length; cls++) {
      for (int what = 0; what <= 8; what++) {
        due("ofClass(" + cls + ", " + what + ")", x.ofClass(cls, what), want[cls][what]);
      }
    }
  }

  private static void finds() {
    promise = 12;
    VtableTown x = new VtableTown();
    x.face(0);
    x.face(1);
    x.face(1);
    x.face(6);
    // 0: all; 1 and 2 below it; 3 below both
    for (int name = 1; name <= 5; name++) {
      x.method(0, name);
    }
    body(x, 1, 2);
    body(x, 1, 3);
    body(x, 2, 3);
    x.open(1, 4);
    x.open(1, 5);
    body(x, 2, 5);
    x.plain(-1, 2 + 4);
    x.plain(4, 0);
    x.plain(-1, 8);
    x.open(6, 1);
    body(x, 6, 3);
    x.plain(6, 0);
    body(x, 5, 1);
    x.open(5, 3);
    refused(x, "as it is fresh", INDEX, () -> x.finds(4, 1));
    x.load(5);
    x.load(7);
    x.plain(5, 0);
    body(x, 8, 4);
    int[][] want = {{0, 1, -15, -14, 2}, {5, 1, -14, -14, 2}, {-14, 1, 6, -14, 2}, {-14, 1, 6, -14, 2}};
    for (int cls = 4; cls <= 7; cls++) {
      for (int name = 1; name <= 5; name++) {
        due("finds(" + cls + ", " + name + ")", x.finds(cls, name), want[cls - 4][name - 1]);
      }
    }
    x.plain(-1, 1);
    x.plain(9, 8);
    x.load(10);
    due("an interface of the parent, outdone by one of its own", x.finds(10, 2), 1);
    due("of the parent alone", x.finds(9, 2), 0);
    x.plain(-1, 0);
    x.load(11);
    due("none at all", x.finds(11, 1), -14);
    refused(x, "an interface", INDEX, () -> x.finds(0, 1));
    refused(x, "as it is fresh", INDEX, () -> x.finds(8, 4));
    for (int bad : new int[] {-1, 12, 0, 6, Integer.MIN_VALUE, Integer.MAX_VALUE}) {
      refused(x, "finds(4, " + bad + ")", INDEX, () -> x.finds(4, bad));
      refused(x, "finds(" + bad + ", 0)", INDEX, () -> x.finds(bad, 0));
    }
    refused(x, "finds(12, 1)", INDEX, () -> x.finds(12, 1));
    findsBesideAbstract();
  }

  /** One BODY beside ABSTRACT ones that it is not OF: just one has a BODY, so that. */
  private static void findsBesideAbstract() {
    VtableTown x = new VtableTown();
    x.face(0);
    x.face(0);
    x.face(2);
    x.open(0, 1);
    body(x, 1, 1);
    x.open(2, 1);
    body(x, 1, 2);
    x.plain(-1, 1 + 2);
    x.plain(-1, 1 + 4);
    x.plain(-1, 0);
    body(x, 5, 0);
    x.plain(3, 4);
    x.load(3);
    x.load(4);
    x.load(5);
    x.load(6);
    due("one body beside an abstract one", x.finds(3, 1), 1);
    due("both that are left are abstract", x.finds(4, 1), -14);
    due("through an interface that has none", x.finds(4, 2), 1);
    due("a maker is no name for this", x.finds(5, 1), -14);
    due("the child names an abstract one that outdoes the body", x.finds(6, 1), -14);
    x.plain(-1, 0);
    body(x, 7, 1);
    x.open(7, 2);
    x.plain(7, 2);
    x.load(8);
    due("the line goes ahead of all interfaces", x.finds(8, 1), 7);
    due("also an abstract one", x.finds(8, 2), -14);
    VtableTown y = new VtableTown();
    y.face(2);
    y.face(0);
    body(y, 0, 1);
    body(y, 1, 1);
    y.plain(-1, 3);
    y.load(2);
    due("the first one outdoes the second", y.finds(2, 1), 0);
  }

  /** A LINE of all twelve: the METHOD, the FIELD and the MAKER of its end are found and run. */
  private static void longLine() {
    VtableTown x = new VtableTown();
    for (int cls = 0; cls < 12; cls++) {
      x.plain(cls - 1, 0);
      body(x, cls, 0, GET, 0, 0, ADD, 1, 0, PUT, 0, 0);
    }
    x.field(0, 0);
    body(x, 0, 1, GET, 0, 0);
    body(x, 11, 2, CALL, 1, 0, MAKE, 0, 1, GET, 0, 0);
    due("12 makers, then 1, then 12", x.run(11, 2), 25);
    due("what the end of the line has", x.finds(11, 1), 0);
    due("its slot", x.slot(11, 1) * 10 + x.slot(11, 2), 1);
    due("of all", x.ofClass(11, 5), 4095);
    due("a second object begins with 0, too", x.run(11, 1), 12);
  }

  private static void slot() {
    promise = 13;
    VtableTown x = new VtableTown();
    x.face(0);
    x.face(1);
    x.open(0, 2);
    body(x, 1, 5);
    x.plain(-1, 0);
    body(x, 2, 4);
    body(x, 2, 0);
    x.plain(2, 2);
    x.open(3, 1);
    body(x, 3, 4);
    x.plain(3, 0);
    body(x, 4, 3);
    refused(x, "as it is fresh", INDEX, () -> x.slot(4, 1));
    x.load(4);
    int[][] want = {{-1, -1, -1, 0, -1}, {1, 2, -1, 0, 3}, {1, 2, 4, 0, 3}};
    int[] lengths = {1, 4, 5};
    for (int cls = 2; cls <= 4; cls++) {
      due("how many", x.ofClass(cls, 6), lengths[cls - 2]);
      for (int name = 1; name <= 5; name++) {
        due("slot(" + cls + ", " + name + ")", x.slot(cls, name), want[cls - 2][name - 1]);
      }
    }
    due("an interface has no table", x.ofClass(1, 6), 0);
    refused(x, "of an interface", INDEX, () -> x.slot(0, 2));
    for (int bad : new int[] {-1, 12, 0, 6, Integer.MIN_VALUE, Integer.MAX_VALUE}) {
      refused(x, "slot(4, " + bad + ")", INDEX, () -> x.slot(4, bad));
      refused(x, "slot(" + bad + ", 0)", INDEX, () -> x.slot(bad, 0));
    }
    refused(x, "slot(5, 1)", INDEX, () -> x.slot(5, 1));
  }

  /** One place in 0 that all children share; all but the last one override what it calls. */
  private static VtableTown family() {
    VtableTown x = new VtableTown();
    x.plain(-1, 0);
    body(x, 0, 1, ADD, 1, 0, CALL, 2, 0);
    body(x, 0, 2);
    for (int cls = 1; cls <= 6; cls++) {
      x.plain(0, 0);
      if (cls != 6) {
        body(x, cls, 2, ADD, cls, 0);
      }
    }
    return x;
  }

  private static void place(VtableTown x, String when, int... want) {
    for (int what = 0; what <= 6; what++) {
      due(when + ": ofPlace(0, 1, 1, " + what + ")", x.ofPlace(0, 1, 1, what), want[what]);
    }
  }

  private static void ofPlace() {
    promise = 14;
    VtableTown x = family();
    refused(x, "as it is fresh", INDEX, () -> x.ofPlace(0, 1, 1, 0));
    x.load(0);
    place(x, "at first", 1, 0, 0, 0, 0, 0, -1);
    x.run(0, 1);
    x.load(6);
    place(x, "a child that finds the same", 1, 0, 0, 0, 0, 0, -1);
    x.load(3);
    place(x, "a child that finds another", 0, 0, 0, 0, 0, 1, -1);
    x.load(2);
    place(x, "one more", 0, 0, 0, 0, 0, 1, -1);
    due("a miss", x.run(3, 1) * 100 + x.many(12), 400 + 6 + 1 + 1 + 10 + 1);
    place(x, "a miss", 0, 1, 0, 1, 0, 1, 3);
    x.run(0, 1);
    x.run(6, 1);
    x.run(2, 1);
    place(x, "full", 0, 4, 0, 4, 0, 1, 3);
    int[] order = {3, 0, 6, 2};
    for (int k = 0; k < 4; k++) {
      x.run(order[k], 1);
      int ofBody = order[k] == 0 || order[k] == 6 ? 0 : 1;
      due("a hit at " + k, x.many(12), 6 + 2 + (2 + k) + ofBody);
    }
    place(x, "hits", 0, 4, 4, 4, 0, 1, 3);
    due("the fifth costs a miss", x.run(5, 1) * 1000 + x.many(12), 6000 + 50 + 6 + 2 + 10 + 1);
    place(x, "gave up", 0, 0, 4, 5, 1, 1, -1);
    due("from then on 6", x.run(3, 1) * 1000 + x.many(12), 4000 + 6 + 2 + 6 + 1);
    x.run(4, 1);
    place(x, "gave up for good", 0, 0, 4, 5, 1, 1, -1);
    ofPlaceWrong(x);
    ofPlaceOfInterface();
  }

  private static void ofPlaceWrong(VtableTown x) {
    for (int bad : new int[] {-1, 7, Integer.MIN_VALUE, Integer.MAX_VALUE}) {
      refused(x, "what " + bad, ARGUMENT, () -> x.ofPlace(0, 1, 1, bad));
      refused(x, "what " + bad + " of no call", INDEX, () -> x.ofPlace(0, 1, 0, bad));
      refused(x, "step " + bad, INDEX, () -> x.ofPlace(0, 1, bad, 0));
      refused(x, "name " + bad, INDEX, () -> x.ofPlace(0, bad, 1, 0));
      refused(x, "class " + bad, INDEX, () -> x.ofPlace(bad, 1, 1, 0));
    }
    refused(x, "step 2", INDEX, () -> x.ofPlace(0, 1, 2, 0));
    refused(x, "name 6", INDEX, () -> x.ofPlace(0, 6, 0, 0));
    refused(x, "a child has it not itself", INDEX, () -> x.ofPlace(3, 1, 1, 0));
    refused(x, "a method without steps", INDEX, () -> x.ofPlace(0, 2, 0, 0));
  }

  private static void ofPlaceOfInterface() {
    VtableTown x = new VtableTown();
    x.face(0);
    body(x, 0, 1, CALL, 2, 0);
    body(x, 0, 2);
    x.plain(-1, 1);
    body(x, 1, 0, CALL, 1, 0, CALL, 3, 0);
    x.open(1, 3);
    x.load(1);
    due("never direct in an interface", x.ofPlace(0, 1, 0, 0), 0);
    due("in a maker", x.ofPlace(1, 0, 0, 0), 1);
    due("not direct where a fault is found", x.ofPlace(1, 0, 1, 0), 0);
    due("and never was", x.ofPlace(1, 0, 1, 5), 0);
    due("a run that ends by that", x.run(1, 1), -10004);
    due("a miss in the interface", x.ofPlace(0, 1, 0, 3), 1);
    due("its cache", x.ofPlace(0, 1, 0, 6), 1);
    due("a fault changes nothing at the place", x.ofPlace(1, 0, 1, 3), 0);
    x.plain(1, 0);
    body(x, 2, 3, ADD, 5, 0);
    x.load(2);
    due("a child that finds one does not make it direct", x.ofPlace(1, 0, 1, 0), 0);
    due("a run of that", x.run(2, 3), 5);
    due("goes through its cache", x.ofPlace(1, 0, 1, 6), 2);
  }

  private static void many() {
    promise = 15;
    VtableTown x = family();
    x.plain(9, 0);
    x.load(7);
    x.run(1, 1);
    x.run(0, 1);
    x.run(1, 1);
    // 0 becomes loaded, its place is direct; then 1 does, and turns it back
    int[] want = {8, 5, 2, 1, 2, 1, 0, 0, 1, 1, 2, 3, 6 + 2 + 2 + 1, 3};
    for (int what = 0; what <= 13; what++) {
      due("many(" + what + ")", x.many(what), want[what]);
    }
    x.load(6);
    due("a load is no run", x.many(11), 3);
    due("and the cost stays", x.many(12), 11);
    for (int cls = 2; cls <= 6; cls++) {
      x.run(cls, 1);
    }
    due("gave up", x.many(7), 1);
    x.run(11, 1);
    due("a run that loads nothing costs nothing", x.many(12), 0);
    due("and has no steps", x.many(13), 0);
    due("runs", x.many(11), 9);
    for (int bad : new int[] {-1, 14, Integer.MIN_VALUE, Integer.MAX_VALUE}) {
      refused(x, "many(" + bad + ")", ARGUMENT, () -> x.many(bad));
    }
    VtableTown y = new VtableTown();
    y.plain(-1, 0);
    body(y, 0, 1, CALL, 2, 0, CALL, 3, 0, ADD, 1, 0, CALL, 2, 0);
    body(y, 0, 2);
    y.face(0);
    body(y, 1, 1, CALL, 1, 0);
    due("no places as long as it is fresh", y.many(5), 0);
    y.load(0);
    y.load(1);
    due("places", y.many(5), 4);
    due("those that are direct", y.many(6), 2);
  }

  private static void meanCost() {
    promise = 16;
    VtableTown x = new VtableTown();
    x.plain(-1, 0);
    body(x, 0, 1, ADD, 1, 0);
    x.load(0);
    dueD("a load is no run", x.meanCost(), 0);
    x.run(0, 1);
    dueD("one run", x.meanCost(), 7);
    x.run(0, 2);
    dueD("not cut", x.meanCost(), 3.5);
    x.wouldRun(0, 1);
    x.run(5, 1);
    dueD("a third", x.meanCost(), 7.0 / 3);
  }

  /** The costs of section 5, one by one. */
  private static void costs() {
    promise = 18;
    VtableTown x = new VtableTown();
    x.plain(-1, 0);
    body(x, 0, 0, ADD, 1, 0);
    initialiser(x, 0, ADD, 1, 0, KEEP, 0, 0);
    body(x, 0, 1);
    due("50, two steps, one of the maker, 6", x.wouldCost(0, 1), 50 + 2 + 1 + 6);
    due("nothing for a name that is not found", x.wouldCost(0, 2), 50 + 2 + 1);
    x.run(0, 1);
    due("the second time", x.wouldCost(0, 1), 7);
    x.plain(0, 0);
    body(x, 1, 2, SUPER, 1, 0, MAKE, 0, 1, SUPER, 3, 0);
    due("super 1, make 6 and a maker, none for none", x.wouldCost(1, 2), 50 + 1 + 6 + (1 + 1) + (1 + 6 + 1) + 1);
    x.plain(9, 0);
    due("what is broken costs nothing", x.wouldCost(2, 1), 0);
    x.face(0);
    x.plain(9, 8);
    x.plain(-1, 8);
    due("each that becomes loaded, though it ends by a fault", x.wouldCost(5, 1), 100);
    due("the parent first, that is not told", x.wouldCost(4, 1), 0);
    turnedCosts();
  }

  /** A CLASS becomes LOADED while a FRAME goes on that was called from a PLACE which that turns back. */
  private static void turnedCosts() {
    VtableTown y = new VtableTown();
    y.plain(-1, 0);
    body(y, 0, 1, CALL, 2, 0, CALL, 2, 0);
    body(y, 0, 2, CALL, 3, 0);
    body(y, 0, 3, MAKE, 1, 4);
    y.plain(0, 0);
    body(y, 1, 3);
    body(y, 1, 4);
    // 50, 6; CALL 2: 1 + 1; CALL 3: 1 + 1; MAKE: 1, 50, one frame turned: 5, 6;
    // then CALL 2: 1 + 1 (0.2 is the same for both); CALL 3: 1 + 10; MAKE 1 + 6
    due("one frame is turned", y.wouldCost(0, 1), 56 + 2 + 2 + 1 + 50 + 5 + 6 + 2 + 11 + 7);
    VtableTown z = new VtableTown();
    z.plain(-1, 0);
    z.plain(0, 0);
    body(z, 0, 1, CALL, 2, 0);
    body(z, 0, 2, MAKE, 2, 1);
    z.plain(0, 0);
    body(z, 2, 2, CALL, 3, 0);
    body(z, 0, 3, MAKE, 3, 5);
    z.plain(2, 0);
    body(z, 3, 3);
    body(z, 3, 2);
    body(z, 3, 5);
    body(z, 0, 5);
    // 0.1 -> 0.2 direct; MAKE 2 turns that frame (5); 2.1 is 0.1, now a miss -> 2.2 -> 0.3 direct;
    // MAKE 3 turns the place in 2.2 alone (5)
    due("each place by itself", z.wouldCost(0, 1), 50 + 6 + 2 + 1 + 50 + 5 + 6 + 11 + 2 + 1 + 50 + 5 + 6);
    due("a frame whose place was turned ahead is not turned once more", z.run(0, 1), 0);
    due("turned back", z.many(8), 2);
    turnedTwice();
  }

  /** The same PLACE twice on the way: each of its two FRAMES costs 5, the PLACE is TURNED BACK once. */
  private static void turnedTwice() {
    VtableTown x = new VtableTown();
    x.plain(-1, 0);
    body(x, 0, 1, CALL, 2, 0);
    body(x, 0, 2, READ, 1, 0);
    body(x, 0, 3);
    x.plain(-1, 0);
    initialiser(x, 1, MAKE, 0, 1, MAKE, 2, 3);
    x.plain(0, 0);
    body(x, 2, 2);
    // the frame of the inner run is over as 2 becomes loaded: one frame
    due("frames that are over cost nothing", x.wouldCost(0, 1),
        50 + 6 + 2 + 1 + 50 + (1 + 6 + 2 + 1) + (1 + 50 + 5 + 6));
    VtableTown y = new VtableTown();
    y.plain(-1, 0);
    body(y, 0, 1, CALL, 2, 0);
    body(y, 0, 2, READ, 1, 0, READ, 2, 0);
    y.plain(-1, 0);
    initialiser(y, 1, MAKE, 0, 1);
    y.plain(0, 0);
    body(y, 2, 2);
    // outer 0.2 reads 1, whose initialiser makes 0: inner 0.2 reads 1 (begun), then 2: two frames
    due("two frames", y.wouldCost(0, 1), 50 + 6 + 2 + 1 + 50 + (1 + 6 + 2 + 1 + 1 + 50 + 10) + 1);
    due("the place is turned back once", y.run(0, 1) * 10 + y.many(8), 1);
  }

  private static void wouldRun() {
    promise = 17;
    VtableTown x = family();
    due("what run tells", x.wouldRun(3, 1), 4);
    due("nothing is loaded", x.many(1), 7);
    due("what run tells of a fault", x.wouldRun(3, 3), -10004);
    due("one that is not told", x.wouldRun(11, 1), -10001);
    due("nothing has run", x.many(11), 0);
    due("a step can be told still", x.step(3, 2, ADD, 50, 0), 2);
    due("and counts", x.wouldRun(3, 1), 54);
    x.plain(-1, 0);
    initialiser(x, 7, READ, 8, 0);
    body(x, 7, 1);
    due("one that would fail", x.wouldRun(7, 1), -10001);
    x.plain(-1, 0);
    due("has not failed", x.run(7, 1), 0);
    due("a static is put back", x.ofClass(7, 3), 2);
    wouldChangesNothing();
    wouldGiveUp();
    for (int bad : new int[] {-1, 12, Integer.MIN_VALUE, Integer.MAX_VALUE}) {
      refused(x, "wouldRun(" + bad + ", 1)", INDEX, () -> x.wouldRun(bad, 1));
      refused(x, "wouldRun(0, " + bad + ")", INDEX, () -> x.wouldRun(0, bad));
    }
    refused(x, "wouldRun(0, 0)", INDEX, () -> x.wouldRun(0, 0));
    refused(x, "wouldRun(0, 6)", INDEX, () -> x.wouldRun(0, 6));
  }

  /** The fifth CLASS would make the PLACE of a MAKER, the very first STEP, give up. */
  private static void wouldGiveUp() {
    VtableTown x = new VtableTown();
    x.plain(-1, 0);
    body(x, 0, 0, CALL, 2, 0);
    body(x, 0, 1);
    body(x, 0, 2);
    for (int cls = 1; cls <= 4; cls++) {
      x.plain(0, 0);
      body(x, cls, 2);
      x.load(cls);
    }
    for (int cls = 0; cls <= 3; cls++) {
      x.run(cls, 1);
    }
    due("places, turned back, misses", x.many(5) * 100 + x.many(8) * 10 + x.many(10), 114);
    due("it would cost a miss", x.wouldCost(4, 1), 1 + 10 + 6);
    due("it has not given up", x.many(7) + x.ofPlace(0, 0, 0, 4), 0);
    due("its cache is there", x.ofPlace(0, 0, 0, 1), 4);
    due("it would be a hit", x.wouldCost(3, 1), 1 + 5 + 6);
    x.run(4, 1);
    due("it has given up", x.many(7) + x.ofPlace(0, 0, 0, 4), 2);
  }

  private static void wouldChangesNothing() {
    VtableTown x = family();
    x.plain(-1, 0);
    body(x, 7, 1, READ, 7, 0, ADD, 1, 0, KEEP, 7, 0);
    x.run(7, 1);
    x.run(3, 1);
    x.run(0, 1);
    long digest = x.digest();
    for (int cls = 0; cls < 12; cls++) {
      x.wouldRun(cls, 1);
      x.wouldCost(cls, 1);
      x.wouldLoad(cls);
      x.wouldTurn(cls);
      x.wouldWarm(cls, 1);
    }
    due("the digest behind all that", x.digest(), digest);
    due("what 7 keeps", x.ofClass(7, 4), 1);
    // 50, 6, 3; then 100, 6, 2, 10, 1; then 6, 2, 10
    dueD("the mean", x.meanCost(), (59 + 119 + 18) / 3.0);
    due("would is the same each time", x.wouldRun(7, 1) + x.wouldRun(7, 1), 4);
  }

  private static void wouldCost() {
    promise = 18;
    VtableTown x = family();
    due("of one that is not told", x.wouldCost(11, 1), 0);
    due("both are loaded, a miss", x.wouldCost(3, 1), 100 + 6 + 2 + 10 + 1);
    x.run(3, 1);
    due("what it was", x.many(12), 119);
    due("a hit", x.wouldCost(3, 1), 6 + 2 + 2 + 1);
    due("the last run is still that", x.many(12), 119);
    for (int bad : new int[] {-1, 12, Integer.MIN_VALUE, Integer.MAX_VALUE}) {
      refused(x, "wouldCost(" + bad + ", 1)", INDEX, () -> x.wouldCost(bad, 1));
      refused(x, "wouldCost(0, " + bad + ")", INDEX, () -> x.wouldCost(0, bad));
    }
    refused(x, "wouldCost(0, 0)", INDEX, () -> x.wouldCost(0, 0));
    refused(x, "wouldCost(0, 6)", INDEX, () -> x.wouldCost(0, 6));
  }

  private static void wouldLoad() {
    promise = 19;
    VtableTown x = new VtableTown();
    x.plain(1, 12);
    x.plain(-1, 0);
    x.face(0);
    x.face(4);
    x.plain(1, 4 + 512);
    due("all four", x.wouldLoad(0), 4);
    due("what becomes loaded ahead of a fault", x.wouldLoad(4), 2);
    due("one that is not told", x.wouldLoad(11), 0);
    x.load(3);
    due("those that are left", x.wouldLoad(0), 2);
    x.load(0);
    due("none", x.wouldLoad(0), 0);
    x.load(4);
    due("one that is broken", x.wouldLoad(4), 0);
    for (int bad : new int[] {-1, 12, Integer.MIN_VALUE, Integer.MAX_VALUE}) {
      refused(x, "wouldLoad(" + bad + ")", INDEX, () -> x.wouldLoad(bad));
    }
  }

  private static void wouldTurn() {
    promise = 20;
    VtableTown x = new VtableTown();
    x.plain(-1, 0);
    body(x, 0, 1, CALL, 2, 0, CALL, 3, 0, CALL, 2, 0, CALL, 4, 0);
    body(x, 0, 2);
    body(x, 0, 3);
    x.plain(0, 0);
    body(x, 1, 2);
    x.plain(1, 0);
    body(x, 2, 3);
    body(x, 2, 4);
    x.plain(0, 0);
    x.plain(0, 0);
    x.open(4, 2);
    due("places that become direct on the way count, too", x.wouldTurn(1), 2);
    x.load(0);
    due("two", x.wouldTurn(1), 2);
    due("three: a place that never was direct is none", x.wouldTurn(2), 3);
    due("none where the same is found", x.wouldTurn(3), 0);
    due("a fault turns back, too", x.wouldTurn(4), 2);
    due("nothing has turned", x.many(8), 0);
    x.load(1);
    due("one is left", x.wouldTurn(2), 1);
    due("it is loaded already", x.wouldTurn(1), 0);
    due("one that is not told", x.wouldTurn(11), 0);
    for (int bad : new int[] {-1, 12, Integer.MIN_VALUE, Integer.MAX_VALUE}) {
      refused(x, "wouldTurn(" + bad + ")", INDEX, () -> x.wouldTurn(bad));
    }
  }

  private static void wouldWarm() {
    promise = 21;
    VtableTown x = family();
    due("two loads and a miss less", x.wouldWarm(3, 1), 119 - 11);
    due("one that is not told", x.wouldWarm(11, 1), 0);
    x.run(3, 1);
    x.run(3, 1);
    due("none", x.wouldWarm(3, 1), 0);
    VtableTown y = new VtableTown();
    y.plain(-1, 0);
    body(y, 0, 1, CALL, 2, 0, CALL, 2, 0, CALL, 2, 0, CALL, 2, 0, CALL, 3, 0);
    body(y, 0, 2, CALL, 4, 0, CALL, 4, 0, CALL, 4, 0, CALL, 4, 0);
    body(y, 0, 3, MAKE, 1, 4);
    body(y, 0, 4);
    y.plain(0, 0);
    body(y, 1, 4);
    y.run(0, 5);
    // at first all is direct: 6 + 5 steps + 4 + 16 steps + 16 + 1 + (1 + 50 + 6);
    // then 0.2 has four places with a miss and three hits each: 12 times 1 and 4 times 9 more, but no 50
    due("a load less, turned places more", y.wouldWarm(0, 1), 50 - 4 * (9 + 3 * 1));
    VtableTown z = family();
    for (int cls = 0; cls <= 4; cls++) {
      z.load(cls);
    }
    z.plain(-1, 0);
    body(z, 7, 1, MAKE, 0, 1, MAKE, 0, 1, MAKE, 0, 1, MAKE, 0, 1, MAKE, 5, 1);
    z.load(5);
    z.load(7);
    for (int cls = 0; cls <= 3; cls++) {
      z.run(cls, 1);
    }
    // four hits at 0 and a miss; then 6 five times
    due("below 0", z.wouldWarm(7, 1), 4 * 2 + 10 - 5 * 6);
    for (int bad : new int[] {-1, 12, Integer.MIN_VALUE, Integer.MAX_VALUE}) {
      refused(x, "wouldWarm(" + bad + ", 1)", INDEX, () -> x.wouldWarm(bad, 1));
      refused(x, "wouldWarm(0, " + bad + ")", INDEX, () -> x.wouldWarm(0, bad));
    }
    refused(x, "wouldWarm(0, 0)", INDEX, () -> x.wouldWarm(0, 0));
    refused(x, "wouldWarm(0, 6)", INDEX, () -> x.wouldWarm(0, 6));
  }

  private static void digest() {
    promise = 22;
    VtableTown x = new VtableTown();
    long d = 7601;
    for (int i = 0; i < 14; i++) {
      d *= 31;
    }
    due("of a new one", x.digest(), d);
    x.face(0);
    body(x, 0, 1, CALL, 2, 0);
    x.plain(-1, 1);
    body(x, 1, 0, CALL, 1, 0);
    body(x, 1, 2, ADD, 3, 0, CALL, 3, 0);
    body(x, 1, 3);
    x.plain(9, 0);
    due("fresh ones", x.digest(), digestByCalls(x));
    x.run(1, 1);
    x.load(2);
    due("then", x.digest(), digestByCalls(x));
    due("and again", x.digest(), digestByCalls(x));
  }

  private static long digestByCalls(VtableTown x) {
    long d = 7601;
    for (int what = 0; what <= 13; what++) {
      d = d * 31 + x.many(what);
    }
    int count = x.many(0);
    for (int cls = 0; cls < count; cls++) {
      for (int what = 0; what <= 8; what++) {
        d = d * 31 + x.ofClass(cls, what);
      }
      if (x.ofClass(cls, 0) == 0 && x.ofClass(cls, 1) == 1) {
        for (int name = 1; name <= 5; name++) {
          d = (d * 31 + x.finds(cls, name)) * 31 + x.slot(cls, name);
        }
      }
    }
    int[][] places = x.many(5) == 0 ? new int[0][] : new int[][] {{0, 1, 0}, {1, 0, 0}, {1, 2, 1}};
    for (int[] p : places) {
      for (int what = 0; what <= 6; what++) {
        d = d * 31 + x.ofPlace(p[0], p[1], p[2], what);
      }
    }
    for (int cls = 0; cls < count; cls++) {
      d = (d * 31 + x.wouldRun(cls, 1)) * 31 + x.wouldCost(cls, 1);
    }
    return d;
  }
}
