import java.util.function.Supplier;

/** The edges of sections 1, 4 and 5 that a run meets, and of promises 10, 17, 18 and 21. */
public final class RunEdgeTest extends Edges {
  public static void main(String[] args) {
    arguments();
    faults();
    held();
    rowsBegin();
    initialising();
    initialisingFails();
    objects();
    fieldsOfObjects();
    twentyFrames();
    frameOfEachSort();
    fourHundredSteps();
    stepsOfEachSort();
    directAndCache();
    turnedFrames();
    costs();
    nothingIsChanged();
    warm();
    end("RunEdgeTest");
  }

  /** What a run gives, its STEPS and its COST. */
  private static void runs(VtableTown x, int cls, int name, int gives, int steps, int cost) {
    String what = "run(" + cls + ", " + name + ")";
    due("wouldRun for " + what, x.wouldRun(cls, name), gives);
    due("wouldCost for " + what, x.wouldCost(cls, name), cost);
    due(what, x.run(cls, name), gives);
    due("STEPS of " + what, x.many(13), steps);
    due("COST of " + what, x.many(12), cost);
  }

  // ---- promise 10

  private static void arguments() {
    edge("promises 10, 17, 18, 21", "IndexOutOfBoundsException if cls is not 0 to 11", () -> {
      for (int bad : new int[] {LOW, -2, -1, 12, 13, HIGH}) {
        refused("run(" + bad + ", 1)", INDEX, () -> plains(12), x -> x.run(bad, 1));
        refused("wouldRun(" + bad + ", 1)", INDEX, () -> plains(12), x -> x.wouldRun(bad, 1));
        refused("wouldCost(" + bad + ", 1)", INDEX, () -> plains(12), x -> x.wouldCost(bad, 1));
        refused("wouldWarm(" + bad + ", 1)", INDEX, () -> plains(12), x -> x.wouldWarm(bad, 1));
        refused("run(" + bad + ", 0)", INDEX, Edges::empty, x -> x.run(bad, 0));
      }
    });
    edge("promises 10, 17, 18, 21", "IndexOutOfBoundsException if name is not 1 to 5", () -> {
      for (int bad : new int[] {LOW, -1, 0, 6, 7, HIGH}) {
        for (int told : new int[] {0, 11}) {
          refused("run(" + told + ", " + bad + ")", INDEX, () -> plains(1), x -> x.run(told, bad));
          refused("wouldRun(" + told + ", " + bad + ")", INDEX, () -> plains(1), x -> x.wouldRun(told, bad));
          refused("wouldCost(" + told + ", " + bad + ")", INDEX, () -> plains(1), x -> x.wouldCost(told, bad));
          refused("wouldWarm(" + told + ", " + bad + ")", INDEX, () -> plains(1), x -> x.wouldWarm(told, bad));
        }
      }
    });
    edge("promises 10, 17, 18, 21", "the first and the last CLASS and NAME", () -> {
      VtableTown x = plains(12);
      for (int cls : new int[] {0, 11}) {
        body(x, cls, 1, ADD, 3, 0);
        body(x, cls, 5, ADD, 4, 0);
        due("wouldWarm", x.wouldWarm(cls, 5), 50);
        runs(x, cls, 1, 3, 1, 57);
        runs(x, cls, 5, 4, 1, 7);
      }
    });
    edge("promise 10", "a CLASS that is not told: the FAULT 1, a run all the same", () -> {
      VtableTown x = plains(11);
      runs(x, 11, 1, -10001, 0, 0);
      due("runs", x.many(11), 1);
      due("nothing is LOADED", x.many(2), 0);
    });
  }

  private static void faults() {
    edge("promise 10", "-10000 - FAULT for each FAULT from 1 to 9", () -> {
      VtableTown x = faces(1);
      x.face(0);
      x.plain(11, 0);
      x.plain(NONE, 8);
      x.plain(NONE, 3);
      for (int face = 0; face <= 1; face++) {
        body(x, face, 2);
      }
      body(x, 4, 3, GET, 0, 0);
      body(x, 4, 4, CALL, 4, 0);
      body(x, 4, 5, times(6, MAKE, 5, 1));
      x.plain(NONE, 0);
      body(x, 5, 1, times(6, CALL, 2, 0));
      body(x, 5, 2, times(6, CALL, 3, 0));
      body(x, 5, 3, times(6, ADD, 1, 0));
      x.plain(NONE, 0);
      initialiser(x, 6, READ, 11, 0);
      due("1", x.run(2, 1), -10001);
      due("2", x.run(3, 1), -10002);
      due("3", x.run(0, 1), -10003);
      due("4", x.run(4, 1), -10004);
      due("5", x.run(4, 2), -10005);
      due("the first time", x.run(6, 1), -10001);
      due("6", x.run(6, 1), -10006);
      due("7", x.run(4, 3), -10007);
      due("8", x.run(4, 5), -10008);
      due("9", x.run(4, 4), -10009);
      due("runs", x.many(11), 10);
    });
    edge("section 5", "a FAULT ends it; all that was done stays", () -> {
      VtableTown x = plains(2);
      x.field(0, 0);
      body(x, 0, 1, ADD, 5, 0, KEEP, 1, 0, MAKE, 11, 1, ADD, 1, 0, KEEP, 1, 0, KEEP, 0, 0);
      body(x, 0, 2, CALL, 1, 0, KEEP, 0, 0);
      runs(x, 0, 2, -10001, 4, 100 + 6 + 4 + 1);
      due("the STATIC of 1", x.ofClass(1, 4), 5);
      due("the STATIC of 0", x.ofClass(0, 4), 0);
      due("1 is READY", x.ofClass(1, 3), 2);
      due("0 is READY", x.ofClass(0, 3), 2);
      due("an object was made", x.ofClass(0, 7), 1);
    });
    edge("section 5", "behind a FAULT the next run begins without it", () -> {
      VtableTown x = plains(1);
      body(x, 0, 1, CALL, 1, 0);
      body(x, 0, 2, ADD, 2, 0);
      due("a FAULT", x.run(0, 1), -10009);
      runs(x, 0, 2, 2, 1, 7);
      due("a FAULT of loading", x.load(11), 1);
      runs(x, 0, 2, 2, 1, 7);
    });
  }

  // ---- what there is

  /** The CLASS 0 keeps the highest (or the lowest) that there can be: 594 six times, twice that, four of those, 495. */
  private static VtableTown keeper(int sign) {
    VtableTown x = plains(1);
    int[] add = times(6, ADD, 99 * sign, 0);
    body(x, 0, 5, add);
    body(x, 0, 4, times(6, CALL, 5, 0));
    body(x, 0, 3, join(times(2, CALL, 4, 0), times(4, CALL, 5, 0)));
    body(x, 0, 2, join(times(1, CALL, 3, 0), times(5, ADD, 99 * sign, 0)));
    body(x, 0, 1, CALL, 2, 0, KEEP, 0, 0);
    return x;
  }

  private static void held() {
    for (int s = 1; s >= -1; s -= 2) {
      int sign = s;
      String side = sign > 0 ? "9999" : "-9999";
      edge("section 1", side + " is reached, one before it, and not one behind it", () -> {
        VtableTown x = keeper(sign);
        due("just that", x.run(0, 2), 9999 * sign);
        due("kept", x.run(0, 1), 9999 * sign);
        due("STATIC", x.ofClass(0, 4), 9999 * sign);
        x.plain(NONE, 0);
        body(x, 1, 1, READ, 0, 0, ADD, -sign, 0);
        body(x, 1, 2, READ, 0, 0, ADD, -sign, 0, ADD, sign, 0);
        body(x, 1, 3, READ, 0, 0, ADD, sign, 0);
        body(x, 1, 4, READ, 0, 0, ADD, 99 * sign, 0, KEEP, 1, 0, ADD, -99 * sign, 0);
        due("one before", x.run(1, 1), 9998 * sign);
        due("one before and one more", x.run(1, 2), 9999 * sign);
        due("one behind", x.run(1, 3), 9999 * sign);
        due("99 behind, 99 back", x.run(1, 4), 9900 * sign);
        due("kept in between", x.ofClass(1, 4), 9999 * sign);
      });
      edge("section 1", "held to " + side + " behind each STEP: of each KIND that adds", () -> {
        VtableTown x = keeper(sign);
        x.run(0, 1);
        x.plain(NONE, 0);
        body(x, 1, 1, READ, 0, 0);
        x.plain(1, 0);
        x.field(2, 0);
        body(x, 2, 1, SUPER, 1, 0, SUPER, 1, 0, ADD, -sign, 0);
        body(x, 2, 2, CALL, 5, 0, CALL, 5, 0, ADD, -sign, 0);
        body(x, 2, 3, MAKE, 1, 1, MAKE, 1, 1, ADD, -sign, 0);
        body(x, 2, 4, READ, 0, 0, PUT, 0, 0, GET, 0, 0, ADD, -sign, 0);
        body(x, 2, 5, READ, 0, 0);
        x.plain(NONE, 0);
        body(x, 3, 1, READ, 0, 0, READ, 0, 0, ADD, -sign, 0);
        body(x, 3, 2, READ, 0, 0, IS, 3, 0, ADD, -1, 0);
        due("SUPER", x.run(2, 1), 9998 * sign);
        due("CALL", x.run(2, 2), 9998 * sign);
        due("MAKE", x.run(2, 3), 9998 * sign);
        due("GET", x.run(2, 4), 9998 * sign);
        due("READ", x.run(3, 1), 9998 * sign);
        due("IS", x.run(3, 2), sign > 0 ? 9998 : -9999);
      });
    }
  }

  private static void rowsBegin() {
    edge("section 1", "what there is, is 0 as a row of STEPS begins: of a METHOD, a MAKER, an INITIALISER", () -> {
      VtableTown x = plains(4);
      initialiser(x, 1, KEEP, 3, 0, ADD, 7, 0, KEEP, 1, 0);
      body(x, 1, 0, KEEP, 3, 0, ADD, 8, 0);
      body(x, 1, 1, KEEP, 3, 0, ADD, 9, 0);
      initialiser(x, 3, ADD, 77, 0, KEEP, 3, 0);
      body(x, 0, 1, ADD, 50, 0, MAKE, 1, 1);
      due("run", x.run(0, 1), 59);
      due("the last one that kept", x.ofClass(3, 4), 0);
      due("what the INITIALISER kept", x.ofClass(1, 4), 7);
      for (int name = 0; name <= 2; name++) {
        VtableTown y = plains(3);
        initialiser(y, 2, ADD, 77, 0, KEEP, 2, 0);
        if (name == 2) {
          initialiser(y, 1, KEEP, 2, 0);
        } else {
          body(y, 1, name, KEEP, 2, 0);
        }
        body(y, 0, 1, ADD, 50, 0, MAKE, 1, 1, ADD, 1, 0);
        y.run(0, 1);
        due("kept by the row " + name, y.ofClass(2, 4), 0);
      }
    });
    edge("section 1", "at its end the row gives it: an empty row gives 0", () -> {
      VtableTown x = plains(1);
      body(x, 0, 1);
      body(x, 0, 2, ADD, 40, 0, CALL, 1, 0);
      runs(x, 0, 1, 0, 0, 56);
      runs(x, 0, 2, 40, 2, 6 + 2 + 1);
    });
    edge("section 1", "a full row runs all six STEPS, the last one, too", () -> {
      VtableTown x = plains(1);
      body(x, 0, 1, join(times(5, ADD, 1, 0), times(1, ADD, 90, 0)));
      initialiser(x, 0, join(times(5, ADD, 1, 0), times(1, KEEP, 0, 0)));
      runs(x, 0, 1, 95, 12, 50 + 6 + 12);
      due("kept", x.ofClass(0, 4), 5);
    });
    edge("section 4", "what a MAKER gives is dropped", () -> {
      VtableTown x = plains(1);
      body(x, 0, 0, ADD, 30, 0);
      body(x, 0, 1, ADD, 4, 0);
      x.plain(0, 0);
      body(x, 1, 0, ADD, 60, 0);
      due("one MAKER", x.run(0, 1), 4);
      due("two MAKERS", x.run(1, 1), 4);
    });
  }

  // ---- section 4

  private static void wakes(VtableTown x, int... want) {
    for (int cls = 0; cls < want.length; cls++) {
      due("ASLEEP, BEGUN, READY, FAILED of " + cls, x.ofClass(cls, 3), want[cls]);
    }
  }

  private static void initialising() {
    edge("section 4", "ASLEEP as it is told and LOADED, READY behind the first MAKE, once", () -> {
      VtableTown x = plains(1);
      initialiser(x, 0, READ, 0, 0, ADD, 1, 0, KEEP, 0, 0);
      body(x, 0, 1, READ, 0, 0);
      wakes(x, 0);
      x.load(0);
      wakes(x, 0);
      due("READY", x.many(4), 0);
      due("the first time", x.run(0, 1), 1);
      wakes(x, 2);
      due("the second time", x.run(0, 1), 1);
      due("READY", x.many(4), 1);
    });
    edge("section 4", "BEGUN: nothing; it reads itself, and it makes an object of itself", () -> {
      VtableTown x = plains(1);
      initialiser(x, 0, MAKE, 0, 1, ADD, 1, 0, KEEP, 0, 0, READ, 0, 0, KEEP, 0, 0);
      body(x, 0, 1, READ, 0, 0, ADD, 10, 0);
      // 0 + 10 + 1 = 11; twice that
      due("run", x.run(0, 1), 32);
      due("objects", x.ofClass(0, 7), 2);
      wakes(x, 2);
    });
    edge("section 4", "BEGUN: its PARENT makes an object of it", () -> {
      VtableTown x = plains(1);
      initialiser(x, 0, MAKE, 1, 1, KEEP, 0, 0);
      x.plain(0, 0);
      initialiser(x, 1, ADD, 6, 0, KEEP, 1, 0);
      body(x, 1, 1, READ, 1, 0, ADD, 10, 0);
      due("run", x.run(1, 1), 16);
      due("what its PARENT kept of that, ahead of its INITIALISER", x.ofClass(0, 4), 10);
      wakes(x, 2, 2);
      VtableTown y = plains(1);
      initialiser(y, 0, MAKE, 1, 1, KEEP, 0, 0);
      body(y, 0, 2, READ, 0, 0);
      y.plain(0, 0);
      initialiser(y, 1, ADD, 6, 0, KEEP, 1, 0);
      body(y, 1, 1, READ, 1, 0);
      due("begun at the PARENT", y.run(0, 2), 6);
      wakes(y, 2, 2);
    });
    edge("section 4", "its PARENT is INITIALISED ahead of its INITIALISER, through a LINE of twelve", () -> {
      VtableTown x = empty();
      for (int cls = 0; cls < 12; cls++) {
        x.plain(cls - 1, 0);
        initialiser(x, cls, READ, 0, 0, ADD, 1, 0, KEEP, cls, 0, KEEP, 0, 0);
      }
      body(x, 0, 1, READ, 0, 0);
      runs(x, 11, 1, 12, 12 * 4 + 1, 600 + 6 + 49);
      for (int cls = 1; cls < 12; cls++) {
        due("the how manieth it was", x.ofClass(cls, 4), cls + 1);
      }
      due("READY", x.many(4), 12);
    });
    edge("section 4", "an INTERFACE has no PARENT, and those that it names stay ASLEEP, as those of a PLAIN one", () -> {
      VtableTown x = faces(1);
      x.face(1);
      x.plain(NONE, 3);
      for (int cls = 0; cls <= 2; cls++) {
        initialiser(x, cls, ADD, 5 + cls, 0, KEEP, cls, 0);
      }
      body(x, 2, 1, READ, 1, 0);
      body(x, 2, 2);
      due("run", x.run(2, 2), 0);
      wakes(x, 0, 0, 2);
      due("READ", x.run(2, 1), 6);
      wakes(x, 0, 2, 2);
    });
    edge("section 4", "IS: the CLASS is LOADED, and stays ASLEEP; KEEP and READ INITIALISE it", () -> {
      VtableTown x = plains(4);
      for (int cls = 1; cls <= 3; cls++) {
        initialiser(x, cls, ADD, 9, 0, KEEP, cls, 0);
      }
      body(x, 0, 1, IS, 1, 0, READ, 2, 0, KEEP, 3, 0);
      due("run", x.run(0, 1), 9);
      wakes(x, 2, 0, 2, 2);
      due("IS", x.ofClass(1, 1) * 100 + x.ofClass(1, 4), 100);
      due("KEEP behind its INITIALISER", x.ofClass(3, 4), 9);
    });
    edge("section 1", "IS: 1 is added, if the CLASS of the own object is OF the CLASS a, otherwise nothing", () -> {
      VtableTown x = faces(1);
      x.face(1);
      x.plain(NONE, 2);
      x.plain(2, 0);
      x.plain(NONE, 1);
      body(x, 0, 2, IS, 2, 0);
      for (int cls = 2; cls <= 4; cls++) {
        body(x, cls, 1, IS, cls == 2 ? 2 : 0, 0, IS, cls == 3 ? 3 : 1, 0);
      }
      body(x, 2, 3, IS, 3, 0);
      body(x, 2, 4, IS, 4, 0);
      due("itself, and an INTERFACE that it names", x.run(2, 1), 2);
      due("an INTERFACE that such a one names, and itself", x.run(3, 1), 2);
      due("the one that it names, and not that which names that", x.run(4, 1), 1);
      due("a child: the own object is one", x.run(3, 3), 1);
      due("a child: the own object is none", x.run(2, 3), 0);
      due("one that has nothing to do with it", x.run(3, 4), 0);
      due("in an INTERFACE, an object of that CLASS", x.run(2, 2), 1);
      due("in an INTERFACE, an object of a child", x.run(3, 2), 1);
      due("in an INTERFACE, an object of another one", x.run(4, 2), 0);
    });
    edge("section 4", "IS, READ, KEEP and MAKE: what the LOADING of the CLASS ends by, which stays BROKEN", () -> {
      int[][] steps = {{IS, 1, 0}, {READ, 1, 0}, {KEEP, 1, 0}, {MAKE, 1, 1}};
      for (int[] step : steps) {
        VtableTown x = plains(1);
        x.plain(2, 1);
        x.plain(NONE, 0);
        body(x, 0, 1, ADD, 3, 0, step[0], step[1], step[2]);
        body(x, 0, 2, step[0], 11, step[2]);
        runs(x, 0, 1, -10003, 2, 50 + 6 + 2 + 50);
        due("BROKEN", x.ofClass(1, 1) * 10 + x.ofClass(1, 2), 23);
        runs(x, 0, 1, -10003, 2, 6 + 2);
        runs(x, 0, 2, -10001, 1, 6 + 1);
      }
    });
    edge("section 4", "MAKE of an INTERFACE: LOADED, the FAULT 3, not INITIALISED", () -> {
      VtableTown x = faces(1);
      x.plain(NONE, 0);
      body(x, 1, 1, MAKE, 0, 1);
      runs(x, 0, 1, -10003, 0, 50);
      wakes(x, 0);
      runs(x, 1, 1, -10003, 1, 50 + 6 + 1);
      due("no object", x.ofClass(0, 7), 0);
    });
    edge("section 4", "MAKE of an INTERFACE that is BROKEN: its own FAULT goes ahead of the FAULT 3", () -> {
      VtableTown x = empty();
      x.face(2048);
      x.face(2);
      runs(x, 0, 1, -10001, 0, 0);
      runs(x, 1, 1, -10002, 0, 0);
      runs(x, 1, 1, -10002, 0, 0);
    });
  }

  private static void initialisingFails() {
    edge("section 4", "a FAULT on the way makes it FAILED, and all that are BEGUN further out", () -> {
      VtableTown x = empty();
      for (int cls = 0; cls < 11; cls++) {
        x.plain(NONE, 0);
        initialiser(x, cls, READ, cls + 1, 0);
      }
      body(x, 0, 1);
      runs(x, 0, 1, -10001, 11, 550 + 11);
      wakes(x, 3, 3, 3, 3, 3, 3, 3, 3, 3, 3, 3);
      runs(x, 0, 1, -10006, 0, 0);
      due("no object", x.ofClass(0, 7), 0);
    });
    edge("section 4", "FAILED: the FAULT 6, for MAKE, READ, KEEP and its children; not for IS and loading", () -> {
      VtableTown x = plains(2);
      initialiser(x, 0, KEEP, 11, 0);
      x.run(0, 1);
      body(x, 1, 1, MAKE, 0, 1);
      body(x, 1, 2, READ, 0, 0);
      body(x, 1, 3, ADD, 5, 0, KEEP, 0, 0);
      body(x, 1, 4, IS, 0, 0, ADD, 1, 0);
      x.plain(0, 0);
      body(x, 2, 1);
      due("MAKE", x.run(1, 1), -10006);
      due("READ", x.run(1, 2), -10006);
      due("KEEP", x.run(1, 3), -10006);
      due("nothing is kept", x.ofClass(0, 4), 0);
      due("IS", x.run(1, 4), 1);
      due("load", x.load(0) + x.load(2), 0);
      due("a child", x.run(2, 1), -10006);
      wakes(x, 3, 2, 3);
    });
    edge("section 4", "a FAULT of its PARENT: its INITIALISER is not run", () -> {
      VtableTown x = plains(1);
      initialiser(x, 0, ADD, 1, 0, KEEP, 0, 0, READ, 11, 0);
      x.plain(0, 0);
      initialiser(x, 1, ADD, 1, 0, KEEP, 1, 0);
      runs(x, 1, 1, -10001, 3, 103);
      due("what the PARENT kept", x.ofClass(0, 4), 1);
      due("what it kept", x.ofClass(1, 4), 0);
      wakes(x, 3, 3);
    });
    edge("section 4", "a FAULT behind its INITIALISER leaves it READY", () -> {
      VtableTown x = plains(1);
      body(x, 0, 0, READ, 11, 0);
      runs(x, 0, 1, -10001, 1, 51);
      wakes(x, 2);
      due("an object was made", x.ofClass(0, 7), 1);
    });
    edge("section 4", "FAULTS of frames and of STEPS on the way make it FAILED, too", () -> {
      VtableTown x = plains(3);
      initialiser(x, 0, MAKE, 2, 1);
      initialiser(x, 1, MAKE, 2, 2);
      body(x, 2, 1, CALL, 1, 0);
      body(x, 2, 2, times(6, CALL, 3, 0));
      body(x, 2, 3, times(6, CALL, 4, 0));
      body(x, 2, 4, times(6, CALL, 5, 0));
      body(x, 2, 5, ADD, 1, 0, ADD, 1, 0);
      due("20 FRAMES", x.run(0, 1), -10009);
      due("400 STEPS", x.run(1, 1), -10008);
      due("FAILED", x.run(0, 1), -10006);
      due("FAILED", x.run(1, 1), -10006);
      wakes(x, 3, 3, 2);
    });
  }

  private static void objects() {
    edge("section 4", "from the end of its LINE to itself, the MAKER that each has, if it has one", () -> {
      VtableTown x = empty();
      for (int cls = 0; cls < 12; cls++) {
        x.plain(cls - 1, 0);
        if (cls != 5 && cls != 8) {
          body(x, cls, 0, GET, 0, 0, ADD, 1, 0, PUT, 0, 0, KEEP, cls, 0);
        }
      }
      x.field(0, 0);
      body(x, 0, 1, GET, 0, 0);
      runs(x, 11, 1, 10, 41, 600 + 6 + 41);
      int n = 0;
      for (int cls = 0; cls < 12; cls++) {
        n += cls == 5 || cls == 8 ? 0 : 1;
        due("the how manieth MAKER", x.ofClass(cls, 4), cls == 5 || cls == 8 ? 0 : n);
        due("objects of just it", x.ofClass(cls, 7), cls == 11 ? 1 : 0);
      }
      runs(x, 0, 1, 1, 5, 6 + 5);
    });
    edge("section 4", "a MAKER runs on the object: its CALLS find what the CLASS of that finds", () -> {
      VtableTown x = plains(1);
      x.field(0, 2);
      body(x, 0, 0, CALL, 2, 0, PUT, 2, 0);
      body(x, 0, 1, GET, 2, 0);
      body(x, 0, 2, ADD, 3, 0);
      x.plain(0, 0);
      body(x, 1, 2, ADD, 8, 0);
      due("of the child", x.run(1, 1), 8);
      due("of itself", x.run(0, 1), 3);
    });
    edge("promise 11", "objects are counted ahead of their MAKERS, those of a FAULT, too", () -> {
      VtableTown x = plains(2);
      body(x, 0, 0, MAKE, 1, 1);
      x.run(0, 1);
      x.run(0, 1);
      due("of 0", x.ofClass(0, 7), 2);
      due("of 1", x.ofClass(1, 7), 2);
      due("what only would be is not", x.wouldRun(0, 1) + x.ofClass(0, 7), -10004 + 2);
    });
  }

  private static void fieldsOfObjects() {
    edge("section 4", "each FIELD of each CLASS of its LINE, also those that others DECLARE, too", () -> {
      for (int f = 0; f <= 3; f++) {
        for (int g = 0; g <= 3; g++) {
          if (f != g) {
            fieldsBesideEachOther(f, g);
          }
        }
      }
    });
    edge("section 4", "each object has its own, beginning with 0", () -> {
      VtableTown x = plains(12);
      for (int cls = 0; cls < 12; cls++) {
        x.field(cls, 0);
      }
      for (int i = 0; i < 20; i++) {
        int[] own = {GET, 0, 0, ADD, i + 1, 0, PUT, 0, 0};
        int[] next = i < 19 ? new int[] {MAKE, deepClass(i + 1), deepName(i + 1)} : new int[0];
        body(x, deepClass(i), deepName(i), join(own, next, new int[] {GET, 0, 0}));
      }
      due("each gives its own one twice", x.run(deepClass(0), deepName(0)), 2 * 210);
      due("once more", x.run(deepClass(0), deepName(0)), 2 * 210);
    });
    edge("section 4", "each FIELD is 0 in a new object, from the first one of the first CLASS to the last one of the last", () -> {
      VtableTown x = plains(12);
      for (int cls = 0; cls < 12; cls++) {
        for (int field = 0; field <= 3; field++) {
          x.field(cls, field);
          body(x, cls, field + 1, GET, field, 0, ADD, 99, 0, PUT, field, 0);
        }
        body(x, cls, 5, MAKE, cls, 4, MAKE, cls, 4, MAKE, cls, 1, MAKE, cls, 1);
      }
      for (int cls = 11; cls >= 0; cls--) {
        for (int field = 3; field >= 0; field--) {
          due("in the first object", x.run(cls, field + 1), 99);
          due("in the second one", x.run(cls, field + 1), 99);
        }
        due("in four, made within another one", x.run(cls, 5), 4 * 99);
      }
    });
    edge("section 4", "a MAKER, CALL (DIRECT or not), SUPER and IS go on with the object made last, not with the outer one", () -> {
      VtableTown x = plains(1);
      x.field(0, 0);
      // each object of 0 has a number of its own in its FIELD
      body(x, 0, 0, READ, 2, 0, ADD, 1, 0, KEEP, 2, 0, PUT, 0, 0);
      body(x, 0, 2, GET, 0, 0);
      body(x, 0, 4, CALL, 2, 0);
      x.plain(0, 0);
      body(x, 1, 1, CALL, 2, 0);
      body(x, 1, 3, SUPER, 2, 0);
      body(x, 1, 5, IS, 1, 0);
      x.plain(NONE, 0);
      x.plain(0, 0);
      body(x, 3, 2, ADD, 50, 0);
      x.load(3);
      x.plain(NONE, 0);
      body(x, 4, 1, MAKE, 1, 1);
      body(x, 4, 2, MAKE, 1, 2);
      body(x, 4, 3, MAKE, 1, 3);
      body(x, 4, 4, MAKE, 1, 4);
      body(x, 4, 5, MAKE, 1, 5);
      for (int name = 1; name <= 4; name++) {
        due("the number by the NAME " + name, x.run(4, name), name);
      }
      due("IS", x.run(4, 5), 1);
      due("DIRECT", x.ofPlace(1, 1, 0, 0), 1);
      due("not DIRECT", x.ofPlace(0, 4, 0, 0), 0);
    });
    edge("section 4", "the FIELD that the first one of the LINE of the METHOD's CLASS DECLARES", () -> {
      VtableTown x = empty();
      for (int cls = 0; cls < 12; cls++) {
        x.plain(cls - 1, 0);
      }
      x.field(0, 3);
      x.field(6, 3);
      body(x, 0, 0, ADD, 1, 0, PUT, 3, 0);
      body(x, 6, 0, ADD, 20, 0, PUT, 3, 0);
      body(x, 5, 1, GET, 3, 0);
      body(x, 6, 2, GET, 3, 0);
      body(x, 11, 3, GET, 3, 0);
      due("in 5, that of 0", x.run(11, 1), 1);
      due("in 6, its own", x.run(11, 2), 20);
      due("in 11, that of 6", x.run(11, 3), 20);
      due("an object of 5 has but one", x.run(5, 1), 1);
    });
    edge("section 4", "the FAULT 7, if none does, though a child does", () -> {
      for (int kind : new int[] {GET, PUT}) {
        for (int field = 0; field <= 3; field++) {
          VtableTown x = plains(1);
          body(x, 0, 1, kind, field, 0);
          x.plain(0, 0);
          x.field(1, field);
          x.field(0, (field + 1) % 4);
          runs(x, 1, 1, -10007, 1, 107);
          runs(x, 0, 1, -10007, 1, 7);
        }
      }
    });
    edge("section 4", "the FAULT 7, if it is an INTERFACE, though the object has that FIELD", () -> {
      for (int kind : new int[] {GET, PUT}) {
        VtableTown x = faces(1);
        body(x, 0, 1, kind, 0, 0);
        x.plain(NONE, 1);
        x.field(1, 0);
        runs(x, 1, 1, -10007, 1, 107);
      }
    });
  }

  private static void fieldsBesideEachOther(int f, int g) {
    VtableTown x = empty();
    for (int cls = 0; cls < 12; cls++) {
      x.plain(cls - 1, 0);
      x.field(cls, f);
      x.field(cls, g);
      body(x, cls, 0, ADD, 2 * cls + 1, 0, PUT, f, 0, ADD, 1, 0, PUT, g, 0);
      body(x, cls, 1, GET, f, 0, KEEP, cls, 0, SUPER, 1, 0);
      body(x, cls, 2, GET, g, 0, KEEP, cls, 0, SUPER, 2, 0);
    }
    for (int n = 0; n <= 1; n++) {
      due("the end of the LINE has no SUPER", x.run(11, n + 1), -10004);
      for (int cls = 0; cls < 12; cls++) {
        due("the FIELD " + (n == 0 ? f : g) + " of " + cls, x.ofClass(cls, 4), 2 * cls + 1 + n);
      }
    }
  }

  /** Twenty rows, one behind the other in depth, where the numbers of the CLASSES fall as the depth grows. */
  private static int deepClass(int i) {
    return 8 - 4 * (i % 3) + i / 3 % 4;
  }

  private static int deepName(int i) {
    return 1 + i / 12;
  }

  // ---- FRAMES

  /** So many rows in the CLASSES from 0, five each, that make the next one each; the last one is as told. */
  private static VtableTown deep(int rows, int... last) {
    VtableTown x = plains((rows + 4) / 5);
    for (int i = 0; i < rows; i++) {
      if (i == rows - 1) {
        body(x, i / 5, 1 + i % 5, last);
      } else {
        body(x, i / 5, 1 + i % 5, MAKE, (i + 1) / 5, 1 + (i + 1) % 5);
      }
    }
    return x;
  }

  /** The last CLASS has been INITIALISED ahead, so that it needs no FRAME for that. */
  private static VtableTown deepAndReady(int rows, int... last) {
    VtableTown x = deep(rows, last);
    due("made READY", x.run(x.many(0) - 1, 5), -10004);
    return x;
  }

  private static void twentyFrames() {
    edge("section 5", "20 FRAMES are allowed, with a STEP in the last one, or without", () -> {
      runs(deep(20, ADD, 7, 0), 0, 1, 7, 20, 4 * 50 + 20 * 6 + 20);
      runs(deep(20), 0, 1, 0, 19, 4 * 50 + 20 * 6 + 19);
      runs(deep(19, ADD, 7, 0), 0, 1, 7, 19, 4 * 50 + 19 * 6 + 19);
    });
    edge("section 5", "to begin one while there are 20 is the FAULT 9, for an empty one, too", () -> {
      runs(deepAndReady(21), 0, 1, -10009, 20, 4 * 50 + 21 * 6 + 20);
      runs(deepAndReady(21, ADD, 7, 0), 0, 1, -10009, 20, 4 * 50 + 21 * 6 + 20);
      runs(deepAndReady(22, ADD, 7, 0), 0, 1, -10009, 20, 4 * 50 + 21 * 6 + 20);
    });
    edge("section 5", "a FRAME is one as long as it goes on: what is over counts no more", () -> {
      VtableTown x = deep(20, ADD, 7, 0);
      due("two runs", x.run(0, 1) + x.run(0, 1), 14);
      VtableTown y = deepAndReady(21, ADD, 3, 0);
      due("behind the FAULT 9", y.run(0, 1), -10009);
      due("one less", y.run(0, 2), 3);
      due("and once more", y.run(0, 1), -10009);
      VtableTown z = plains(1);
      body(z, 0, 1, join(times(5, CALL, 2, 0), times(1, CALL, 3, 0)));
      body(z, 0, 2, times(6, CALL, 3, 0));
      body(z, 0, 3, ADD, 1, 0);
      due("37 one behind the other", z.run(0, 1), 31);
    });
  }

  private static void frameOfEachSort() {
    edge("section 5", "the FAULT 9 by CALL: it costs ahead of its FRAME, and the PLACE knows it", () -> {
      VtableTown x = plains(1);
      body(x, 0, 1, CALL, 1, 0);
      runs(x, 0, 1, -10009, 20, 50 + 6 + 20 + 20);
      VtableTown y = faces(1);
      body(y, 0, 1, CALL, 1, 0);
      y.plain(NONE, 1);
      runs(y, 1, 1, -10009, 20, 100 + 6 + 20 + 10 + 19 * 2);
      due("HITS", y.ofPlace(0, 1, 0, 2), 19);
      due("MISSES", y.ofPlace(0, 1, 0, 3), 1);
    });
    edge("section 5", "the FAULT 9 by SUPER: it costs ahead of its FRAME", () -> {
      VtableTown x = plains(1);
      body(x, 0, 1, CALL, 1, 0);
      x.plain(0, 0);
      body(x, 1, 1, SUPER, 1, 0);
      body(x, 1, 2, CALL, 1, 0);
      // the 20th is of 0, so a CALL begins the 21st: ten of each
      runs(x, 1, 1, -10009, 20, 100 + 6 + 20 + 10 + (10 + 9 * 2));
      // one CALL that is DIRECT ahead: the 20th is of 1, so a SUPER begins the 21st; nine HITS
      runs(x, 1, 2, -10009, 20, 6 + 20 + 1 + 10 + 9 * 2);
    });
    edge("section 5", "the FAULT 9 by MAKE: the object is made, and it costs ahead of its FRAME", () -> {
      VtableTown x = plains(1);
      body(x, 0, 1, MAKE, 0, 1);
      runs(x, 0, 1, -10009, 20, 50 + 6 + 20 + 20 * 6);
      due("objects", x.ofClass(0, 7), 21);
    });
    edge("section 5", "the FAULT 9 by a MAKER, empty or not: its NAME is not found, so MAKE costs nothing", () -> {
      VtableTown x = plains(1);
      body(x, 0, 0, MAKE, 0, 1);
      body(x, 0, 1);
      runs(x, 0, 1, -10009, 20, 50 + 20);
      due("objects", x.ofClass(0, 7), 21);
      VtableTown y = deep(20, MAKE, 4, 1);
      y.plain(NONE, 0);
      body(y, 4, 0);
      body(y, 4, 1);
      due("made READY", y.run(4, 1), 0);
      runs(y, 0, 1, -10009, 20, 4 * 50 + 20 * 6 + 20);
      due("the object was made", y.ofClass(4, 7), 2);
      VtableTown z = deep(19, MAKE, 4, 1);
      z.plain(NONE, 0);
      body(z, 4, 0);
      body(z, 4, 1, ADD, 2, 0);
      runs(z, 0, 1, 2, 20, 5 * 50 + 20 * 6 + 20);
    });
    edge("section 5", "the FAULT 9 by an INITIALISER, empty or not", () -> {
      for (int rows = 19; rows <= 20; rows++) {
        VtableTown x = deep(rows, READ, 4, 0);
        x.plain(5, 0);
        x.plain(NONE, 0);
        boolean last = rows == 20;
        runs(x, 0, 1, last ? -10009 : 0, rows, 6 * 50 + rows * 6 + rows);
        due("it is FAILED, or READY", x.ofClass(4, 3), last ? 3 : 2);
        due("so is its PARENT", x.ofClass(5, 3), last ? 3 : 2);
        due("its STEPS told", x.many(13), rows);
      }
      VtableTown y = deep(20, READ, 4, 0);
      y.plain(NONE, 0);
      y.run(4, 1);
      due("one that is READY needs no FRAME", y.run(0, 1), 0);
      VtableTown z = deep(21);
      runs(z, 0, 1, -10009, 20, 5 * 50 + 20 * 6 + 20);
      due("MAKE: it is FAILED, and no object was made", z.ofClass(4, 3) * 10 + z.ofClass(4, 7), 30);
    });
    edge("section 5", "a PARENT that is FAILED goes ahead of the FRAME that there is not", () -> {
      VtableTown x = deep(20, READ, 5, 0);
      x.plain(NONE, 0);
      initialiser(x, 4, READ, 11, 0);
      x.plain(4, 0);
      due("the PARENT alone", x.run(4, 1), -10001);
      due("in the 20th FRAME", x.run(0, 1), -10006);
      due("FAILED", x.ofClass(5, 3), 3);
    });
    edge("section 5", "twelve INITIALISERS within each other are twelve FRAMES", () -> {
      VtableTown x = plains(12);
      for (int cls = 0; cls < 11; cls++) {
        initialiser(x, cls, READ, cls + 1, 0);
      }
      initialiser(x, 11, MAKE, 11, 1);
      body(x, 11, 1, CALL, 1, 0);
      runs(x, 0, 1, -10009, 20, 600 + 20 + 6 + 8);
      due("FAILED, all of them", x.many(4), 0);
    });
    edge("section 5", "INITIALISERS of a LINE are FRAMES one behind the other", () -> {
      VtableTown x = deep(20, ADD, 7, 0);
      for (int cls = 4; cls < 12; cls++) {
        x.plain(cls == 11 ? 0 : cls + 1, 0);
        initialiser(x, cls, ADD, 1, 0);
      }
      due("the LINE of nine, and 20 FRAMES", x.run(4, 1), 7);
      due("STEPS", x.many(13), 28);
    });
  }

  // ---- STEPS

  /** A CLASS whose NAME 1 takes just 400 STEPS: four times (1 + 99), that is three times (1 + 32), that 5 + 4 * 6 + 3. */
  private static void tell400(VtableTown x, int cls, int... behind) {
    body(x, cls, 1, join(times(4, CALL, 2, 0), behind));
    body(x, cls, 2, times(3, CALL, 3, 0));
    body(x, cls, 3, join(times(4, CALL, 4, 0), times(1, CALL, 5, 0)));
    body(x, cls, 4, times(6, ADD, 1, 0));
    body(x, cls, 5, times(3, ADD, 1, 0));
  }

  private static final int CALLS_OF_400 = 4 + 12 + 60;
  private static final int GIVEN_BY_400 = 12 * 27;

  private static void fourHundredSteps() {
    edge("section 5", "400 STEPS of a run are allowed", () -> {
      VtableTown x = plains(1);
      tell400(x, 0);
      runs(x, 0, 1, GIVEN_BY_400, 400, 50 + 6 + 400 + CALLS_OF_400);
    });
    edge("section 5", "to begin a STEP behind 400 is the FAULT 8, and costs nothing", () -> {
      for (int kind = 0; kind <= 8; kind++) {
        VtableTown x = plains(1);
        tell400(x, 0, kind, 1, kind == MAKE ? 1 : 0);
        runs(x, 0, 1, -10008, 400, 50 + 6 + 400 + CALLS_OF_400);
      }
    });
    edge("section 5", "of a run: each has 400 of its own", () -> {
      VtableTown x = plains(1);
      tell400(x, 0);
      x.plain(0, 0);
      body(x, 1, 5, times(4, ADD, 1, 0));
      due("one", x.run(0, 1), GIVEN_BY_400);
      due("one more", x.run(0, 1), GIVEN_BY_400);
      due("too many", x.run(1, 1), -10008);
      due("and again", x.run(0, 1), GIVEN_BY_400);
      due("STEPS", x.many(13), 400);
    });
    edge("section 5", "a FRAME without STEPS behind 400 is allowed, and what a MAKE calls", () -> {
      VtableTown x = plains(2);
      tell400(x, 0);
      body(x, 0, 5, ADD, 1, 0, ADD, 1, 0, MAKE, 1, 1);
      body(x, 1, 0);
      body(x, 1, 1);
      runs(x, 0, 1, 12 * 26, 400, 100 + 6 + 400 + CALLS_OF_400 + 12 * 6);
    });
  }

  private static void stepsOfEachSort() {
    edge("section 5", "STEPS of an INITIALISER count: once, so the second run has room", () -> {
      VtableTown x = plains(1);
      tell400(x, 0);
      initialiser(x, 0, ADD, 1, 0);
      runs(x, 0, 1, -10008, 400, 50 + 6 + 400 + CALLS_OF_400);
      runs(x, 0, 1, GIVEN_BY_400, 400, 6 + 400 + CALLS_OF_400);
    });
    edge("section 5", "STEPS of a MAKER count, each time", () -> {
      VtableTown x = plains(1);
      tell400(x, 0);
      body(x, 0, 0, ADD, 1, 0);
      runs(x, 0, 1, -10008, 400, 50 + 6 + 400 + CALLS_OF_400);
      runs(x, 0, 1, -10008, 400, 6 + 400 + CALLS_OF_400);
    });
    edge("section 5", "a STEP that makes another one counts with the STEPS of that", () -> {
      VtableTown x = plains(2);
      tell400(x, 0);
      body(x, 1, 1, MAKE, 0, 1);
      initialiser(x, 1, MAKE, 0, 1);
      body(x, 1, 2);
      due("in an INITIALISER", x.run(1, 2), -10008);
      due("it is FAILED", x.run(1, 2), -10006);
      x.plain(NONE, 0);
      body(x, 2, 1, MAKE, 0, 1);
      due("in a METHOD", x.run(2, 1), -10008);
    });
    edge("section 5", "the 400th STEP in the 20th FRAME may call: the FAULT 9; the 401st is the FAULT 8", () -> {
      for (int more = 0; more <= 1; more++) {
        VtableTown x = deep(20, CALL, 1, 0);
        x.plain(NONE, 0);
        tell400(x, 4);
        // 6 + 3 * 99 + 2 * 32 + 6 STEPS, and six of its MAKER: 379
        body(x, 4, 1, join(times(3, CALL, 2, 0), times(2, CALL, 3, 0), times(1, CALL, 4, 0)));
        body(x, 4, 0, times(6, ADD, 1, 0));
        body(x, 0, 1, join(times(more, ADD, 1, 0), new int[] {MAKE, 4, 1, MAKE, 0, 2}));
        due("run", x.run(0, 1), more == 0 ? -10009 : -10008);
        due("STEPS", x.many(13), 400);
      }
    });
  }

  // ---- PLACES and COSTS

  /** 0 has a PLACE in its NAME 1; 1 to 6 are its children, with a METHOD of their own. */
  private static VtableTown family() {
    VtableTown x = plains(1);
    body(x, 0, 1, CALL, 2, 0);
    body(x, 0, 2);
    for (int cls = 1; cls <= 6; cls++) {
      x.plain(0, 0);
      body(x, cls, 2, ADD, cls, 0);
    }
    return x;
  }

  private static void place(VtableTown x, int... want) {
    for (int what = 0; what < want.length; what++) {
      due("ofPlace(0, 1, 0, " + what + ")", x.ofPlace(0, 1, 0, what), want[what]);
    }
  }

  private static void directAndCache() {
    edge("section 5", "DIRECT: that costs 1, and the CACHE stays empty", () -> {
      VtableTown x = family();
      runs(x, 0, 1, 0, 1, 50 + 6 + 1 + 1);
      runs(x, 0, 1, 0, 1, 6 + 1 + 1);
      place(x, 1, 0, 0, 0, 0, 0, NONE);
    });
    edge("section 5", "a MISS costs 10, for each of four; a HIT at the place k costs 2 + k", () -> {
      VtableTown x = family();
      for (int cls = 1; cls <= 6; cls++) {
        x.load(cls);
      }
      place(x, 0, 0, 0, 0, 0, 1, NONE);
      int[] order = {4, 2, 6, 1};
      for (int k = 0; k < 4; k++) {
        runs(x, order[k], 1, order[k], 2, 6 + 2 + 10);
        place(x, 0, k + 1, k, k + 1, 0, 1, 4);
        runs(x, 4, 1, 4, 2, 6 + 2 + 2);
      }
      for (int k = 3; k >= 0; k--) {
        runs(x, order[k], 1, order[k], 2, 6 + 2 + 2 + k);
      }
      place(x, 0, 4, 8, 4, 0, 1, 4);
    });
    edge("section 5", "if there are 4, the PLACE GIVES UP for good: a MISS, then 6 each, no HIT, no MISS", () -> {
      VtableTown x = family();
      for (int cls = 1; cls <= 5; cls++) {
        x.load(cls);
      }
      for (int cls = 1; cls <= 4; cls++) {
        x.run(cls, 1);
      }
      place(x, 0, 4, 0, 4, 0, 1, 1);
      runs(x, 5, 1, 5, 2, 6 + 2 + 10);
      place(x, 0, 0, 0, 5, 1, 1, NONE);
      for (int cls = 0; cls <= 5; cls++) {
        runs(x, cls, 1, cls, cls == 0 ? 1 : 2, 6 + (cls == 0 ? 1 : 2) + 6);
      }
      runs(x, 6, 1, 6, 2, 50 + 6 + 2 + 6);
      place(x, 0, 0, 0, 5, 1, 1, NONE);
      due("GAVE UP", x.many(7), 1);
      due("HITS", x.many(9), 0);
      due("MISSES", x.many(10), 5);
    });
    edge("section 5", "the CLASSES 0 and 11 are in a CACHE as any other one", () -> {
      VtableTown x = plains(1);
      body(x, 0, 1, CALL, 2, 0);
      body(x, 0, 2);
      for (int cls = 1; cls <= 11; cls++) {
        x.plain(cls == 11 ? 0 : NONE, 0);
      }
      body(x, 11, 2);
      x.load(11);
      runs(x, 0, 1, 0, 1, 6 + 1 + 10);
      runs(x, 11, 1, 0, 1, 6 + 1 + 10);
      place(x, 0, 2, 0, 2, 0, 1, 0);
      runs(x, 0, 1, 0, 1, 6 + 1 + 2);
      runs(x, 11, 1, 0, 1, 6 + 1 + 3);
    });
    edge("section 5", "a PLACE of an INTERFACE is never DIRECT, though just one METHOD can be found", () -> {
      VtableTown x = faces(1);
      body(x, 0, 1, CALL, 2, 0);
      body(x, 0, 2);
      x.plain(NONE, 1);
      runs(x, 1, 1, 0, 1, 100 + 6 + 1 + 10);
      runs(x, 1, 1, 0, 1, 6 + 1 + 2);
      place(x, 0, 1, 1, 1, 0, 0, 1);
    });
    edge("section 5", "a FAULT changes nothing at the PLACE, and costs nothing", () -> {
      VtableTown x = plains(1);
      body(x, 0, 1, CALL, 2, 0);
      x.plain(0, 0);
      body(x, 1, 2);
      runs(x, 0, 1, -10004, 1, 50 + 6 + 1);
      place(x, 0, 0, 0, 0, 0, 0, NONE);
      runs(x, 1, 1, 0, 1, 50 + 6 + 1 + 10);
      place(x, 0, 1, 0, 1, 0, 0, 1);
      runs(x, 0, 1, -10004, 1, 6 + 1);
      place(x, 0, 1, 0, 1, 0, 0, 1);
    });
    edge("section 5", "a PLACE of a MAKER, and the last STEP of a full row", () -> {
      VtableTown x = plains(1);
      body(x, 0, 0, join(times(5, ADD, 1, 0), times(1, CALL, 5, 0)));
      body(x, 0, 5, ADD, 1, 0);
      due("FRESH", x.many(5), 0);
      runs(x, 0, 5, 1, 8, 50 + 7 + 1 + 6 + 1);
      due("DIRECT", x.ofPlace(0, 0, 5, 0), 1);
      due("PLACES", x.many(5), 1);
    });
  }

  private static void turnedFrames() {
    edge("section 5", "no FRAME goes on as load() comes from outside: TURNED BACK costs nothing", () -> {
      VtableTown x = family();
      x.run(0, 1);
      x.load(1);
      due("TURNED BACK", x.ofPlace(0, 1, 0, 5), 1);
      due("COST", x.many(12), 58);
      dueD("mean", x.meanCost(), 58.0);
      x.load(2);
      due("once", x.ofPlace(0, 1, 0, 5), 1);
    });
    edge("section 5", "one FRAME that goes on costs 5", () -> {
      VtableTown x = plains(1);
      body(x, 0, 1, CALL, 2, 0);
      body(x, 0, 2, IS, 1, 0);
      x.plain(0, 0);
      body(x, 1, 2);
      runs(x, 0, 1, 0, 2, 50 + 6 + 2 + 1 + 50 + 5);
      due("TURNED BACK", x.many(8), 1);
    });
    edge("section 5", "a FRAME that is over costs nothing", () -> {
      VtableTown x = plains(1);
      body(x, 0, 1, CALL, 2, 0, IS, 1, 0);
      body(x, 0, 2);
      x.plain(0, 0);
      body(x, 1, 2);
      runs(x, 0, 1, 0, 2, 50 + 6 + 2 + 1 + 50);
      due("TURNED BACK", x.many(8), 1);
    });
    edge("section 5", "a FRAME called from a PLACE that stays DIRECT costs nothing, nor one from outside, MAKE, SUPER", () -> {
      VtableTown x = plains(1);
      body(x, 0, 1, CALL, 2, 0, CALL, 3, 0);
      body(x, 0, 2, IS, 2, 0);
      body(x, 0, 3);
      x.plain(0, 0);
      body(x, 1, 4, MAKE, 1, 5);
      body(x, 1, 5, SUPER, 1, 0);
      x.plain(0, 0);
      body(x, 2, 3);
      // two CLASSES, two of MAKE, a STEP for MAKE, SUPER, CALL; then IS loads one, no PLACE that called is turned back
      runs(x, 1, 4, 0, 5, 100 + 12 + 5 + 1 + 1 + 50 + 10);
      due("TURNED BACK", x.ofPlace(0, 1, 0, 5) * 10 + x.ofPlace(0, 1, 1, 5), 1);
    });
    edge("section 5", "a FRAME called from a PLACE that was not DIRECT then costs nothing", () -> {
      VtableTown x = family();
      x.load(1);
      body(x, 2, 2, IS, 3, 0);
      runs(x, 2, 1, 0, 2, 50 + 6 + 2 + 10 + 50);
      due("TURNED BACK", x.many(8), 1);
    });
    edge("section 5", "six FRAMES that go on, called from the same PLACE, cost 5 each", () -> {
      VtableTown x = plains(1);
      body(x, 0, 1, CALL, 2, 0);
      body(x, 0, 2, READ, 1, 0, READ, 2, 0, READ, 3, 0, READ, 4, 0, READ, 5, 0, READ, 6, 0);
      for (int cls = 1; cls <= 5; cls++) {
        x.plain(NONE, 0);
        initialiser(x, cls, MAKE, 0, 1);
      }
      x.plain(0, 0);
      body(x, 6, 2);
      // seven CLASSES; six times 1 + 6 STEPS and five of INITIALISERS; six of MAKE, six DIRECT, six TURNED BACK
      runs(x, 0, 1, 0, 47, 350 + 47 + 36 + 6 + 30);
      due("TURNED BACK", x.ofPlace(0, 1, 0, 5), 1);
    });
    edge("section 5", "a LINE of twelve: the last one turns back the PLACES of the first one, and of all between", () -> {
      VtableTown x = empty();
      for (int cls = 0; cls < 12; cls++) {
        x.plain(cls - 1, 0);
        body(x, cls, 1, times(6, CALL, 5, 0));
        body(x, cls, 0, times(6, CALL, 5, 0));
      }
      body(x, 0, 5);
      body(x, 11, 5);
      x.load(10);
      due("PLACES", x.many(5), 11 * 12);
      due("DIRECT", x.many(6), 11 * 12);
      due("wouldTurn", x.wouldTurn(11), 11 * 12);
      x.load(11);
      due("PLACES", x.many(5), 12 * 12);
      due("DIRECT", x.many(6), 12);
      due("TURNED BACK", x.many(8), 11 * 12);
      for (int cls = 0; cls < 12; cls++) {
        due("the last one of " + cls, x.ofPlace(cls, 1, 5, 5), cls < 11 ? 1 : 0);
        due("the first one of " + cls, x.ofPlace(cls, 0, 0, 5), cls < 11 ? 1 : 0);
      }
    });
    edge("section 5", "each PLACE by what its own CLASS and its children find", () -> {
      VtableTown x = empty();
      for (int cls = 0; cls < 6; cls++) {
        x.plain(cls - 1, 0);
        body(x, cls, 1, CALL, 2, 0);
        if (cls % 2 == 0) {
          body(x, cls, 2);
        }
      }
      // 0 and 1 find that of 0, 2 and 3 that of 2, 4 and 5 that of 4
      for (int last = 0; last < 6; last++) {
        due("wouldTurn", x.wouldTurn(last), last == 2 || last == 4 ? 2 : 0);
        x.load(last);
        for (int cls = 0; cls <= last; cls++) {
          due("DIRECT", x.ofPlace(cls, 1, 0, 0), cls / 2 == last / 2 ? 1 : 0);
        }
      }
      due("TURNED BACK", x.many(8), 4);
    });
    edge("section 5", "a child that finds a FAULT turns back, too; one that is BROKEN does not", () -> {
      VtableTown x = plains(1);
      body(x, 0, 1, CALL, 2, 0);
      body(x, 0, 2);
      x.plain(0, 2048);
      x.open(1, 2);
      x.plain(0, 0);
      x.open(2, 2);
      x.load(0);
      due("BROKEN", x.load(1), 1);
      place(x, 1, 0, 0, 0, 0, 0, NONE);
      due("a FAULT", x.load(2), 0);
      place(x, 0, 0, 0, 0, 0, 1, NONE);
    });
    edge("section 5", "a child that finds the METHOD of the same CLASS does not turn back", () -> {
      VtableTown x = faces(1);
      body(x, 0, 2);
      x.plain(NONE, 1);
      body(x, 1, 1, CALL, 2, 0);
      x.plain(1, 0);
      x.plain(1, 8);
      x.face(0);
      body(x, 4, 3);
      x.load(2);
      due("DIRECT", x.ofPlace(1, 1, 0, 0), 1);
      x.plain(1, 64);
      x.face(1);
      body(x, 6, 2);
      due("wouldTurn", x.wouldTurn(5), 1);
      x.load(5);
      due("TURNED BACK by an INTERFACE that outdoes the other one", x.ofPlace(1, 1, 0, 5), 1);
    });
  }

  private static void costs() {
    edge("section 5", "each STEP costs 1 as it begins, also the one that ends by a FAULT", () -> {
      VtableTown x = plains(1);
      body(x, 0, 1, GET, 0, 0);
      runs(x, 0, 1, -10007, 1, 50 + 6 + 1);
    });
    edge("section 5", "if no METHOD is found: nothing, for CALL, SUPER, MAKE and from outside", () -> {
      VtableTown x = plains(1);
      x.plain(0, 0);
      body(x, 1, 1, CALL, 5, 0);
      body(x, 1, 2, SUPER, 5, 0);
      body(x, 1, 3, MAKE, 0, 5);
      body(x, 0, 2, SUPER, 1, 0);
      x.load(1);
      runs(x, 1, 1, -10004, 1, 7);
      runs(x, 1, 2, -10004, 1, 7);
      runs(x, 1, 3, -10004, 1, 7);
      runs(x, 1, 4, -10004, 0, 0);
      runs(x, 0, 2, -10004, 1, 7);
    });
    edge("section 5", "MAKE and SUPER call for 6 and 1, a MAKER nothing, from outside 6, each CLASS 50", () -> {
      VtableTown x = plains(1);
      body(x, 0, 0);
      body(x, 0, 1);
      x.plain(0, 0);
      body(x, 1, 0);
      body(x, 1, 1, SUPER, 1, 0, SUPER, 1, 0, MAKE, 0, 1);
      runs(x, 1, 1, 0, 3, 100 + 6 + 3 + 2 + 6);
      runs(x, 1, 1, 0, 3, 6 + 3 + 2 + 6);
    });
    edge("section 5", "CLASSES that become LOADED ahead of a FAULT cost 50 each, those that are BROKEN nothing", () -> {
      VtableTown x = faces(2);
      x.plain(3, 1 + 2 + 2048);
      x.plain(NONE, 0);
      runs(x, 2, 1, -10001, 0, 150);
      runs(x, 2, 1, -10001, 0, 0);
    });
    edge("section 5", "SUPER: the FAULT 4 without a PARENT, in an INTERFACE, too", () -> {
      VtableTown x = faces(1);
      body(x, 0, 1, SUPER, 2, 0);
      body(x, 0, 2);
      x.plain(NONE, 1);
      body(x, 1, 3, SUPER, 2, 0);
      runs(x, 1, 1, -10004, 1, 100 + 6 + 1);
      runs(x, 1, 3, -10004, 1, 6 + 1);
    });
    edge("section 5", "SUPER: the FAULT 5 of what its PARENT FINDS", () -> {
      VtableTown x = faces(2);
      body(x, 0, 1);
      body(x, 1, 1);
      x.plain(NONE, 3);
      x.plain(2, 0);
      body(x, 3, 1, SUPER, 1, 0);
      runs(x, 3, 1, -10005, 1, 200 + 6 + 1);
    });
  }

  // ---- what would be

  /** Something of all: CLASSES of each state, a PLACE that gave up, one that was turned back, one with a CACHE. */
  private static VtableTown lively() {
    VtableTown x = family();
    x.plain(NONE, 0);
    initialiser(x, 7, READ, 7, 0, ADD, 1, 0, KEEP, 7, 0);
    x.field(7, 1);
    body(x, 7, 0, READ, 7, 0, ADD, 1, 0, KEEP, 7, 0, PUT, 1, 0);
    body(x, 7, 1, GET, 1, 0, MAKE, 8, 1, CALL, 2, 0);
    body(x, 7, 2, MAKE, 9, 1);
    x.plain(NONE, 0);
    body(x, 8, 1, CALL, 2, 0, CALL, 3, 0);
    body(x, 8, 2);
    body(x, 8, 3, READ, 10, 0);
    x.plain(8, 0);
    body(x, 9, 2, ADD, 1, 0);
    x.plain(NONE, 0);
    initialiser(x, 10, READ, 10, 0, ADD, 5, 0, KEEP, 10, 0, MAKE, 3, 5);
    for (int cls = 1; cls <= 3; cls++) {
      x.run(cls, 1);
    }
    x.run(0, 1);
    x.run(8, 2);
    return x;
  }

  private static void nothingIsChanged() {
    Supplier<VtableTown> lively = RunEdgeTest::lively;
    edge("promises 17 to 21", "what would be: nothing is changed, by each of them for each CLASS and NAME", () -> {
      for (int cls = 0; cls < 12; cls++) {
        VtableTown x = lively.get();
        x.wouldLoad(cls);
        x.wouldTurn(cls);
        for (int name = 1; name <= 5; name++) {
          x.wouldRun(cls, name);
          x.wouldCost(cls, name);
          x.wouldWarm(cls, name);
        }
        same("what is asked behind all that", x, lively.get());
      }
    });
    edge("promises 17 and 18", "what run() would tell, and the COST of that run: for each CLASS and NAME", () -> {
      for (int cls = 0; cls < 12; cls++) {
        for (int name = 1; name <= 5; name++) {
          VtableTown x = lively.get();
          int gives = x.wouldRun(cls, name);
          int cost = x.wouldCost(cls, name);
          int warm = x.wouldWarm(cls, name);
          VtableTown y = lively.get();
          due("wouldRun", gives, y.run(cls, name));
          due("wouldCost", cost, y.many(12));
          y.run(cls, name);
          due("wouldWarm", warm, cost - y.many(12));
        }
      }
    });
    edge("promises 19 and 20", "what load() would do: for each CLASS", () -> {
      for (int cls = 0; cls < 12; cls++) {
        VtableTown x = lively.get();
        int loads = x.wouldLoad(cls);
        int turns = x.wouldTurn(cls);
        VtableTown y = lively.get();
        int loaded = y.many(2);
        int turned = y.many(8);
        y.load(cls);
        due("wouldLoad", loads, y.many(2) - loaded);
        due("wouldTurn", turns, y.many(8) - turned);
      }
    });
    edge("promises 17 to 21", "each of them as the first one behind a call that changes something", () -> {
      for (int which = 0; which < 6; which++) {
        VtableTown x = plains(2);
        body(x, 0, 1, READ, 0, 0, ADD, 1, 0, KEEP, 0, 0);
        x.digest();
        x.run(0, 1);
        would(x, which);
        due("LOADED still", x.ofClass(0, 1), 1);
        due("kept still", x.ofClass(0, 4), 1);
        due("runs still", x.many(11), 1);
        x.run(0, 1);
        would(x, which);
        due("kept still", x.ofClass(0, 4), 2);
        due("runs still", x.many(11), 2);
      }
    });
  }

  private static void would(VtableTown x, int which) {
    switch (which) {
      case 0:
        x.wouldRun(0, 1);
        break;
      case 1:
        x.wouldCost(0, 1);
        break;
      case 2:
        x.wouldLoad(1);
        break;
      case 3:
        x.wouldTurn(1);
        break;
      case 4:
        x.wouldWarm(0, 1);
        break;
      default:
        x.digest();
    }
  }

  private static void warm() {
    edge("promise 21", "0, where both cost the same", () -> {
      VtableTown x = plains(1);
      body(x, 0, 1, ADD, 1, 0);
      x.run(0, 1);
      due("a second one", x.wouldWarm(0, 1), 0);
      due("one that is not told", x.wouldWarm(11, 1), 0);
    });
    edge("promise 21", "less: loading, an INITIALISER, a MISS", () -> {
      VtableTown x = plains(1);
      initialiser(x, 0, ADD, 1, 0, KEEP, 0, 0);
      body(x, 0, 1, ADD, 1, 0);
      due("50 and two STEPS", x.wouldWarm(0, 1), 52);
      x.load(0);
      due("two STEPS", x.wouldWarm(0, 1), 2);
      VtableTown y = faces(1);
      body(y, 0, 1, CALL, 2, 0);
      body(y, 0, 2);
      y.plain(NONE, 1);
      y.load(1);
      due("a MISS, then a HIT", y.wouldWarm(1, 1), 8);
    });
    edge("promise 21", "less: the first one ends by a FAULT that leaves it FAILED, the second one by the FAULT 6", () -> {
      VtableTown x = plains(1);
      initialiser(x, 0, READ, 11, 0);
      due("50 and a STEP", x.wouldWarm(0, 1), 51);
    });
    edge("promise 21", "below 0: more, where the PLACE gives up, and by one that is turned back", () -> {
      VtableTown x = family();
      x.plain(NONE, 0);
      body(x, 7, 1, MAKE, 1, 1, MAKE, 1, 1, MAKE, 5, 1);
      for (int cls = 1; cls <= 7; cls++) {
        x.load(cls);
      }
      for (int cls = 1; cls <= 4; cls++) {
        x.run(cls, 1);
      }
      due("2 + 2 + 10 for 6 + 6 + 6", x.wouldWarm(7, 1), -4);
      VtableTown y = plains(1);
      body(y, 0, 1, times(6, CALL, 2, 0));
      body(y, 0, 2, times(6, CALL, 3, 0));
      body(y, 0, 3);
      body(y, 0, 4, CALL, 1, 0, MAKE, 1, 5);
      y.plain(0, 0);
      body(y, 1, 3);
      body(y, 1, 2);
      body(y, 1, 5);
      y.load(0);
      // 42 that are DIRECT, then six MISSES and 30 HITS in one row, one MISS and five HITS in the other, but no 50
      due("turned back", y.wouldWarm(0, 4), 42 + 50 - 12 * 10 - 30 * 2);
    });
  }
}
