import java.util.function.Supplier;

/** The edges of sections 2 and 3 and of promises 9, 12, 13 and 19: loading, and what CLASSES find. */
public final class LoadEdgeTest extends Edges {
  public static void main(String[] args) {
    numbers();
    brokenAndLoaded();
    rings();
    orderOfLoading();
    wrongSorts();
    long12();
    whatItIsOf();
    lines();
    interfacesFound();
    tables();
    wouldLoads();
    end("LoadEdgeTest");
  }

  private static void status(VtableTown x, int cls, int status, int fault) {
    due("status of " + cls, x.ofClass(cls, 1), status);
    due("FAULT of " + cls, x.ofClass(cls, 2), fault);
  }

  /** The CLASSES in the order in which they became LOADED. */
  private static void orders(VtableTown x, int... classes) {
    due("CLASSES that are LOADED", x.many(2), classes.length);
    for (int n = 0; n < classes.length; n++) {
      due("the how manieth it was: " + classes[n], x.ofClass(classes[n], 8), n);
    }
  }

  // ---- promise 9 and section 2

  private static void numbers() {
    edge("promise 9", "IndexOutOfBoundsException if cls is not 0 to 11", () -> {
      for (int bad : new int[] {LOW, -2, -1, 12, 13, HIGH}) {
        refused("load(" + bad + ")", INDEX, Edges::empty, x -> x.load(bad));
        refused("load(" + bad + ") of twelve", INDEX, () -> plains(12), x -> x.load(bad));
        refused("wouldLoad(" + bad + ")", INDEX, () -> plains(12), x -> x.wouldLoad(bad));
      }
      due("load(0)", plains(12).load(0), 0);
      due("load(11)", plains(12).load(11), 0);
    });
    edge("section 2", "to LOAD one that is not told is the FAULT 1", () -> {
      for (int count = 0; count <= 11; count++) {
        VtableTown x = plains(count);
        due("the first one that is not told", x.load(count), 1);
        due("the last one that is not told", x.load(11), 1);
        if (count > 0) {
          due("the last one that is told", x.load(count - 1), 0);
        }
      }
    });
    edge("section 2", "one that was not told is FRESH as it is told", () -> {
      VtableTown x = empty();
      due("not told", x.load(0), 1);
      x.run(0, 1);
      x.plain(NONE, 0);
      status(x, 0, 0, 0);
      due("told", x.load(0), 0);
      status(x, 0, 1, 0);
    });
    edge("promise 9", "the FAULT; 0 without one", () -> {
      VtableTown x = plains(1);
      x.plain(11, 0);
      x.plain(NONE, 4);
      x.plain(NONE, 1);
      due("none", x.load(0), 0);
      due("one", x.load(1), 1);
      due("two", x.load(2), 2);
      due("three", x.load(3), 3);
    });
    edge("promise 16", "a load() from outside is no run, and its COST is none", () -> {
      VtableTown x = plains(2);
      x.load(0);
      due("runs", x.many(11), 0);
      due("COST", x.many(12), 0);
      dueD("mean", x.meanCost(), 0.0);
      due("its own STEPS and COST alone are those of the next run", x.run(1, 1), -10004);
      due("COST", x.many(12), 50);
      x.load(0);
      due("COST still", x.many(12), 50);
      dueD("mean", x.meanCost(), 50.0);
    });
  }

  private static void brokenAndLoaded() {
    edge("section 2", "one that is BROKEN is its FAULT, for good", () -> {
      VtableTown x = empty();
      x.plain(1, 0);
      x.face(4);
      due("its PARENT is an INTERFACE that names one that is not told", x.load(0), 1);
      status(x, 0, 2, 1);
      status(x, 1, 2, 1);
      x.face(0);
      due("told by now", x.load(0), 1);
      due("and the other one", x.load(1), 1);
      status(x, 2, 0, 0);
      due("BROKEN", x.many(3), 2);
    });
    edge("section 2", "each of the FAULTS 1, 2 and 3 stays what it was, and goes on to all that name it", () -> {
      for (int fault = 1; fault <= 3; fault++) {
        VtableTown x = empty();
        x.face(fault == 1 ? 2048 : fault == 2 ? 1 : 2);
        x.plain(NONE, 0);
        x.face(1);
        x.plain(NONE, 4);
        x.plain(3, 0);
        due("the last one", x.load(4), fault);
        for (int cls : new int[] {0, 2, 3, 4}) {
          status(x, cls, 2, fault);
          due("once more", x.load(cls), fault);
          due("its order", x.ofClass(cls, 8), NONE);
          due("OF", x.ofClass(cls, 5), 0);
        }
      }
    });
    edge("section 2", "one that is LOADED is nothing", () -> {
      VtableTown x = plains(2);
      x.plain(0, 0);
      x.load(0);
      x.load(1);
      due("again", x.load(0), 0);
      orders(x, 0, 1);
      due("its child costs 50 alone", x.run(2, 1) + x.many(12), -10004 + 50);
      orders(x, 0, 1, 2);
    });
  }

  private static void rings() {
    edge("section 2", "one that is being LOADED just then is the FAULT 2: itself", () -> {
      VtableTown x = faces(0);
      x.face(1);
      x.plain(NONE, 2);
      due("an INTERFACE that names itself", x.load(0), 2);
      due("a PLAIN one that names itself as an INTERFACE", x.load(1), 2);
      status(x, 0, 2, 2);
      status(x, 1, 2, 2);
    });
    edge("section 2", "the FAULT 2 in a ring of two, and of all twelve", () -> {
      for (int size = 2; size <= 12; size += 10) {
        VtableTown parents = empty();
        VtableTown faces = empty();
        for (int cls = 0; cls < size; cls++) {
          parents.plain((cls + 1) % size, 0);
          faces.face(1 << (cls + 1) % size);
        }
        due("PARENTS", parents.load(0), 2);
        due("INTERFACES", faces.load(size - 1), 2);
        for (int cls = 0; cls < size; cls++) {
          status(parents, cls, 2, 2);
          status(faces, cls, 2, 2);
        }
        due("none is LOADED", parents.many(2) + faces.many(2), 0);
      }
    });
    edge("section 2", "the FAULT 2 in a ring of a PARENT and an INTERFACE goes ahead of the FAULT 3", () -> {
      VtableTown x = empty();
      x.plain(1, 0);
      x.plain(NONE, 1);
      due("its PARENT names it as an INTERFACE", x.load(0), 2);
      status(x, 1, 2, 2);
      VtableTown y = empty();
      y.plain(1, 0);
      y.plain(NONE, 1);
      due("begun at the other one", y.load(1), 2);
      status(y, 0, 2, 2);
    });
    edge("section 2", "two ways to the same one are no ring", () -> {
      VtableTown x = faces(1);
      x.face(1);
      x.face(1);
      x.plain(NONE, 2 + 4 + 1);
      x.plain(3, 2 + 4 + 1);
      due("load", x.load(4), 0);
      orders(x, 0, 1, 2, 3, 4);
    });
    edge("section 2", "further out only: one whose loading is over is no longer being LOADED", () -> {
      VtableTown x = empty();
      x.plain(1, 4);
      x.plain(NONE, 4);
      x.face(0);
      due("load", x.load(0), 0);
      orders(x, 2, 1, 0);
      VtableTown y = empty();
      y.plain(11, 0);
      y.plain(0, 0);
      due("a FAULT", y.load(0), 1);
      due("and its child", y.load(1), 1);
    });
  }

  private static void orderOfLoading() {
    edge("section 2", "first its PARENT, then its INTERFACES, by numbers", () -> {
      VtableTown x = faces(5);
      x.plain(6, 1 + 8 + 16);
      x.plain(NONE, 4);
      due("load", x.load(5), 0);
      orders(x, 2, 6, 0, 3, 4, 5);
    });
    edge("section 2", "a FAULT of its PARENT goes ahead of all INTERFACES", () -> {
      VtableTown x = faces(1);
      x.plain(11, 1 + 2);
      due("load", x.load(1), 1);
      due("nothing more is LOADED", x.many(2), 0);
    });
    edge("section 2", "by numbers: the FAULT of the first one, nothing more is LOADED for it", () -> {
      VtableTown x = faces(2);
      x.plain(NONE, 1 + 2 + 4 + 8 + 16);
      x.plain(NONE, 0);
      x.face(0);
      due("it is its own third one", x.load(2), 2);
      orders(x, 0, 1);
      x.plain(NONE, 1 + 8 + 16 + 2048);
      due("a PLAIN one ahead of one that is not told", x.load(5), 3);
      orders(x, 0, 1, 3);
      x.plain(NONE, 16 + 128 + 256);
      x.face(2048);
      x.face(0);
      due("a BROKEN one", x.load(6), 1);
      orders(x, 0, 1, 3, 4);
    });
    edge("section 2", "without a PARENT and INTERFACES it is LOADED alone", () -> {
      VtableTown x = plains(12);
      due("load", x.load(7), 0);
      orders(x, 7);
      due("FRESH", x.many(1), 11);
    });
  }

  private static void wrongSorts() {
    edge("section 2", "the FAULT 3: its PARENT is an INTERFACE (as soon as that is LOADED)", () -> {
      VtableTown x = faces(2);
      x.plain(0, 2);
      due("load", x.load(2), 3);
      status(x, 2, 2, 3);
      orders(x, 0);
    });
    edge("section 2", "the FAULT 3: one of its INTERFACES is PLAIN (as soon as that is LOADED)", () -> {
      VtableTown x = plains(1);
      x.face(0);
      x.plain(NONE, 1 + 2);
      x.face(1 + 2);
      due("of a PLAIN one", x.load(2), 3);
      orders(x, 0);
      due("of an INTERFACE", x.load(3), 3);
      orders(x, 0);
    });
    edge("section 2", "a PARENT or an INTERFACE that is LOADED already is of the wrong sort, too", () -> {
      VtableTown x = plains(1);
      x.face(0);
      x.load(0);
      x.load(1);
      x.plain(1, 0);
      x.plain(NONE, 1);
      due("PARENT", x.load(2), 3);
      due("INTERFACE", x.load(3), 3);
    });
    edge("section 2", "a FAULT of what is of the wrong sort goes ahead of the FAULT 3", () -> {
      VtableTown x = empty();
      x.face(2048);
      x.plain(11, 0);
      x.plain(0, 0);
      x.plain(NONE, 2);
      due("PARENT", x.load(2), 1);
      due("INTERFACE", x.load(3), 1);
    });
    edge("section 2", "the same one as PARENT and INTERFACE is of the wrong sort once", () -> {
      VtableTown x = plains(1);
      x.face(0);
      x.plain(0, 1);
      x.plain(1, 2);
      due("PLAIN", x.load(2), 3);
      due("an INTERFACE", x.load(3), 3);
    });
  }

  /** PLAIN CLASSES in a row, each the PARENT of the next one. */
  private static VtableTown row(int count) {
    VtableTown x = empty();
    for (int cls = 0; cls < count; cls++) {
      x.plain(cls - 1, 0);
    }
    return x;
  }

  private static void long12() {
    edge("section 2", "a LINE of all twelve", () -> {
      VtableTown x = row(12);
      body(x, 0, 1, ADD, 8, 0);
      due("wouldLoad", x.wouldLoad(11), 12);
      due("load", x.load(11), 0);
      orders(x, 0, 1, 2, 3, 4, 5, 6, 7, 8, 9, 10, 11);
      for (int cls = 0; cls < 12; cls++) {
        due("OF", x.ofClass(cls, 5), (1 << cls + 1) - 1);
        due("finds", x.finds(cls, 1), 0);
        due("slot", x.slot(cls, 1), 0);
      }
      due("run", x.run(11, 1), 8);
    });
    edge("section 2", "twelve INTERFACES in a row, the first named by the last", () -> {
      VtableTown x = empty();
      for (int cls = 0; cls < 11; cls++) {
        x.face(cls == 10 ? 0 : 1 << cls + 1);
      }
      x.plain(NONE, 1);
      body(x, 10, 1, ADD, 8, 0);
      due("load", x.load(11), 0);
      orders(x, 10, 9, 8, 7, 6, 5, 4, 3, 2, 1, 0, 11);
      due("OF", x.ofClass(11, 5), 4095);
      due("OF the first INTERFACE", x.ofClass(0, 5), 2047);
      due("finds", x.finds(11, 1), 10);
    });
    edge("section 2", "eleven INTERFACES of one", () -> {
      VtableTown x = faces(11);
      x.plain(NONE, 2047);
      due("load", x.load(11), 0);
      orders(x, 0, 1, 2, 3, 4, 5, 6, 7, 8, 9, 10, 11);
      due("OF", x.ofClass(11, 5), 4095);
    });
  }

  private static void whatItIsOf() {
    edge("section 2", "an INTERFACE is OF itself, and of those that it names, and so on", () -> {
      VtableTown x = faces(1);
      x.face(1);
      x.face(2);
      due("as it is FRESH", x.ofClass(2, 5), 0);
      x.load(2);
      due("of none", x.ofClass(0, 5), 1);
      due("of one", x.ofClass(1, 5), 3);
      due("of two", x.ofClass(2, 5), 7);
    });
    edge("section 2", "it is OF its LINE, of all their INTERFACES, and of those that these name", () -> {
      VtableTown x = faces(1);
      x.face(1);
      x.face(0);
      x.plain(NONE, 2);
      x.plain(3, 4);
      x.plain(4, 0);
      x.plain(3, 0);
      x.load(5);
      x.load(6);
      due("the end of the LINE", x.ofClass(3, 5), 1 + 2 + 8);
      due("its child", x.ofClass(4, 5), 1 + 2 + 4 + 8 + 16);
      due("the child of that", x.ofClass(5, 5), 1 + 2 + 4 + 8 + 16 + 32);
      due("another child", x.ofClass(6, 5), 1 + 2 + 8 + 64);
    });
  }

  // ---- section 3

  private static void finds(VtableTown x, int cls, int... want) {
    for (int name = 1; name <= 5; name++) {
      due("finds(" + cls + ", " + name + ")", x.finds(cls, name), want[name - 1]);
    }
  }

  /** 0 PLAIN, LOADED; 1 an INTERFACE, LOADED; 2 BROKEN; 3 FRESH. Each has the NAME 1. */
  private static VtableTown four() {
    VtableTown x = plains(1);
    x.face(0);
    x.plain(11, 0);
    x.plain(NONE, 0);
    for (int cls = 0; cls <= 3; cls++) {
      body(x, cls, 1);
    }
    for (int cls = 0; cls <= 2; cls++) {
      x.load(cls);
    }
    return x;
  }

  private static void lines() {
    Supplier<VtableTown> four = LoadEdgeTest::four;
    edge("promise 12", "IndexOutOfBoundsException if there is no such one that is PLAIN and LOADED", () -> {
      for (int bad : new int[] {LOW, -1, 1, 2, 3, 4, 11, 12, HIGH}) {
        refused("finds(" + bad + ", 1)", INDEX, four, x -> x.finds(bad, 1));
        refused("slot(" + bad + ", 1)", INDEX, four, x -> x.slot(bad, 1));
      }
      due("finds(0, 1)", four().finds(0, 1), 0);
      due("slot(0, 1)", four().slot(0, 1), 0);
    });
    edge("promise 12", "IndexOutOfBoundsException if name is not 1 to 5", () -> {
      for (int bad : new int[] {LOW, -1, 0, 6, 7, HIGH}) {
        refused("finds(0, " + bad + ")", INDEX, four, x -> x.finds(0, bad));
        refused("slot(0, " + bad + ")", INDEX, four, x -> x.slot(0, bad));
      }
      for (int name = 2; name <= 5; name++) {
        due("finds(0, " + name + ")", four().finds(0, name), -14);
        due("slot(0, " + name + ")", four().slot(0, name), NONE);
      }
    });
    edge("section 3", "the METHOD of the first one of its LINE that has one", () -> {
      VtableTown x = row(12);
      body(x, 0, 1);
      body(x, 0, 2);
      body(x, 10, 2);
      body(x, 11, 3);
      body(x, 0, 3);
      body(x, 10, 5);
      x.load(11);
      finds(x, 11, 0, 10, 11, -14, 10);
      finds(x, 10, 0, 10, 0, -14, 10);
      finds(x, 9, 0, 0, 0, -14, -14);
      finds(x, 0, 0, 0, 0, -14, -14);
    });
    edge("section 3", "if that is ABSTRACT, it is the FAULT 4, whatever stands behind it", () -> {
      VtableTown x = faces(1);
      body(x, 0, 1);
      body(x, 0, 2);
      x.plain(NONE, 1);
      body(x, 1, 1);
      x.open(1, 2);
      x.plain(1, 1);
      x.open(2, 1);
      x.plain(2, 1);
      x.plain(3, 0);
      body(x, 4, 1);
      body(x, 4, 2);
      x.load(4);
      finds(x, 1, 1, -14, -14, -14, -14);
      finds(x, 2, -14, -14, -14, -14, -14);
      finds(x, 3, -14, -14, -14, -14, -14);
      finds(x, 4, 4, 4, -14, -14, -14);
    });
    edge("section 3", "the LINE goes ahead of all INTERFACES, at its end, too", () -> {
      VtableTown x = plains(1);
      body(x, 0, 1);
      for (int cls = 1; cls <= 10; cls++) {
        x.plain(cls == 10 ? 0 : NONE, cls == 10 ? 2048 : 0);
      }
      x.face(0);
      body(x, 11, 1);
      body(x, 11, 2);
      x.load(10);
      finds(x, 10, 0, 11, -14, -14, -14);
    });
    edge("section 3", "a MAKER is found for no NAME", () -> {
      VtableTown x = plains(1);
      body(x, 0, 0, ADD, 1, 0);
      x.load(0);
      finds(x, 0, -14, -14, -14, -14, -14);
      due("TABLE", x.ofClass(0, 6), 0);
    });
  }

  private static void interfacesFound() {
    edge("section 3", "just one of those has a BODY: that; none: the FAULT 4; more: the FAULT 5", () -> {
      VtableTown x = faces(3);
      // NAME 1: none has one; 2: ABSTRACT ones; 3: one BODY beside those; 4: two beside one; 5: three
      x.open(0, 2);
      x.open(1, 2);
      x.open(0, 3);
      x.open(1, 3);
      body(x, 2, 3);
      body(x, 0, 4);
      x.open(1, 4);
      body(x, 2, 4);
      body(x, 0, 5);
      body(x, 1, 5);
      body(x, 2, 5);
      x.plain(NONE, 7);
      x.load(3);
      finds(x, 3, -14, -14, 2, -15, -15);
    });
    edge("section 3", "eleven INTERFACES with a BODY, and one", () -> {
      VtableTown x = faces(11);
      for (int cls = 0; cls < 11; cls++) {
        body(x, cls, 1);
        x.open(cls, 2);
      }
      body(x, 10, 2);
      body(x, 0, 3);
      x.plain(NONE, 2047);
      x.load(11);
      finds(x, 11, -15, 10, 0, -14, -14);
    });
    edge("section 3", "none of these others that have one is OF it", () -> {
      VtableTown x = faces(1);
      x.face(1);
      x.face(2);
      // 2 is OF 1, and that of 0
      body(x, 0, 1);
      body(x, 2, 1);
      body(x, 0, 2);
      body(x, 1, 2);
      body(x, 2, 2);
      body(x, 0, 3);
      x.open(2, 3);
      x.open(0, 4);
      body(x, 1, 4);
      body(x, 0, 5);
      x.open(1, 5);
      body(x, 2, 5);
      x.plain(NONE, 7);
      x.load(3);
      finds(x, 3, 2, 2, -14, 1, 2);
    });
    edge("section 3", "by what they are OF, not by numbers: the first one outdoes the last one", () -> {
      VtableTown x = empty();
      x.face(2048);
      x.plain(NONE, 1 + 2048);
      for (int cls = 2; cls <= 10; cls++) {
        x.face(0);
      }
      x.face(0);
      body(x, 0, 1);
      body(x, 11, 1);
      x.open(0, 2);
      body(x, 11, 2);
      x.load(1);
      finds(x, 1, 0, -14, -14, -14, -14);
    });
    edge("section 3", "each of several outdoes its own", () -> {
      VtableTown x = faces(3);
      x.face(1);
      x.face(2);
      x.face(4);
      for (int cls = 0; cls <= 2; cls++) {
        body(x, cls, 1);
        x.open(cls + 3, 1);
        body(x, cls, 2);
        body(x, cls, 3);
      }
      x.open(3, 2);
      x.open(4, 2);
      body(x, 5, 2);
      x.open(3, 3);
      x.open(5, 3);
      x.plain(NONE, 8 + 16 + 32);
      x.load(6);
      finds(x, 6, -14, 5, 1, -14, -14);
    });
    edge("section 3", "an INTERFACE without a METHOD for it outdoes none", () -> {
      VtableTown x = faces(1);
      x.face(1);
      body(x, 0, 1);
      x.plain(NONE, 2);
      x.load(2);
      finds(x, 2, 0, -14, -14, -14, -14);
    });
    edge("section 3", "two that are not OF each other do not outdo each other, though one above is outdone by one", () -> {
      VtableTown x = faces(1);
      x.face(1);
      x.face(1);
      body(x, 0, 1);
      body(x, 1, 1);
      body(x, 0, 2);
      x.open(1, 2);
      body(x, 2, 2);
      x.open(0, 3);
      body(x, 1, 3);
      body(x, 2, 3);
      body(x, 0, 4);
      x.open(1, 4);
      x.open(2, 4);
      x.plain(NONE, 2 + 4);
      x.load(3);
      finds(x, 3, 1, 2, -15, -14, -14);
    });
    edge("section 3", "all INTERFACES of which it is: those of its LINE, too, and those of them", () -> {
      VtableTown x = faces(1);
      x.face(1);
      x.face(0);
      body(x, 0, 1);
      body(x, 1, 2);
      body(x, 2, 2);
      body(x, 2, 3);
      x.plain(NONE, 2);
      x.plain(3, 4);
      x.plain(4, 0);
      x.load(5);
      finds(x, 3, 0, 1, -14, -14, -14);
      finds(x, 4, 0, -15, 2, -14, -14);
      finds(x, 5, 0, -15, 2, -14, -14);
    });
    edge("promise 12", "-10 - FAULT: what is found is told by CLASSES from 0 to 11", () -> {
      VtableTown x = plains(12);
      for (int cls = 0; cls < 12; cls++) {
        body(x, cls, 5);
      }
      for (int cls = 11; cls >= 0; cls--) {
        x.load(cls);
        due("finds", x.finds(cls, 5), cls);
        due("finds none", x.finds(cls, 4), -14);
      }
    });
  }

  private static void slots(VtableTown x, int cls, int length, int... want) {
    due("NAMES in the TABLE of " + cls, x.ofClass(cls, 6), length);
    for (int name = 1; name <= 5; name++) {
      due("slot(" + cls + ", " + name + ")", x.slot(cls, name), want[name - 1]);
    }
  }

  private static void tables() {
    edge("section 3", "a TABLE without NAMES, and one of all five, by numbers", () -> {
      VtableTown x = plains(2);
      for (int name = 5; name >= 1; name--) {
        x.method(1, name);
      }
      x.plain(1, 0);
      x.load(0);
      x.load(2);
      slots(x, 0, 0, -1, -1, -1, -1, -1);
      slots(x, 1, 5, 0, 1, 2, 3, 4);
      slots(x, 2, 5, 0, 1, 2, 3, 4);
    });
    edge("section 3", "that of its PARENT, and behind it, by numbers, those that are not in it", () -> {
      VtableTown x = plains(1);
      body(x, 0, 5);
      x.plain(0, 0);
      body(x, 1, 3);
      body(x, 1, 5);
      x.plain(1, 0);
      for (int name = 1; name <= 5; name++) {
        x.open(2, name);
      }
      x.plain(2, 0);
      body(x, 3, 1);
      x.load(3);
      slots(x, 0, 1, -1, -1, -1, -1, 0);
      slots(x, 1, 2, -1, -1, 1, -1, 0);
      slots(x, 2, 5, 2, 3, 1, 4, 0);
      slots(x, 3, 5, 2, 3, 1, 4, 0);
    });
    edge("section 3", "it, or an INTERFACE of which it is, has a METHOD (ABSTRACT or not)", () -> {
      VtableTown x = faces(1);
      x.face(1);
      x.open(0, 4);
      body(x, 1, 2);
      x.plain(NONE, 0);
      x.open(2, 5);
      x.plain(2, 2);
      body(x, 3, 3);
      x.load(3);
      slots(x, 2, 1, -1, -1, -1, -1, 0);
      slots(x, 3, 4, -1, 1, 2, 3, 0);
      due("an INTERFACE has none", x.ofClass(1, 6), 0);
    });
    edge("promise 11", "how many NAMES its TABLE has: 0, if it is not LOADED, or an INTERFACE", () -> {
      VtableTown x = plains(1);
      x.face(0);
      x.plain(11, 0);
      for (int cls = 0; cls <= 2; cls++) {
        body(x, cls, 1);
      }
      due("as it is FRESH", x.ofClass(0, 6), 0);
      x.load(0);
      x.load(1);
      x.load(2);
      due("as it is LOADED", x.ofClass(0, 6), 1);
      due("an INTERFACE", x.ofClass(1, 6), 0);
      due("as it is BROKEN", x.ofClass(2, 6), 0);
    });
  }

  // ---- promise 19

  private static void wouldLoads() {
    edge("promise 19", "how many would become LOADED: none, one, all, and those ahead of a FAULT", () -> {
      VtableTown x = row(11);
      x.plain(NONE, 1);
      due("all but one", x.wouldLoad(10), 11);
      due("one", x.wouldLoad(0), 1);
      due("what is of the wrong sort", x.wouldLoad(11), 1);
      due("nothing was LOADED", x.many(2), 0);
      x.load(4);
      due("those that are left", x.wouldLoad(10), 6);
      due("one that is LOADED", x.wouldLoad(4), 0);
      x.load(11);
      due("one that is BROKEN", x.wouldLoad(11), 0);
      due("one that is not told", empty().wouldLoad(11), 0);
    });
    edge("promise 19", "nothing is changed, for all that wouldLoad is the first call behind others", () -> {
      VtableTown x = row(3);
      due("load", x.load(0), 0);
      due("wouldLoad", x.wouldLoad(2), 2);
      due("0 is LOADED still", x.ofClass(0, 1), 1);
      due("load", x.load(2), 0);
      due("wouldLoad", x.wouldLoad(2), 0);
      orders(x, 0, 1, 2);
    });
    edge("promise 9", "the how manieth it was is counted without those that only would be", () -> {
      VtableTown x = plains(3);
      x.wouldLoad(2);
      x.wouldRun(1, 1);
      x.wouldTurn(2);
      x.wouldCost(2, 1);
      x.wouldWarm(2, 1);
      x.digest();
      x.load(1);
      x.load(0);
      orders(x, 1, 0);
    });
  }
}
