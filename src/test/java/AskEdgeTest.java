import java.math.BigInteger;
import java.util.ArrayList;
import java.util.List;
import java.util.function.Supplier;

/** The edges of what one asks: promises 11, 14, 15, 16, 20 and 22, and the 512 calls. */
public final class AskEdgeTest extends Edges {
  public static void main(String[] args) {
    ofClassArguments();
    ofClassAnswers();
    ofPlaceArguments();
    noSuchPlace();
    manyArguments();
    manyAnswers();
    means();
    wouldTurns();
    digests();
    calls512();
    end("AskEdgeTest");
  }

  /** 0 PLAIN, LOADED, with PLACES at 0, 5 and in its MAKER; 1 an INTERFACE, LOADED, with one; 2 BROKEN; 3 FRESH. */
  private static VtableTown four() {
    VtableTown x = plains(1);
    x.face(0);
    x.plain(11, 0);
    x.plain(NONE, 2);
    body(x, 0, 0, ADD, 1, 0, CALL, 5, 0);
    body(x, 0, 1, CALL, 2, 0, GET, 0, 0, PUT, 0, 0, SUPER, 2, 0, MAKE, 2, 2, CALL, 5, 0);
    body(x, 0, 2, READ, 2, 0, KEEP, 2, 0, IS, 2, 0, CALL, 2, 0);
    body(x, 0, 5);
    x.open(0, 3);
    x.field(0, 0);
    initialiser(x, 0, ADD, 3, 0);
    for (int cls = 1; cls <= 3; cls++) {
      body(x, cls, 5, CALL, 1, 0);
    }
    x.load(0);
    x.load(1);
    x.load(2);
    return x;
  }

  // ---- promise 11

  private static void ofClassArguments() {
    Supplier<VtableTown> four = AskEdgeTest::four;
    edge("promise 11", "IndexOutOfBoundsException if there is no such CLASS, told", () -> {
      for (int bad : new int[] {LOW, -2, -1, 4, 5, 11, 12, HIGH}) {
        for (int what = 0; what <= 8; what++) {
          int w = what;
          throwsJust("ofClass(" + bad + ", " + w + ")", INDEX, () -> four().ofClass(bad, w));
        }
        refused("ofClass(" + bad + ", 0)", INDEX, four, x -> x.ofClass(bad, 0));
      }
      for (int bad : new int[] {-1, 12, HIGH}) {
        refused("ofClass(" + bad + ", 0) of twelve", INDEX, () -> plains(12), x -> x.ofClass(bad, 0));
      }
    });
    edge("promise 11", "IllegalArgumentException if what is not 0 to 8", () -> {
      for (int bad : new int[] {LOW, -2, -1, 9, 10, HIGH}) {
        for (int cls = 0; cls <= 3; cls++) {
          int c = cls;
          refused("ofClass(" + c + ", " + bad + ")", ARGUMENT, four, x -> x.ofClass(c, bad));
        }
      }
    });
    edge("promise 11", "no such CLASS goes ahead of no such what", () -> {
      for (int bad : new int[] {-1, 9, LOW, HIGH}) {
        refused("ofClass(4, " + bad + ")", INDEX, four, x -> x.ofClass(4, bad));
        refused("ofClass(-1, " + bad + ")", INDEX, four, x -> x.ofClass(-1, bad));
      }
    });
  }

  private static void answers(VtableTown x, int cls, int... want) {
    for (int what = 0; what <= 8; what++) {
      due("ofClass(" + cls + ", " + what + ")", x.ofClass(cls, what), want[what]);
    }
  }

  private static void ofClassAnswers() {
    edge("promise 11", "FRESH: 0 but its sort, and NONE for the how manieth", () -> {
      VtableTown x = plains(1);
      x.face(1);
      for (int name = 1; name <= 5; name++) {
        body(x, 0, name, ADD, 1, 0);
        body(x, 1, name, ADD, 1, 0);
      }
      initialiser(x, 0, ADD, 4, 0, KEEP, 0, 0);
      x.wouldRun(0, 1);
      answers(x, 0, 0, 0, 0, 0, 0, 0, 0, 0, -1);
      answers(x, 1, 1, 0, 0, 0, 0, 0, 0, 0, -1);
    });
    edge("promise 11", "LOADED, then READY with all", () -> {
      VtableTown x = faces(1);
      x.plain(NONE, 1);
      for (int name = 1; name <= 5; name++) {
        x.open(0, name);
      }
      body(x, 1, 5);
      initialiser(x, 1, ADD, -99, 0, KEEP, 1, 0, KEEP, 0, 0);
      initialiser(x, 0, ADD, 99, 0, KEEP, 0, 0);
      x.load(1);
      answers(x, 0, 1, 1, 0, 0, 0, 1, 0, 0, 0);
      answers(x, 1, 0, 1, 0, 0, 0, 3, 5, 0, 1);
      x.run(1, 5);
      answers(x, 0, 1, 1, 0, 2, -99, 1, 0, 0, 0);
      answers(x, 1, 0, 1, 0, 2, -99, 3, 5, 1, 1);
    });
    edge("promise 11", "BROKEN: its FAULT, and no set, no TABLE, no order, though what it names is LOADED", () -> {
      VtableTown x = faces(1);
      x.plain(NONE, 0);
      body(x, 1, 1);
      x.plain(1, 1 + 2048);
      body(x, 2, 1);
      x.face(1 + 8);
      x.run(2, 1);
      x.load(3);
      answers(x, 0, 1, 1, 0, 0, 0, 1, 0, 0, 1);
      answers(x, 1, 0, 1, 0, 0, 0, 2, 1, 0, 0);
      answers(x, 2, 0, 2, 1, 0, 0, 0, 0, 0, -1);
      answers(x, 3, 1, 2, 2, 0, 0, 0, 0, 0, -1);
    });
    edge("promise 11", "FAILED: LOADED all the same", () -> {
      VtableTown x = plains(1);
      initialiser(x, 0, ADD, 7, 0, KEEP, 0, 0, READ, 11, 0);
      x.run(0, 1);
      answers(x, 0, 0, 1, 0, 3, 7, 1, 0, 0, 0);
    });
    edge("promise 11", "the how manieth: from 0 to 11", () -> {
      VtableTown x = plains(12);
      for (int n = 0; n < 12; n++) {
        x.load(n * 5 % 12);
        due("the how manieth", x.ofClass(n * 5 % 12, 8), n);
        due("LOADED", x.many(2), n + 1);
      }
    });
  }

  // ---- promise 14

  private static void ofPlaceArguments() {
    Supplier<VtableTown> four = AskEdgeTest::four;
    edge("promise 14", "IllegalArgumentException if what is not 0 to 6", () -> {
      for (int bad : new int[] {LOW, -2, -1, 7, 8, HIGH}) {
        refused("ofPlace(0, 1, 0, " + bad + ")", ARGUMENT, four, x -> x.ofPlace(0, 1, 0, bad));
        refused("ofPlace(1, 5, 0, " + bad + ")", ARGUMENT, four, x -> x.ofPlace(1, 5, 0, bad));
      }
      for (int what = 0; what <= 6; what++) {
        int w = what;
        due("ofPlace(0, 1, 0, " + w + ")", four().ofPlace(0, 1, 0, w), w == 0 ? 1 : w == 6 ? NONE : 0);
        due("ofPlace(1, 5, 0, " + w + ")", four().ofPlace(1, 5, 0, w), w == 6 ? NONE : 0);
      }
    });
    edge("promise 14", "no such PLACE goes ahead of no such what", () -> {
      for (int bad : new int[] {-1, 7, LOW, HIGH}) {
        refused("no CALL", INDEX, four, x -> x.ofPlace(0, 1, 1, bad));
        refused("no CLASS", INDEX, four, x -> x.ofPlace(4, 1, 0, bad));
        refused("no NAME", INDEX, four, x -> x.ofPlace(0, 6, 0, bad));
        refused("no STEP", INDEX, four, x -> x.ofPlace(0, 1, 6, bad));
        refused("FRESH", INDEX, four, x -> x.ofPlace(3, 5, 0, bad));
      }
    });
    edge("promise 14", "the first STEP of a row and the last one of a full one, NAMES 0 to 5", () -> {
      VtableTown x = plains(1);
      x.face(0);
      for (int name = 0; name <= 5; name++) {
        body(x, 0, name, times(6, CALL, 5, 0));
        if (name > 0) {
          body(x, 1, name, times(6, CALL, 5, 0));
        }
      }
      x.load(0);
      x.load(1);
      due("PLACES", x.many(5), 36 + 30);
      due("DIRECT", x.many(6), 36);
      for (int name = 0; name <= 5; name++) {
        for (int i = 0; i < 6; i++) {
          due("DIRECT", x.ofPlace(0, name, i, 0), 1);
          if (name > 0) {
            due("of an INTERFACE", x.ofPlace(1, name, i, 0), 0);
          }
        }
      }
      throwsJust("the MAKER of an INTERFACE", INDEX, () -> x.ofPlace(1, 0, 0, 0));
    });
    edge("promise 14", "a STEP ahead of a row and one behind it are none, though CALLS stand in the rows beside it", () -> {
      VtableTown x = plains(12);
      for (int cls = 0; cls < 12; cls++) {
        for (int name = 0; name <= 5; name++) {
          body(x, cls, name, times(6, CALL, 5, 0));
        }
        x.load(cls);
      }
      for (int at = 0; at < 72; at++) {
        int cls = at / 6;
        int name = at % 6;
        for (int bad : new int[] {-1, -2, -6, 6, 7, 12}) {
          throwsJust("ofPlace(" + cls + ", " + name + ", " + bad + ", 0)", INDEX, () -> x.ofPlace(cls, name, bad, 0));
        }
        throwsJust("the NAME -1", INDEX, () -> x.ofPlace(cls, -1, name, 0));
        throwsJust("the NAME 6", INDEX, () -> x.ofPlace(cls, 6, name, 0));
      }
    });
  }

  private static void noSuchPlace() {
    Supplier<VtableTown> four = AskEdgeTest::four;
    edge("promise 14", "no such PLACE: no such CLASS, NAME or STEP", () -> {
      for (int bad : new int[] {LOW, -2, -1, 4, 11, 12, HIGH}) {
        refused("ofPlace(" + bad + ", 1, 0, 0)", INDEX, four, x -> x.ofPlace(bad, 1, 0, 0));
      }
      for (int bad : new int[] {LOW, -2, -1, 6, 7, 12, HIGH}) {
        refused("ofPlace(0, " + bad + ", 0, 0)", INDEX, four, x -> x.ofPlace(0, bad, 0, 0));
        refused("ofPlace(0, 1, " + bad + ", 0)", INDEX, four, x -> x.ofPlace(0, 1, bad, 0));
      }
      refused("behind the end of a row", INDEX, four, x -> x.ofPlace(0, 0, 2, 0));
      refused("behind the end of a row", INDEX, four, x -> x.ofPlace(0, 2, 4, 0));
      refused("the MAKER of a CLASS that is the next one in number", INDEX, four, x -> x.ofPlace(0, 7, 0, 0));
    });
    edge("promise 14", "no such PLACE: it is not LOADED", () -> {
      refused("BROKEN", INDEX, four, x -> x.ofPlace(2, 5, 0, 0));
      refused("FRESH", INDEX, four, x -> x.ofPlace(3, 5, 0, 0));
      VtableTown x = four();
      x.load(3);
      due("as soon as it is LOADED", x.ofPlace(3, 5, 0, 6), NONE);
    });
    edge("promise 14", "no such PLACE: a STEP of each other KIND, an empty BODY, an ABSTRACT METHOD, none", () -> {
      for (int i = 1; i <= 4; i++) {
        int step = i;
        refused("of the KIND of the STEP " + i, INDEX, four, x -> x.ofPlace(0, 1, step, 0));
      }
      for (int i = 0; i <= 2; i++) {
        int step = i;
        refused("of the KIND of the STEP " + i, INDEX, four, x -> x.ofPlace(0, 2, step, 0));
      }
      refused("ADD", INDEX, four, x -> x.ofPlace(0, 0, 0, 0));
      refused("an empty BODY", INDEX, four, x -> x.ofPlace(0, 5, 0, 0));
      refused("ABSTRACT", INDEX, four, x -> x.ofPlace(0, 3, 0, 0));
      refused("none", INDEX, four, x -> x.ofPlace(0, 4, 0, 0));
      due("a CALL beside them", four().ofPlace(0, 2, 3, 0), 1);
      due("PLACES", four().many(5), 5);
    });
  }

  // ---- promises 15 and 16

  private static void manyArguments() {
    edge("promise 15", "IllegalArgumentException if what is not 0 to 13", () -> {
      for (int bad : new int[] {LOW, -2, -1, 14, 15, HIGH}) {
        refused("many(" + bad + ")", ARGUMENT, Edges::empty, x -> x.many(bad));
        refused("many(" + bad + ")", ARGUMENT, AskEdgeTest::four, x -> x.many(bad));
      }
      int[] want = {4, 1, 2, 1, 0, 5, 4, 0, 0, 0, 0, 0, 0, 0};
      for (int what = 0; what <= 13; what++) {
        due("many(" + what + ")", four().many(what), want[what]);
      }
    });
  }

  private static void manyAnswers() {
    edge("promise 15", "CLASSES: those that are FRESH, LOADED, BROKEN, READY, from none to all twelve", () -> {
      VtableTown x = plains(12);
      due("FRESH", x.many(1), 12);
      for (int cls = 0; cls < 12; cls++) {
        x.run(cls, 1);
        due("FRESH, LOADED, BROKEN", x.many(1) * 10000 + x.many(2) * 100 + x.many(3), (11 - cls) * 10000 + (cls + 1) * 100);
        due("READY", x.many(4), cls + 1);
      }
      VtableTown y = empty();
      for (int cls = 0; cls < 12; cls++) {
        y.face(1 << cls);
      }
      for (int cls = 0; cls < 12; cls++) {
        y.load(cls);
        due("FRESH, LOADED, BROKEN", y.many(1) * 10000 + y.many(2) * 100 + y.many(3), (11 - cls) * 10000 + cls + 1);
      }
    });
    edge("promise 15", "READY: neither ASLEEP nor FAILED", () -> {
      VtableTown x = plains(3);
      initialiser(x, 1, READ, 11, 0);
      x.load(0);
      x.run(1, 1);
      due("ASLEEP, FAILED, FRESH", x.many(4), 0);
      x.run(2, 1);
      due("READY", x.many(4), 1);
    });
    edge("promise 15", "PLACES of all twelve CLASSES, all full", () -> {
      VtableTown x = empty();
      for (int cls = 0; cls < 12; cls++) {
        x.plain(cls - 1, 0);
        for (int name = 0; name <= 5; name++) {
          body(x, cls, name, times(6, CALL, 1, 0));
        }
      }
      x.load(11);
      due("PLACES", x.many(5), 12 * 36);
      due("DIRECT", x.many(6), 36);
      due("TURNED BACK", x.many(8), 11 * 36);
    });
    edge("promise 15", "runs, the COST and the STEPS of the last run (0 without one)", () -> {
      VtableTown x = plains(1);
      body(x, 0, 1, ADD, 1, 0);
      due("without one", x.many(11) + x.many(12) + x.many(13), 0);
      x.run(0, 1);
      due("runs", x.many(11), 1);
      due("COST", x.many(12), 57);
      due("STEPS", x.many(13), 1);
      x.run(11, 1);
      due("runs", x.many(11), 2);
      due("COST of one that does nothing", x.many(12), 0);
      due("STEPS of one that does nothing", x.many(13), 0);
      throwsJust("no run", INDEX, () -> x.run(12, 1));
      due("runs", x.many(11), 2);
    });
  }

  private static void means() {
    edge("promise 16", "0 without any, though there were loads and what only would be", () -> {
      VtableTown x = plains(2);
      dueD("none", x.meanCost(), 0.0);
      x.load(0);
      x.wouldRun(1, 1);
      x.wouldCost(1, 1);
      x.digest();
      dueD("none", x.meanCost(), 0.0);
    });
    edge("promise 16", "the mean COST of a run, not cut", () -> {
      VtableTown x = plains(1);
      body(x, 0, 1, ADD, 1, 0);
      body(x, 0, 2);
      x.load(0);
      x.run(0, 1);
      dueD("7", x.meanCost(), 7.0);
      x.run(0, 2);
      dueD("13 by 2", x.meanCost(), 6.5);
      x.run(0, 2);
      dueD("19 by 3", x.meanCost(), 19.0 / 3.0);
      x.run(11, 1);
      dueD("runs that cost nothing are runs", x.meanCost(), 4.75);
      for (int n = 5; n <= 7; n++) {
        x.run(0, 3);
      }
      dueD("19 by 7", x.meanCost(), 19.0 / 7.0);
    });
    edge("promise 16", "the mean of 500 runs", () -> {
      VtableTown x = plains(1);
      body(x, 0, 1, times(6, ADD, 1, 0));
      for (int n = 1; n <= 500; n++) {
        x.run(0, 1);
      }
      dueD("50 once, 12 each", x.meanCost(), (50.0 + 12 * 500) / 500);
    });
  }

  // ---- promise 20

  private static void wouldTurns() {
    edge("promise 20", "IndexOutOfBoundsException if cls is not 0 to 11", () -> {
      for (int bad : new int[] {LOW, -2, -1, 12, 13, HIGH}) {
        refused("wouldTurn(" + bad + ")", INDEX, Edges::empty, x -> x.wouldTurn(bad));
        refused("wouldTurn(" + bad + ") of twelve", INDEX, () -> plains(12), x -> x.wouldTurn(bad));
      }
      due("the last one, not told", empty().wouldTurn(11), 0);
      due("the last one, told", plains(12).wouldTurn(11), 0);
    });
    edge("promise 20", "none, one, and all six of a row; none of what is LOADED, BROKEN or not told", () -> {
      for (int places = 0; places <= 6; places++) {
        VtableTown x = plains(1);
        body(x, 0, 1, times(places, CALL, 2, 0));
        body(x, 0, 2);
        x.plain(0, 0);
        body(x, 1, 2);
        x.plain(0, 1);
        body(x, 2, 2);
        due("loaded on the way", x.wouldTurn(1), places);
        x.load(0);
        due("wouldTurn", x.wouldTurn(1), places);
        due("BROKEN, then", x.wouldTurn(2), 0);
        due("not told", x.wouldTurn(11), 0);
        due("itself", x.wouldTurn(0), 0);
        due("those that are DIRECT still", x.many(6), places);
        x.load(1);
        due("LOADED", x.wouldTurn(1), 0);
        due("TURNED BACK", x.many(8), places);
      }
    });
    edge("promise 20", "what is TURNED BACK on the way to a FAULT counts, too", () -> {
      VtableTown x = plains(1);
      body(x, 0, 1, CALL, 2, 0);
      body(x, 0, 2);
      x.plain(0, 0);
      body(x, 1, 2);
      x.plain(1, 2048);
      x.load(0);
      due("wouldTurn", x.wouldTurn(2), 1);
      due("load", x.load(2), 1);
      due("TURNED BACK", x.many(8), 1);
    });
  }

  // ---- promise 22

  private static final BigInteger WHOLE = BigInteger.ONE.shiftLeft(64);

  /** The checksum by the document's words, in numbers without an end, cut at the very last. */
  private static long checksum(VtableTown x) {
    BigInteger d = BigInteger.valueOf(7601);
    for (int v : row(x)) {
      d = d.multiply(BigInteger.valueOf(31)).add(BigInteger.valueOf(v));
    }
    BigInteger cut = d.mod(WHOLE);
    return cut.testBit(63) ? cut.subtract(WHOLE).longValueExact() : cut.longValueExact();
  }

  private static List<Integer> row(VtableTown x) {
    List<Integer> row = new ArrayList<>();
    for (int what = 0; what <= 13; what++) {
      row.add(x.many(what));
    }
    int told = x.many(0);
    for (int cls = 0; cls < told; cls++) {
      for (int what = 0; what <= 8; what++) {
        row.add(x.ofClass(cls, what));
      }
      boolean finds = x.ofClass(cls, 0) == 0 && x.ofClass(cls, 1) == 1;
      for (int name = 1; name <= 5 && finds; name++) {
        row.add(x.finds(cls, name));
        row.add(x.slot(cls, name));
      }
    }
    int places = row.size();
    for (int at = 0; at < told * 36; at++) {
      for (int what = 0; what <= 6; what++) {
        try {
          row.add(x.ofPlace(at / 36, at / 6 % 6, at % 6, what));
        } catch (IndexOutOfBoundsException e) {
          break;
        }
      }
    }
    due("PLACES seven times", row.size() - places, 7 * x.many(5));
    for (int cls = 0; cls < told; cls++) {
      row.add(x.wouldRun(cls, 1));
      row.add(x.wouldCost(cls, 1));
    }
    return row;
  }

  private static void digests() {
    edge("promise 22", "the empty machine: 7601 and 14 times 0, wrapped around", () -> {
      VtableTown x = empty();
      BigInteger whole = BigInteger.valueOf(7601).multiply(BigInteger.valueOf(31).pow(14));
      due("it does not fit", whole.bitLength() > 64 ? 1 : 0, 1);
      due("digest", x.digest(), whole.longValue());
      due("by the words", x.digest(), checksum(x));
    });
    edge("promise 22", "one CLASS that is FRESH, told number by number", () -> {
      VtableTown x = plains(1);
      int[] row = {1, 1, 0, 0, 0, 0, 0, 0, 0, 0, 0, 0, 0, 0, 0, 0, 0, 0, 0, 0, 0, 0, -1, -10004, 50};
      long d = 7601;
      for (int v : row) {
        d = d * 31 + v;
      }
      due("digest", x.digest(), d);
    });
    edge("promise 22", "one CLASS with two PLACES, told number by number", () -> {
      VtableTown x = plains(1);
      body(x, 0, 0, CALL, 1, 0);
      body(x, 0, 1, ADD, 9, 0, CALL, 3, 0);
      x.run(0, 1);
      int[] row = {1, 0, 1, 0, 1, 2, 1, 0, 0, 0, 0, 1, 50 + 1 + 1 + 2, 3, 0, 1, 0, 2, 0, 1, 1, 1, 0,
        0, 0, -14, -1, -14, -1, -14, -1, -14, -1, 1, 0, 0, 0, 0, 0, -1, 0, 0, 0, 0, 0, 0, -1, -10004, 4};
      long d = 7601;
      for (int v : row) {
        d = d * 31 + v;
      }
      due("digest", x.digest(), d);
    });
    edge("promise 22", "wraps around as a 64-bit integer, below 0 and above, for each state of a machine", () -> {
      int below = 0;
      int above = 0;
      VtableTown x = empty();
      for (int n = 0; n < 12; n++) {
        if (n == 4) {
          x.face(0);
          body(x, 4, 5, CALL, 1, 0);
        } else {
          x.plain(n == 7 ? 11 : n % 5 - 1, n > 5 ? 16 : 0);
          body(x, n, 1, ADD, n, 0, CALL, 2, 0, CALL, 5, 0);
          body(x, n, 2, times(n % 7, ADD, n, 0));
          body(x, n, 0, times(6, CALL, 2, 0));
        }
        for (int m = 0; m <= n; m += 3) {
          x.run(m, 1);
          long d = x.digest();
          due("digest", d, checksum(x));
          below += d < 0 ? 1 : 0;
          above += d > 0 ? 1 : 0;
        }
      }
      due("both sides came up", below > 0 && above > 0 ? 1 : 0, 1);
    });
    edge("promise 22", "asking for it changes nothing, and the same calls give the same", () -> {
      VtableTown x = four();
      x.digest();
      x.digest();
      same("behind digest()", x, four());
      due("twice", four().digest(), four().digest());
    });
  }

  private static void calls512() {
    edge("the public face", "an object is used for at most 512 calls: the last of them answers as the first", () -> {
      VtableTown x = plains(1);
      body(x, 0, 1, READ, 0, 0, ADD, 99, 0, KEEP, 0, 0);
      // 5 calls so far; then 506 runs, and many()
      for (int n = 1; n <= 506; n++) {
        due("run", x.run(0, 1), Math.min(9999, 99 * n));
      }
      due("the 512th call", x.many(11), 506);
    });
    edge("the public face", "512 calls of the dearest sort", () -> {
      VtableTown x = plains(12);
      for (int cls = 0; cls < 12; cls++) {
        for (int name = 1; name <= 5; name++) {
          x.method(cls, name);
          x.step(cls, name, CALL, name % 5 + 1, 0);
          x.step(cls, name, MAKE, (cls + 1) % 12, 1);
        }
      }
      long d = x.digest();
      for (int n = 194; n < 512; n++) {
        due("digest", x.digest(), d);
      }
    });
  }
}
