import java.util.function.DoubleSupplier;
import java.util.function.LongSupplier;

/**
 * Long runs of calls, made by a fixed row of numbers, on the machine and on the model side by side:
 * each answer, and each exception, must be the same.
 */
public final class ModelTest {
  private static final int RUNS = 480;
  private static final int CALLS = 500;

  private static long seed;
  private static int wrong;
  private static final int[] seen = new int[32];

  /** A fixed row of numbers (Knuth's MMIX constants), the high bits of it. */
  private static int below(int bound) {
    seed = seed * 6364136223846793005L + 1442695040888963407L;
    return (int) ((seed >>> 33) % bound);
  }

  private static int between(int low, int high) {
    return low + below(high - low + 1);
  }

  private static boolean chance(int percent) {
    return below(100) < percent;
  }

  private static String answer(LongSupplier call) {
    try {
      return Long.toString(call.getAsLong());
    } catch (RuntimeException e) {
      return e.getClass() == IllegalArgumentException.class
          || e.getClass() == IllegalStateException.class
          || e.getClass() == IndexOutOfBoundsException.class ? e.getClass().getName() : "the machine threw " + e;
    }
  }

  private static String answerD(DoubleSupplier call) {
    return Double.toString(call.getAsDouble());
  }

  private static void same(int run, int call, String what, String got, String due) {
    if (!got.equals(due)) {
      wrong++;
      if (wrong < 20) {
        System.out.println("run " + run + ", call " + call + ": " + what + " answered " + got + ", the model " + due);
      }
    }
  }

  public static void main(String[] args) {
    for (int run = 0; run < RUNS && wrong == 0; run++) {
      seed = run * 7919L + 17;
      int style = run % 8;
      VtableTown x = new VtableTown();
      TownModel m = new TownModel();
      if (style == 7 && chance(50)) {
        tellDrivers(run, x, m);
      } else if (style >= 6) {
        tellTree(run, x, m, style);
      } else {
        tellAll(run, x, m, style);
      }
      for (int call = 200; call < CALLS && wrong == 0; call++) {
        oneCall(run, call, x, m);
      }
      same(run, CALLS, "digest()", answer(x::digest), answer(m::digest));
    }
    checkSeen();
    System.out.println(wrong == 0 ? "the machine and the model answer alike" : wrong + " answers differ");
    if (wrong != 0) {
      System.exit(1);
    }
  }

  /** The runs are worth something only if each FAULT and each sort of PLACE came up in them. */
  private static void checkSeen() {
    for (int fault = 1; fault <= 9; fault++) {
      if (seen[fault] == 0) {
        wrong++;
        System.out.println("no run ended by the fault " + fault);
      }
    }
    String[] told = {"hits", "gave up", "turned back", "a second run that costs more"};
    for (int i = 0; i < told.length; i++) {
      if (seen[20 + i] == 0) {
        wrong++;
        System.out.println("never came up: " + told[i]);
      }
    }
  }

  /** A world of classes that mostly fit together; in some styles of it nothing is amiss at all. */
  private static void tellAll(int run, VtableTown x, TownModel m, int style) {
    int count = between(2, 12);
    int call = 0;
    same(run, call++, "plain(-1, 0)", answer(() -> x.plain(-1, 0)), answer(() -> m.plain(-1, 0)));
    for (int c = 1; c < count; c++) {
      int parent = chance(25) ? -1 : below(c);
      int set = 0;
      boolean face = chance(style == 0 ? 0 : style == 1 ? 60 : 35);
      for (int i = 0; i < c; i++) {
        if (isFace(m, i) && chance(30)) {
          set |= 1 << i;
        }
      }
      for (int tries = 0; tries < 8 && isFace(m, parent); tries++) {
        parent = below(c);
      }
      if (style == 5 && chance(25)) {
        parent = between(-1, 11);
        set ^= 1 << below(12);
      }
      int p = parent;
      int s = set;
      if (face) {
        same(run, call++, "face(" + s + ")", answer(() -> x.face(s)), answer(() -> m.face(s)));
      } else {
        same(run, call++, "plain(" + p + ", " + s + ")", answer(() -> x.plain(p, s)), answer(() -> m.plain(p, s)));
      }
    }
    tellParts(run, x, m, style, m.many(0));
  }

  /** Many children of one class, that share methods which branch: long runs, places with many classes. */
  private static void tellTree(int run, VtableTown x, TownModel m, int style) {
    int count = between(4, 10);
    for (int c = 0; c < count; c++) {
      int p = c == 0 ? -1 : style == 6 ? 0 : below(c);
      same(run, c, "plain", answer(() -> x.plain(p, 0)), answer(() -> m.plain(p, 0)));
      for (int n = c == 0 ? 1 : 2; n <= 5; n++) {
        int name = n;
        if (c == 0 || chance(n == 5 ? 60 : 25)) {
          int cls = c;
          same(run, c, "method", answer(() -> x.method(cls, name)), answer(() -> m.method(cls, name)));
          tellBranches(run, x, m, cls, name, count);
        }
      }
    }
  }

  /** A family that shares places, and classes that make some of it in a row. */
  private static void tellDrivers(int run, VtableTown x, TownModel m) {
    for (int c = 0; c < 11; c++) {
      int cls = c;
      int p = c == 0 || c > 6 ? -1 : 0;
      same(run, c, "plain", answer(() -> x.plain(p, 0)), answer(() -> m.plain(p, 0)));
      int name = c == 0 || c > 6 ? 1 : 2;
      same(run, c, "method", answer(() -> x.method(cls, name)), answer(() -> m.method(cls, name)));
      for (int i = c == 0 ? 4 : 0; i < 6; i++) {
        int kind = c == 0 ? 3 : c > 6 ? 5 : 0;
        int a = c == 0 ? 2 : c > 6 ? below(7) : c;
        int b = c > 6 ? 1 : 0;
        same(run, i, "step", answer(() -> x.step(cls, name, kind, a, b)), answer(() -> m.step(cls, name, kind, a, b)));
      }
      if (c == 0) {
        same(run, c, "method", answer(() -> x.method(0, 2)), answer(() -> m.method(0, 2)));
      }
      if (chance(50)) {
        same(run, c, "load", answer(() -> x.load(cls)), answer(() -> m.load(cls)));
      }
    }
  }

  private static void tellBranches(int run, VtableTown x, TownModel m, int cls, int name, int count) {
    int length = between(1, 6);
    for (int i = 0; i < length; i++) {
      int kind = name == 5 ? 0 : new int[] {0, 3, 3, 3, 3, 5}[below(6)];
      int a = kind == 0 ? between(-9, 9) : kind == 3 ? name + 1 : below(count);
      int b = kind == 5 ? between(name + 1, 5) : 0;
      same(run, i, "step", answer(() -> x.step(cls, name, kind, a, b)), answer(() -> m.step(cls, name, kind, a, b)));
    }
  }

  private static boolean isFace(TownModel m, int cls) {
    return cls >= 0 && cls < m.many(0) && m.ofClass(cls, 0) == 1;
  }

  private static void tellParts(int run, VtableTown x, TownModel m, int style, int count) {
    for (int i = 0; i < 40 + 12 * count; i++) {
      int c = below(count);
      int name = below(6);
      int sort = below(20);
      if (sort < 2) {
        same(run, i, "field", answer(() -> x.field(c, name % 4) ? 1 : 0), answer(() -> m.field(c, name % 4) ? 1 : 0));
      } else if (sort < 4) {
        int kind = new int[] {0, 5, 6, 7}[below(4)];
        int[] ab = right(kind, style, count);
        if (style > 1 || chance(30)) {
          same(run, i, "first", answer(() -> x.first(c, kind, ab[0], ab[1])), answer(() -> m.first(c, kind, ab[0], ab[1])));
        }
      } else if (sort == 4 && style != 0) {
        same(run, i, "open", answer(() -> x.open(c, name)), answer(() -> m.open(c, name)));
      } else if (sort < 10) {
        if (chance(20) || !m.hasBody(c, name)) {
          same(run, i, "method", answer(() -> x.method(c, name)), answer(() -> m.method(c, name)));
        }
      } else {
        int kind = chance(40) ? 3 : below(9);
        int[] ab = right(kind, style, count);
        // calls to higher names alone come to an end
        if (kind == 3 && style < 4) {
          ab[0] = Math.min(5, name + 1 + below(2));
        }
        if (kind == 3 && style < 3 && name == 5) {
          continue;
        }
        same(run, i, "step", answer(() -> x.step(c, name, kind, ab[0], ab[1])), answer(() -> m.step(c, name, kind, ab[0], ab[1])));
      }
    }
  }

  private static int[] right(int kind, int style, int count) {
    int cls = style == 5 && chance(10) ? below(12) : below(count);
    switch (kind) {
      case 0:
        return new int[] {between(-99, 99), 0};
      case 1:
      case 2:
        return new int[] {below(4), 0};
      case 3:
      case 4:
        return new int[] {between(1, 5), 0};
      case 5:
        return new int[] {cls, between(1, 5)};
      default:
        return new int[] {cls, 0};
    }
  }

  private static int any(int low, int high) {
    return chance(4) ? (chance(50) ? low - 1 - below(3) : high + 1 + below(3)) : between(low, high);
  }

  private static void oneCall(int run, int call, VtableTown x, TownModel m) {
    int c = any(0, 11);
    int told = Math.max(1, x.many(0));
    int t = chance(90) ? below(told) : c;
    int name = any(0, 5);
    int called = any(1, 5);
    String at = "(" + t + ", " + name + " or " + called + ")";
    switch (below(26)) {
      case 0: {
        int p = any(-1, 11);
        int s = any(0, 4095);
        if (chance(20)) {
          same(run, call, "plain", answer(() -> x.plain(p, s)), answer(() -> m.plain(p, s)));
        }
        break;
      }
      case 1: {
        int s = any(0, 4095);
        if (chance(20)) {
          same(run, call, "face", answer(() -> x.face(s)), answer(() -> m.face(s)));
        }
        break;
      }
      case 2:
        same(run, call, "method" + at, answer(() -> x.method(t, name)), answer(() -> m.method(t, name)));
        break;
      case 3:
        if (chance(30)) {
          same(run, call, "open" + at, answer(() -> x.open(t, name)), answer(() -> m.open(t, name)));
        }
        break;
      case 4:
      case 5: {
        int kind = any(0, 8);
        int a = chance(50) ? any(0, 5) : any(-99, 99);
        int b = kind == 5 ? any(1, 5) : chance(95) ? 0 : 1;
        same(run, call, "step" + at + kind + "," + a + "," + b, answer(() -> x.step(t, name, kind, a, b)), answer(() -> m.step(t, name, kind, a, b)));
        break;
      }
      case 6: {
        int kind = any(0, 8);
        int a = any(0, 11);
        int b = kind == 5 ? any(1, 5) : chance(95) ? 0 : 1;
        same(run, call, "first" + at + kind + "," + a + "," + b, answer(() -> x.first(t, kind, a, b)), answer(() -> m.first(t, kind, a, b)));
        break;
      }
      case 7: {
        int f = any(0, 3);
        same(run, call, "field" + at, answer(() -> x.field(t, f) ? 1 : 0), answer(() -> m.field(t, f) ? 1 : 0));
        break;
      }
      case 8:
        same(run, call, "load" + at, answer(() -> x.load(t)), answer(() -> m.load(t)));
        break;
      case 9:
      case 10:
      case 11:
      case 12:
        aRun(run, call, x, m, t, called);
        break;
      case 13: {
        int what = any(0, 8);
        same(run, call, "ofClass" + at + what, answer(() -> x.ofClass(t, what)), answer(() -> m.ofClass(t, what)));
        break;
      }
      case 14:
        same(run, call, "finds" + at, answer(() -> x.finds(t, called)), answer(() -> m.finds(t, called)));
        break;
      case 15:
        same(run, call, "slot" + at, answer(() -> x.slot(t, called)), answer(() -> m.slot(t, called)));
        break;
      case 16: {
        int i = any(0, 5);
        int what = any(0, 6);
        same(run, call, "ofPlace" + at + i + "," + what, answer(() -> x.ofPlace(t, name, i, what)), answer(() -> m.ofPlace(t, name, i, what)));
        break;
      }
      case 17: {
        int what = any(0, 13);
        same(run, call, "many " + what, answer(() -> x.many(what)), answer(() -> m.many(what)));
        break;
      }
      case 18:
        same(run, call, "meanCost", answerD(x::meanCost), answerD(m::meanCost));
        break;
      case 19:
        same(run, call, "wouldRun" + at, answer(() -> x.wouldRun(t, called)), answer(() -> m.wouldRun(t, called)));
        break;
      case 20:
        same(run, call, "wouldCost" + at, answer(() -> x.wouldCost(t, called)), answer(() -> m.wouldCost(t, called)));
        break;
      case 21:
        same(run, call, "wouldLoad" + at, answer(() -> x.wouldLoad(t)), answer(() -> m.wouldLoad(t)));
        break;
      case 22:
        same(run, call, "wouldTurn" + at, answer(() -> x.wouldTurn(t)), answer(() -> m.wouldTurn(t)));
        break;
      case 23:
        warm(run, call, x, m, t, called);
        break;
      default:
        if (chance(20)) {
          same(run, call, "digest", answer(x::digest), answer(m::digest));
        }
    }
  }

  private static void warm(int run, int call, VtableTown x, TownModel m, int t, int called) {
    String due = answer(() -> m.wouldWarm(t, called));
    seen[23] += due.startsWith("-") ? 1 : 0;
    same(run, call, "wouldWarm(" + t + ", " + called + ")", answer(() -> x.wouldWarm(t, called)), due);
  }

  private static void aRun(int run, int call, VtableTown x, TownModel m, int t, int called) {
    if (chance(50)) {
      warm(run, call, x, m, t, called);
    }
    String due = answer(() -> m.run(t, called));
    for (int fault = 1; fault <= 9; fault++) {
      seen[fault] += due.equals("-1000" + fault) ? 1 : 0;
    }
    same(run, call, "run(" + t + ", " + called + ")", answer(() -> x.run(t, called)), due);
    same(run, call, "its cost", answer(() -> x.many(12)), answer(() -> m.many(12)));
    same(run, call, "its steps", answer(() -> x.many(13)), answer(() -> m.many(13)));
    seen[20] += m.many(9);
    seen[21] += m.many(7);
    seen[22] += m.many(8);
  }
}
