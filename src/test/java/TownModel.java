import java.util.ArrayDeque;
import java.util.ArrayList;
import java.util.Deque;
import java.util.HashMap;
import java.util.HashSet;
import java.util.List;
import java.util.Map;
import java.util.Set;
import java.util.TreeSet;

/**
 * A second machine, written from the document without a look at the first: nothing is settled
 * ahead, each thing is worked out anew from its definition as it is asked for. What only would be
 * is tried on a deep copy. It answers right arguments and wrong ones alike.
 */
final class TownModel {
  static final class Fault extends Exception {
    private static final long serialVersionUID = 1L;
    final int number;

    Fault(int number) {
      super(null, null, false, false);
      this.number = number;
    }
  }

  static final class Code {
    final int kind;
    final int a;
    final int b;
    // what a PLACE knows
    List<Integer> cache = new ArrayList<>();
    int hits;
    int misses;
    int turned;
    boolean gaveUp;

    Code(int kind, int a, int b) {
      this.kind = kind;
      this.a = a;
      this.b = b;
    }

    Code copy() {
      Code c = new Code(kind, a, b);
      c.cache = new ArrayList<>(cache);
      c.hits = hits;
      c.misses = misses;
      c.turned = turned;
      c.gaveUp = gaveUp;
      return c;
    }
  }

  /** A METHOD: without a body it is ABSTRACT. */
  static final class Meth {
    List<Code> body;

    Meth copy() {
      Meth m = new Meth();
      m.body = copyAll(body);
      return m;
    }
  }

  static List<Code> copyAll(List<Code> from) {
    if (from == null) {
      return null;
    }
    List<Code> to = new ArrayList<>();
    for (Code c : from) {
      to.add(c.copy());
    }
    return to;
  }

  static final class Kind {
    int number;
    boolean isInterface;
    int parent;
    Set<Integer> names = new TreeSet<>();
    Set<Integer> fields = new HashSet<>();
    Map<Integer, Meth> methods = new HashMap<>();
    List<Code> init = new ArrayList<>();
    int status;
    int fault;
    int wake;
    int stat;
    int made;
    int order = -1;
    boolean loading;

    Kind copy() {
      Kind k = new Kind();
      k.number = number;
      k.isInterface = isInterface;
      k.parent = parent;
      k.names = new TreeSet<>(names);
      k.fields = new HashSet<>(fields);
      for (Map.Entry<Integer, Meth> e : methods.entrySet()) {
        k.methods.put(e.getKey(), e.getValue().copy());
      }
      k.init = copyAll(init);
      k.status = status;
      k.fault = fault;
      k.wake = wake;
      k.stat = stat;
      k.made = made;
      k.order = order;
      return k;
    }
  }

  static final class Thing {
    final int kind;
    final Map<String, Integer> values = new HashMap<>();

    Thing(int kind) {
      this.kind = kind;
    }
  }

  private final List<Kind> kinds = new ArrayList<>();
  private final Deque<Code[]> frames = new ArrayDeque<>();
  private int loadedCount;
  private int runs;
  private long costs;
  private int lastCost;
  private int lastSteps;
  private int cost;
  private int steps;

  TownModel copy() {
    TownModel m = new TownModel();
    for (Kind k : kinds) {
      m.kinds.add(k.copy());
    }
    m.loadedCount = loadedCount;
    m.runs = runs;
    m.costs = costs;
    m.lastCost = lastCost;
    m.lastSteps = lastSteps;
    return m;
  }

  // ---- telling

  private static Set<Integer> members(int set) {
    Set<Integer> s = new TreeSet<>();
    for (int i = 0; i < 12; i++) {
      if ((set & (1 << i)) != 0) {
        s.add(i);
      }
    }
    return s;
  }

  private int tell(boolean isInterface, int parent, int set) {
    if (kinds.size() == 12) {
      throw new IllegalStateException();
    }
    Kind k = new Kind();
    k.number = kinds.size();
    k.isInterface = isInterface;
    k.parent = parent;
    k.names = members(set);
    kinds.add(k);
    return k.number;
  }

  int plain(int parent, int set) {
    if (parent < -1 || parent > 11 || parent == kinds.size() || set < 0 || set > 4095) {
      throw new IllegalArgumentException();
    }
    return tell(false, parent, set);
  }

  int face(int set) {
    if (set < 0 || set > 4095) {
      throw new IllegalArgumentException();
    }
    return tell(true, -1, set);
  }

  private Kind toldOne(int cls) {
    if (cls < 0 || cls >= kinds.size()) {
      throw new IndexOutOfBoundsException();
    }
    return kinds.get(cls);
  }

  private static void name05(int name) {
    if (name < 0 || name > 5) {
      throw new IndexOutOfBoundsException();
    }
  }

  private static void fresh(Kind k) {
    if (k.status != 0) {
      throw new IllegalStateException();
    }
  }

  private static int was(Kind k, int name) {
    Meth m = k.methods.get(name);
    return m == null ? 0 : m.body == null ? 1 : 2;
  }

  boolean hasBody(int cls, int name) {
    return was(kinds.get(cls), name) == 2;
  }

  int method(int cls, int name) {
    Kind k = toldOne(cls);
    name05(name);
    if (name == 0 && k.isInterface) {
      throw new IllegalArgumentException();
    }
    fresh(k);
    int was = was(k, name);
    Meth m = new Meth();
    m.body = new ArrayList<>();
    k.methods.put(name, m);
    return was;
  }

  int open(int cls, int name) {
    Kind k = toldOne(cls);
    name05(name);
    if (name == 0) {
      throw new IllegalArgumentException();
    }
    fresh(k);
    int was = was(k, name);
    k.methods.put(name, new Meth());
    return was;
  }

  private static void stepRight(int kind, int a, int b) {
    boolean right;
    if (kind == 0) {
      right = Math.abs((long) a) <= 99;
    } else if (kind == 1 || kind == 2) {
      right = 0 <= a && a <= 3;
    } else if (kind == 3 || kind == 4) {
      right = 1 <= a && a <= 5;
    } else if (kind >= 5 && kind <= 8) {
      right = 0 <= a && a <= 11;
    } else {
      right = false;
    }
    right = right && (kind == 5 ? 1 <= b && b <= 5 : b == 0);
    if (!right) {
      throw new IllegalArgumentException();
    }
  }

  int step(int cls, int name, int kind, int a, int b) {
    Kind k = toldOne(cls);
    name05(name);
    stepRight(kind, a, b);
    fresh(k);
    Meth m = k.methods.get(name);
    if (m == null || m.body == null || m.body.size() == 6) {
      throw new IllegalStateException();
    }
    m.body.add(new Code(kind, a, b));
    return m.body.size();
  }

  int first(int cls, int kind, int a, int b) {
    Kind k = toldOne(cls);
    if (!Set.of(0, 5, 6, 7).contains(kind)) {
      throw new IllegalArgumentException();
    }
    stepRight(kind, a, b);
    fresh(k);
    if (k.init.size() == 6) {
      throw new IllegalStateException();
    }
    k.init.add(new Code(kind, a, b));
    return k.init.size();
  }

  boolean field(int cls, int field) {
    Kind k = toldOne(cls);
    if (field < 0 || field > 3) {
      throw new IndexOutOfBoundsException();
    }
    if (k.isInterface) {
      throw new IllegalArgumentException();
    }
    fresh(k);
    return k.fields.add(field);
  }

  // ---- section 2

  private void loading(int cls) throws Fault {
    if (cls >= kinds.size()) {
      throw new Fault(1);
    }
    Kind k = kinds.get(cls);
    if (k.status == 2) {
      throw new Fault(k.fault);
    }
    if (k.status == 1) {
      return;
    }
    if (k.loading) {
      throw new Fault(2);
    }
    k.loading = true;
    try {
      if (k.parent >= 0) {
        loading(k.parent);
        if (kinds.get(k.parent).isInterface) {
          throw new Fault(3);
        }
      }
      for (int i : k.names) {
        loading(i);
        if (!kinds.get(i).isInterface) {
          throw new Fault(3);
        }
      }
    } catch (Fault f) {
      k.status = 2;
      k.fault = f.number;
      throw f;
    } finally {
      k.loading = false;
    }
    List<Code> ahead = directPlaces();
    k.status = 1;
    k.order = loadedCount++;
    cost += 50;
    List<Code> behind = directPlaces();
    for (Code place : ahead) {
      if (!holds(behind, place)) {
        place.turned++;
        for (Code[] frame : frames) {
          if (frame[0] == place) {
            cost += 5;
          }
        }
      }
    }
  }

  private static boolean holds(List<Code> row, Code wanted) {
    for (Code c : row) {
      if (c == wanted) {
        return true;
      }
    }
    return false;
  }

  private List<Code> directPlaces() {
    List<Code> row = new ArrayList<>();
    for (Kind k : kinds) {
      for (Meth m : k.methods.values()) {
        if (k.status == 1 && m.body != null) {
          for (Code c : m.body) {
            if (c.kind == 3 && isDirect(k, c)) {
              row.add(c);
            }
          }
        }
      }
    }
    return row;
  }

  private boolean isDirect(Kind owner, Code place) {
    if (owner.isInterface) {
      return false;
    }
    Set<Integer> all = new HashSet<>();
    for (Kind k : kinds) {
      if (!k.isInterface && k.status == 1 && allOf(k.number).contains(owner.number)) {
        all.add(findsOrFault(k.number, place.a));
      }
    }
    return all.size() == 1 && all.iterator().next() >= 0;
  }

  private List<Kind> line(int cls) {
    List<Kind> row = new ArrayList<>();
    for (int c = cls; c >= 0; c = kinds.get(c).parent) {
      row.add(kinds.get(c));
    }
    return row;
  }

  private Set<Integer> allOf(int cls) {
    Set<Integer> all = new TreeSet<>();
    for (Kind k : line(cls)) {
      all.add(k.number);
      for (int i : k.names) {
        all.addAll(allOf(i));
      }
    }
    return all;
  }

  // ---- section 3

  private int findsOrFault(int cls, int name) {
    try {
      return finding(cls, name);
    } catch (Fault f) {
      return -10 - f.number;
    }
  }

  private int finding(int cls, int name) throws Fault {
    for (Kind k : line(cls)) {
      if (k.methods.containsKey(name)) {
        if (k.methods.get(name).body == null) {
          throw new Fault(4);
        }
        return k.number;
      }
    }
    List<Integer> having = new ArrayList<>();
    for (int i : allOf(cls)) {
      if (kinds.get(i).isInterface && kinds.get(i).methods.containsKey(name)) {
        having.add(i);
      }
    }
    List<Integer> bodies = new ArrayList<>();
    for (int i : having) {
      boolean nearest = true;
      for (int j : having) {
        if (j != i && allOf(j).contains(i)) {
          nearest = false;
        }
      }
      if (nearest && kinds.get(i).methods.get(name).body != null) {
        bodies.add(i);
      }
    }
    if (bodies.isEmpty()) {
      throw new Fault(4);
    }
    if (bodies.size() > 1) {
      throw new Fault(5);
    }
    return bodies.get(0);
  }

  private List<Integer> table(int cls) {
    Kind k = kinds.get(cls);
    List<Integer> row = k.parent < 0 ? new ArrayList<>() : table(k.parent);
    for (int name = 1; name <= 5; name++) {
      boolean has = k.methods.containsKey(name);
      for (int i : allOf(cls)) {
        has |= kinds.get(i).isInterface && kinds.get(i).methods.containsKey(name);
      }
      if (has && !row.contains(name)) {
        row.add(name);
      }
    }
    return row;
  }

  // ---- section 4

  private void initialising(int cls) throws Fault {
    Kind k = kinds.get(cls);
    if (k.wake == 3) {
      throw new Fault(6);
    }
    if (k.wake != 0) {
      return;
    }
    k.wake = 1;
    try {
      if (k.parent >= 0) {
        initialising(k.parent);
      }
      frame(k, k.init, null, null);
      k.wake = 2;
    } catch (Fault f) {
      k.wake = 3;
      throw f;
    }
  }

  private int making(int cls, int name) throws Fault {
    loading(cls);
    Kind k = kinds.get(cls);
    if (k.isInterface) {
      throw new Fault(3);
    }
    initialising(cls);
    Thing thing = new Thing(cls);
    k.made++;
    List<Kind> line = line(cls);
    for (Kind l : line) {
      for (int f : l.fields) {
        thing.values.put(l.number + "." + f, 0);
      }
    }
    for (int i = line.size() - 1; i >= 0; i--) {
      if (line.get(i).methods.containsKey(0)) {
        frame(line.get(i), line.get(i).methods.get(0).body, thing, null);
      }
    }
    Kind owner = kinds.get(finding(cls, name));
    cost += 6;
    return frame(owner, owner.methods.get(name).body, thing, null);
  }

  private String where(Kind owner, int field) throws Fault {
    if (!owner.isInterface) {
      for (Kind l : line(owner.number)) {
        if (l.fields.contains(field)) {
          return l.number + "." + field;
        }
      }
    }
    throw new Fault(7);
  }

  // ---- section 5

  private int frame(Kind owner, List<Code> row, Thing own, Code from) throws Fault {
    if (frames.size() == 20) {
      throw new Fault(9);
    }
    frames.push(new Code[] {from});
    try {
      int there = 0;
      for (Code c : row) {
        if (steps == 400) {
          throw new Fault(8);
        }
        steps++;
        cost++;
        there = Math.min(9999, Math.max(-9999, behind(owner, c, own, there)));
      }
      return there;
    } finally {
      frames.pop();
    }
  }

  private int behind(Kind owner, Code c, Thing own, int there) throws Fault {
    switch (c.kind) {
      case 0:
        return there + c.a;
      case 1:
        return there + own.values.get(where(owner, c.a));
      case 2:
        own.values.put(where(owner, c.a), there);
        return there;
      case 3:
        return there + calling(owner, c, own);
      case 4: {
        if (owner.parent < 0) {
          throw new Fault(4);
        }
        Kind k = kinds.get(finding(owner.parent, c.a));
        cost += 1;
        return there + frame(k, k.methods.get(c.a).body, own, null);
      }
      case 5:
        return there + making(c.a, c.b);
      case 6:
        loading(c.a);
        initialising(c.a);
        return there + kinds.get(c.a).stat;
      case 7:
        loading(c.a);
        initialising(c.a);
        kinds.get(c.a).stat = there;
        return there;
      default:
        loading(c.a);
        return there + (allOf(own.kind).contains(c.a) ? 1 : 0);
    }
  }

  private int calling(Kind owner, Code c, Thing own) throws Fault {
    Kind k = kinds.get(finding(own.kind, c.a));
    boolean direct = isDirect(owner, c);
    if (direct) {
      cost += 1;
    } else if (c.gaveUp) {
      cost += 6;
    } else if (c.cache.contains(own.kind)) {
      c.hits++;
      cost += 2 + c.cache.indexOf(own.kind);
    } else {
      c.misses++;
      cost += 10;
      if (c.cache.size() == 4) {
        c.gaveUp = true;
        c.cache.clear();
      } else {
        c.cache.add(own.kind);
      }
    }
    return frame(k, k.methods.get(c.a).body, own, direct ? c : null);
  }

  // ---- the calls that run, and those that ask

  private static void target(int cls) {
    if (cls < 0 || cls > 11) {
      throw new IndexOutOfBoundsException();
    }
  }

  private static void target(int cls, int name) {
    target(cls);
    if (name < 1 || name > 5) {
      throw new IndexOutOfBoundsException();
    }
  }

  int load(int cls) {
    target(cls);
    try {
      loading(cls);
      return 0;
    } catch (Fault f) {
      return f.number;
    }
  }

  int run(int cls, int name) {
    target(cls, name);
    cost = 0;
    steps = 0;
    int given;
    try {
      given = making(cls, name);
    } catch (Fault f) {
      given = -10000 - f.number;
    }
    runs++;
    costs += cost;
    lastCost = cost;
    lastSteps = steps;
    return given;
  }

  int ofClass(int cls, int what) {
    Kind k = toldOne(cls);
    boolean loaded = k.status == 1;
    switch (what) {
      case 0:
        return k.isInterface ? 1 : 0;
      case 1:
        return k.status;
      case 2:
        return k.status == 2 ? k.fault : 0;
      case 3:
        return k.wake;
      case 4:
        return k.stat;
      case 5: {
        int set = 0;
        if (loaded) {
          for (int i : allOf(cls)) {
            set += 1 << i;
          }
        }
        return set;
      }
      case 6:
        return loaded && !k.isInterface ? table(cls).size() : 0;
      case 7:
        return k.made;
      case 8:
        return k.order;
      default:
        throw new IllegalArgumentException();
    }
  }

  private void finder(int cls, int name) {
    if (name < 1 || name > 5 || toldOne(cls).isInterface || toldOne(cls).status != 1) {
      throw new IndexOutOfBoundsException();
    }
  }

  int finds(int cls, int name) {
    finder(cls, name);
    return findsOrFault(cls, name);
  }

  int slot(int cls, int name) {
    finder(cls, name);
    return table(cls).indexOf(name);
  }

  int ofPlace(int cls, int name, int step, int what) {
    Kind k = toldOne(cls);
    Meth m = k.methods.get(name);
    if (k.status != 1 || m == null || m.body == null || step < 0 || step >= m.body.size()
        || m.body.get(step).kind != 3) {
      throw new IndexOutOfBoundsException();
    }
    Code c = m.body.get(step);
    if (what < 0 || what > 6) {
      throw new IllegalArgumentException();
    }
    int[] answers = {isDirect(k, c) ? 1 : 0, c.cache.size(), c.hits, c.misses, c.gaveUp ? 1 : 0,
      c.turned, c.cache.isEmpty() ? -1 : c.cache.get(0)};
    return answers[what];
  }

  int many(int what) {
    if (what < 0 || what > 13) {
      throw new IllegalArgumentException();
    }
    int[] answers = new int[14];
    answers[0] = kinds.size();
    for (Kind k : kinds) {
      answers[1 + k.status]++;
      answers[4] += k.wake == 2 ? 1 : 0;
      for (int name = 0; name < 6 && k.status == 1; name++) {
        for (int i = 0; i < 6; i++) {
          try {
            answers[6] += ofPlace(k.number, name, i, 0);
            answers[5]++;
            answers[7] += ofPlace(k.number, name, i, 4);
            answers[8] += ofPlace(k.number, name, i, 5);
            answers[9] += ofPlace(k.number, name, i, 2);
            answers[10] += ofPlace(k.number, name, i, 3);
          } catch (IndexOutOfBoundsException e) {
            continue;
          }
        }
      }
    }
    answers[11] = runs;
    answers[12] = lastCost;
    answers[13] = lastSteps;
    return answers[what];
  }

  double meanCost() {
    return runs == 0 ? 0 : (double) costs / runs;
  }

  int wouldRun(int cls, int name) {
    return copy().run(cls, name);
  }

  int wouldCost(int cls, int name) {
    TownModel m = copy();
    m.run(cls, name);
    return m.many(12);
  }

  int wouldLoad(int cls) {
    TownModel m = copy();
    m.load(cls);
    return m.many(2) - many(2);
  }

  int wouldTurn(int cls) {
    TownModel m = copy();
    m.load(cls);
    return m.many(8) - many(8);
  }

  int wouldWarm(int cls, int name) {
    TownModel m = copy();
    m.run(cls, name);
    int one = m.many(12);
    m.run(cls, name);
    return one - m.many(12);
  }

  long digest() {
    long d = 7601;
    for (int what = 0; what <= 13; what++) {
      d = d * 31 + many(what);
    }
    for (Kind k : kinds) {
      for (int what = 0; what <= 8; what++) {
        d = d * 31 + ofClass(k.number, what);
      }
      if (!k.isInterface && k.status == 1) {
        for (int name = 1; name <= 5; name++) {
          d = d * 31 + finds(k.number, name);
          d = d * 31 + slot(k.number, name);
        }
      }
    }
    for (Kind k : kinds) {
      for (int name = 0; name < 6 && k.status == 1; name++) {
        for (int i = 0; i < 6; i++) {
          for (int what = 0; what <= 6; what++) {
            try {
              d = d * 31 + ofPlace(k.number, name, i, what);
            } catch (IndexOutOfBoundsException e) {
              continue;
            }
          }
        }
      }
    }
    for (Kind k : kinds) {
      d = d * 31 + wouldRun(k.number, 1);
      d = d * 31 + wouldCost(k.number, 1);
    }
    return d;
  }
}
