/**
 * A machine for a small object language. The words of the document are used here as it tells them:
 * CLASS, PARENT, INTERFACE, LINE, OF, NAME, METHOD, PLACE, FRAME and so on.
 */
public final class VtableTown {
  private static final int NONE = -1;

  private static final int CLASSES = 12;
  private static final int NAMES = 6;
  private static final int FIELDS = 4;
  private static final int ALL_SETS = 1 << CLASSES;

  /** A CLASS has a row of STEPS for each NAME, and behind these its INITIALISER. */
  private static final int ROWS = 7;
  private static final int MAKER = 0;
  private static final int INITIALISER = 6;
  private static final int ROW_LENGTH = 6;
  private static final int STEPS_OF_A_CLASS = ROWS * ROW_LENGTH;

  private static final int NO_METHOD = 0;
  private static final int ABSTRACT = 1;
  private static final int BODY = 2;

  private static final int ADD = 0;
  private static final int GET = 1;
  private static final int PUT = 2;
  private static final int CALL = 3;
  private static final int SUPER = 4;
  private static final int MAKE = 5;
  private static final int READ = 6;
  private static final int KEEP = 7;
  private static final int IS = 8;
  private static final int MOST_ADDED = 99;
  private static final int MOST_THERE = 9999;

  private static final int FRESH = 0;
  private static final int LOADED = 1;
  private static final int BROKEN = 2;

  private static final int ASLEEP = 0;
  private static final int BEGUN = 1;
  private static final int READY = 2;
  private static final int FAILED = 3;

  private static final int NOT_TOLD = 1;
  private static final int IN_A_RING = 2;
  private static final int WRONG_SORT = 3;
  private static final int NO_BODY_FOUND = 4;
  private static final int MANY_BODIES_FOUND = 5;
  private static final int FAILED_BEFORE = 6;
  private static final int NO_FIELD = 7;
  private static final int STEPS_SPENT = 8;
  private static final int FRAMES_SPENT = 9;

  /** A FAULT in place of a CLASS that is found is told as this less the FAULT. */
  private static final int FAULT_FOUND = -10;
  /** A FAULT in place of what a run gives is told as this less the FAULT. */
  private static final int FAULT_RUN = -10000;

  private static final int MOST_FRAMES = 20;
  private static final int MOST_STEPS = 400;
  /** Each FRAME makes one object at a time, and the outside one more. */
  private static final int OBJECTS = MOST_FRAMES + 1;
  private static final int VALUES_OF_AN_OBJECT = CLASSES * FIELDS;

  private static final int CACHE_LENGTH = 4;
  private static final int CACHE_BITS = 4;
  private static final int CACHE_MASK = 15;

  private static final int COST_OF_LOADED = 50;
  private static final int COST_OF_MAKE = 6;
  private static final int COST_OF_SUPER = 1;
  private static final int COST_OF_DIRECT = 1;
  private static final int COST_OF_FIRST_HIT = 2;
  private static final int COST_OF_MISS = 10;
  private static final int COST_OF_GIVEN_UP = 6;
  private static final int COST_OF_TURNED_FRAME = 5;

  private static final long DIGEST_START = 7601L;
  private static final int LAST_OF_CLASS = 8;
  private static final int LAST_OF_PLACE = 6;
  private static final int LAST_MANY = 13;

  private final Told told;
  private final Finder finder;
  private final State state;
  private final Machine machine;

  public VtableTown() {
    told = new Told();
    finder = new Finder(told);
    state = new State();
    machine = new Machine(told, finder, state);
  }

  // ---- what is told

  public int plain(int parent, int interfaces) throws IllegalArgumentException, IllegalStateException {
    if (parent < NONE || parent >= CLASSES || parent == told.count) {
      throw new IllegalArgumentException("no such parent");
    }
    checkInterfaces(interfaces);
    checkThereIsRoom();
    return told.addClass(false, parent, interfaces);
  }

  public int face(int interfaces) throws IllegalArgumentException, IllegalStateException {
    checkInterfaces(interfaces);
    checkThereIsRoom();
    return told.addClass(true, NONE, interfaces);
  }

  public int method(int cls, int name)
      throws IndexOutOfBoundsException, IllegalArgumentException, IllegalStateException {
    checkToldAndName(cls, name);
    if (name == MAKER && told.isFace[cls]) {
      throw new IllegalArgumentException("an interface has no maker");
    }
    checkFresh(cls);
    return told.replaceMethod(cls, name, BODY);
  }

  public int open(int cls, int name)
      throws IndexOutOfBoundsException, IllegalArgumentException, IllegalStateException {
    checkToldAndName(cls, name);
    if (name == MAKER) {
      throw new IllegalArgumentException("a maker is never abstract");
    }
    checkFresh(cls);
    return told.replaceMethod(cls, name, ABSTRACT);
  }

  public int step(int cls, int name, int kind, int a, int b)
      throws IndexOutOfBoundsException, IllegalArgumentException, IllegalStateException {
    checkToldAndName(cls, name);
    if (!isStep(kind, a, b)) {
      throw new IllegalArgumentException("no such step");
    }
    checkFresh(cls);
    int row = rowOf(cls, name);
    if (told.has[row] != BODY) {
      throw new IllegalStateException("no body for that name");
    }
    checkRowHasRoom(row);
    return told.appendStep(row, kind, a, b);
  }

  public int first(int cls, int kind, int a, int b)
      throws IndexOutOfBoundsException, IllegalArgumentException, IllegalStateException {
    checkTold(cls);
    if (!isKindOfInitialiser(kind) || !isStep(kind, a, b)) {
      throw new IllegalArgumentException("no such step of an initialiser");
    }
    checkFresh(cls);
    int row = rowOf(cls, INITIALISER);
    checkRowHasRoom(row);
    return told.appendStep(row, kind, a, b);
  }

  public boolean field(int cls, int field)
      throws IndexOutOfBoundsException, IllegalArgumentException, IllegalStateException {
    checkTold(cls);
    if (!isField(field)) {
      throw new IndexOutOfBoundsException("no such field");
    }
    if (told.isFace[cls]) {
      throw new IllegalArgumentException("an interface declares no fields");
    }
    checkFresh(cls);
    return told.declareField(cls, field);
  }

  // ---- runs

  public int load(int cls) throws IndexOutOfBoundsException {
    checkNumber(cls);
    return machine.loadFromOutside(cls);
  }

  public int run(int cls, int name) throws IndexOutOfBoundsException {
    checkNumberAndName(cls, name);
    return machine.runFromOutside(cls, name);
  }

  // ---- what one asks

  public int ofClass(int cls, int what) throws IndexOutOfBoundsException, IllegalArgumentException {
    checkTold(cls);
    boolean loaded = state.status[cls] == LOADED;
    switch (what) {
      case 0:
        return told.isFace[cls] ? 1 : 0;
      case 1:
        return state.status[cls];
      case 2:
        return state.faults[cls];
      case 3:
        return state.wakes[cls];
      case 4:
        return state.statics[cls];
      case 5:
        return loaded ? finder.of[cls] : 0;
      case 6:
        return loaded && !told.isFace[cls] ? finder.lengths[cls] : 0;
      case 7:
        return state.made[cls];
      case 8:
        return loaded ? state.orders[cls] : NONE;
      default:
        throw new IllegalArgumentException("what is 0 to 8");
    }
  }

  public int finds(int cls, int name) throws IndexOutOfBoundsException {
    checkFinder(cls, name);
    return finder.found[cls * NAMES + name];
  }

  public int slot(int cls, int name) throws IndexOutOfBoundsException {
    checkFinder(cls, name);
    return finder.slots[cls * NAMES + name];
  }

  public int ofPlace(int cls, int name, int step, int what)
      throws IndexOutOfBoundsException, IllegalArgumentException {
    if (!isPlace(cls, name, step)) {
      throw new IndexOutOfBoundsException("no such place");
    }
    int place = rowOf(cls, name) * ROW_LENGTH + step;
    switch (what) {
      case 0:
        return state.direct[place];
      case 1:
        return state.cacheSize(place);
      case 2:
        return state.hits[place];
      case 3:
        return state.misses[place];
      case 4:
        return state.gaveUp[place];
      case 5:
        return state.turned[place];
      case 6:
        return state.cached(place, 0);
      default:
        throw new IllegalArgumentException("what is 0 to 6");
    }
  }

  public int many(int what) throws IllegalArgumentException {
    switch (what) {
      case 0:
        return told.count;
      case 1:
        return countClasses(state.status, FRESH);
      case 2:
        return countClasses(state.status, LOADED);
      case 3:
        return countClasses(state.status, BROKEN);
      case 4:
        return countClasses(state.wakes, READY);
      case 5:
        return countPlaces();
      case 6:
        return sumOfPlaces(state.direct);
      case 7:
        return sumOfPlaces(state.gaveUp);
      case 8:
        return sumOfPlaces(state.turned);
      case 9:
        return sumOfPlaces(state.hits);
      case 10:
        return sumOfPlaces(state.misses);
      case 11:
        return state.runs;
      case 12:
        return state.lastCost;
      case 13:
        return state.lastSteps;
      default:
        throw new IllegalArgumentException("what is 0 to 13");
    }
  }

  public double meanCost() {
    return state.runs == 0 ? 0.0 : (double) state.costs / state.runs;
  }

  // ---- what would be (nothing is changed)

  public int wouldRun(int cls, int name) throws IndexOutOfBoundsException {
    checkNumberAndName(cls, name);
    machine.keepState();
    int given = machine.runFromOutside(cls, name);
    machine.putStateBack();
    return given;
  }

  public int wouldCost(int cls, int name) throws IndexOutOfBoundsException {
    checkNumberAndName(cls, name);
    machine.keepState();
    machine.runFromOutside(cls, name);
    int cost = state.lastCost;
    machine.putStateBack();
    return cost;
  }

  public int wouldLoad(int cls) throws IndexOutOfBoundsException {
    checkNumber(cls);
    int ahead = state.loaded;
    machine.keepState();
    machine.loadFromOutside(cls);
    int behind = state.loaded;
    machine.putStateBack();
    return behind - ahead;
  }

  public int wouldTurn(int cls) throws IndexOutOfBoundsException {
    checkNumber(cls);
    int ahead = sumOfPlaces(state.turned);
    machine.keepState();
    machine.loadFromOutside(cls);
    int behind = sumOfPlaces(state.turned);
    machine.putStateBack();
    return behind - ahead;
  }

  public int wouldWarm(int cls, int name) throws IndexOutOfBoundsException {
    checkNumberAndName(cls, name);
    machine.keepState();
    machine.runFromOutside(cls, name);
    int firstCost = state.lastCost;
    machine.runFromOutside(cls, name);
    int secondCost = state.lastCost;
    machine.putStateBack();
    return firstCost - secondCost;
  }

  public long digest() {
    long d = DIGEST_START;
    for (int what = 0; what <= LAST_MANY; what++) {
      d = d * 31 + many(what);
    }
    for (int cls = 0; cls < told.count; cls++) {
      d = digestOfClass(d, cls);
    }
    for (int cls = 0; cls < told.count; cls++) {
      d = digestOfPlaces(d, cls);
    }
    for (int cls = 0; cls < told.count; cls++) {
      machine.keepState();
      d = d * 31 + machine.runFromOutside(cls, 1);
      d = d * 31 + state.lastCost;
      machine.putStateBack();
    }
    return d;
  }

  private long digestOfClass(long start, int cls) {
    long d = start;
    for (int what = 0; what <= LAST_OF_CLASS; what++) {
      d = d * 31 + ofClass(cls, what);
    }
    if (isPlainAndLoaded(cls)) {
      for (int name = 1; name < NAMES; name++) {
        d = d * 31 + finds(cls, name);
        d = d * 31 + slot(cls, name);
      }
    }
    return d;
  }

  private long digestOfPlaces(long start, int cls) {
    long d = start;
    for (int name = 0; name < NAMES; name++) {
      for (int i = 0; i < ROW_LENGTH; i++) {
        if (isPlace(cls, name, i)) {
          for (int what = 0; what <= LAST_OF_PLACE; what++) {
            d = d * 31 + ofPlace(cls, name, i, what);
          }
        }
      }
    }
    return d;
  }

  // ---- what is looked at before a call is answered

  private static void checkInterfaces(int interfaces) {
    if (interfaces < 0 || interfaces >= ALL_SETS) {
      throw new IllegalArgumentException("no such set of interfaces");
    }
  }

  private void checkThereIsRoom() {
    if (told.count >= CLASSES) {
      throw new IllegalStateException("there are 12 classes");
    }
  }

  private void checkTold(int cls) {
    if (!isTold(cls)) {
      throw new IndexOutOfBoundsException("no such class");
    }
  }

  private void checkToldAndName(int cls, int name) {
    checkTold(cls);
    if (name < 0 || name >= NAMES) {
      throw new IndexOutOfBoundsException("no such name");
    }
  }

  private void checkFresh(int cls) {
    if (state.status[cls] != FRESH) {
      throw new IllegalStateException("the class is no longer fresh");
    }
  }

  private void checkRowHasRoom(int row) {
    if (told.sizes[row] >= ROW_LENGTH) {
      throw new IllegalStateException("there are 6 steps");
    }
  }

  private static void checkNumber(int cls) {
    if (!isNumber(cls)) {
      throw new IndexOutOfBoundsException("a class is 0 to 11");
    }
  }

  private static void checkNumberAndName(int cls, int name) {
    checkNumber(cls);
    if (!isCalledName(name)) {
      throw new IndexOutOfBoundsException("a name to run is 1 to 5");
    }
  }

  private void checkFinder(int cls, int name) {
    if (!isPlainAndLoaded(cls) || !isCalledName(name)) {
      throw new IndexOutOfBoundsException("no plain and loaded class, or no such name");
    }
  }

  private boolean isTold(int cls) {
    return cls >= 0 && cls < told.count;
  }

  private boolean isPlainAndLoaded(int cls) {
    return isTold(cls) && !told.isFace[cls] && state.status[cls] == LOADED;
  }

  private boolean isPlace(int cls, int name, int i) {
    return isTold(cls) && state.status[cls] == LOADED && name >= 0 && name < NAMES
        && told.isCall(cls, name, i);
  }

  private static boolean isNumber(int cls) {
    return cls >= 0 && cls < CLASSES;
  }

  private static boolean isCalledName(int name) {
    return name >= 1 && name < NAMES;
  }

  private static boolean isField(int field) {
    return field >= 0 && field < FIELDS;
  }

  private static boolean isKindOfInitialiser(int kind) {
    return kind == ADD || kind == MAKE || kind == READ || kind == KEEP;
  }

  private static boolean isStep(int kind, int a, int b) {
    switch (kind) {
      case ADD:
        return a >= -MOST_ADDED && a <= MOST_ADDED && b == 0;
      case GET:
      case PUT:
        return isField(a) && b == 0;
      case CALL:
      case SUPER:
        return isCalledName(a) && b == 0;
      case MAKE:
        return isNumber(a) && isCalledName(b);
      case READ:
      case KEEP:
      case IS:
        return isNumber(a) && b == 0;
      default:
        return false;
    }
  }

  // ---- what is counted

  private int countClasses(int[] row, int wanted) {
    int count = 0;
    for (int cls = 0; cls < told.count; cls++) {
      if (row[cls] == wanted) {
        count++;
      }
    }
    return count;
  }

  private int countPlaces() {
    int count = 0;
    for (int cls = 0; cls < told.count; cls++) {
      for (int at = 0; at < NAMES * ROW_LENGTH; at++) {
        if (isPlace(cls, at / ROW_LENGTH, at % ROW_LENGTH)) {
          count++;
        }
      }
    }
    return count;
  }

  /** A STEP that is no PLACE has 0 in each of these rows. */
  private int sumOfPlaces(int[] row) {
    int sum = 0;
    for (int at = 0; at < told.count * STEPS_OF_A_CLASS; at++) {
      sum += row[at];
    }
    return sum;
  }

  private static int rowOf(int cls, int name) {
    return cls * ROWS + name;
  }

  private static boolean isIn(int set, int member) {
    return (set >> member & 1) != 0;
  }

  /** What is told of the CLASSES; only the calls that tell change it. */
  private static final class Told {
    int count;
    final boolean[] isFace = new boolean[CLASSES];
    final int[] parents = new int[CLASSES];
    final int[] interfaces = new int[CLASSES];
    final int[] declared = new int[CLASSES];
    /** By rows: NO_METHOD, ABSTRACT or BODY (free for INITIALISERS). */
    final int[] has = new int[CLASSES * ROWS];
    final int[] sizes = new int[CLASSES * ROWS];
    final int[] kinds = new int[CLASSES * STEPS_OF_A_CLASS];
    final int[] as = new int[CLASSES * STEPS_OF_A_CLASS];
    final int[] bs = new int[CLASSES * STEPS_OF_A_CLASS];

    int addClass(boolean face, int parent, int set) {
      int cls = count;
      isFace[cls] = face;
      parents[cls] = parent;
      interfaces[cls] = set;
      count++;
      return cls;
    }

    /** Answers what there was. */
    int replaceMethod(int cls, int name, int what) {
      int row = rowOf(cls, name);
      int was = has[row];
      has[row] = what;
      sizes[row] = 0;
      return was;
    }

    /** Answers how many STEPS the row has then. */
    int appendStep(int row, int kind, int a, int b) {
      int at = row * ROW_LENGTH + sizes[row];
      kinds[at] = kind;
      as[at] = a;
      bs[at] = b;
      sizes[row]++;
      return sizes[row];
    }

    /** Answers whether it was not declared. */
    boolean declareField(int cls, int field) {
      boolean isNew = !isIn(declared[cls], field);
      declared[cls] |= 1 << field;
      return isNew;
    }

    boolean isCall(int cls, int name, int i) {
      int row = rowOf(cls, name);
      return i >= 0 && i < sizes[row] && kinds[row * ROW_LENGTH + i] == CALL;
    }

    /** The first one of the LINE that DECLARES the FIELD, or NONE; an INTERFACE has no LINE, and DECLARES nothing. */
    int declarerOf(int cls, int field) {
      int at = cls;
      for (int n = 0; n < CLASSES && at != NONE; n++) {
        if (isIn(declared[at], field)) {
          return at;
        }
        at = parents[at];
      }
      return NONE;
    }

    /** The one that stands so many steps behind a CLASS in its LINE, or NONE. */
    int ancestorOf(int cls, int distance) {
      int at = cls;
      for (int n = 0; n < distance && at != NONE; n++) {
        at = parents[at];
      }
      return at;
    }
  }

  /**
   * What LOADED CLASSES are OF, FIND, and have in their TABLES. That is settled as a CLASS becomes
   * LOADED and read only as long as it is, so it need not be put back behind what only would be.
   */
  private static final class Finder {
    final Told told;
    final int[] of = new int[CLASSES];
    /** By CLASSES and NAMES: a CLASS, or FAULT_FOUND less a FAULT. */
    final int[] found = new int[CLASSES * NAMES];
    final int[] slots = new int[CLASSES * NAMES];
    final int[] lengths = new int[CLASSES];

    Finder(Told told) {
      this.told = told;
    }

    /** All that the CLASS names must be LOADED. */
    void learn(int cls) {
      of[cls] = allOf(cls);
      if (told.isFace[cls]) {
        return;
      }
      int parent = told.parents[cls];
      lengths[cls] = parent == NONE ? 0 : lengths[parent];
      for (int name = 1; name < NAMES; name++) {
        int having = havingMethod(of[cls], name);
        int inLine = lookInLine(cls, name);
        found[cls * NAMES + name] = inLine == NONE ? lookInInterfaces(having, name) : inLine;
        learnSlot(cls, name, having != 0);
      }
    }

    private int allOf(int cls) {
      int set = 1 << cls;
      int parent = told.parents[cls];
      if (parent != NONE) {
        set |= of[parent];
      }
      for (int i = 0; i < CLASSES; i++) {
        if (isIn(told.interfaces[cls], i)) {
          set |= of[i];
        }
      }
      return set;
    }

    /** NONE, if none of the LINE has a METHOD for the NAME. */
    private int lookInLine(int cls, int name) {
      int at = cls;
      for (int n = 0; n < CLASSES && at != NONE; n++) {
        int has = told.has[rowOf(at, name)];
        if (has != NO_METHOD) {
          return has == BODY ? at : FAULT_FOUND - NO_BODY_FOUND;
        }
        at = told.parents[at];
      }
      return NONE;
    }

    private int havingMethod(int set, int name) {
      int having = 0;
      for (int i = 0; i < CLASSES; i++) {
        if (isIn(set, i) && told.has[rowOf(i, name)] != NO_METHOD) {
          having |= 1 << i;
        }
      }
      return having;
    }

    /** Among those that have a METHOD for the NAME, each one rules out all others that it is OF. */
    private int lookInInterfaces(int having, int name) {
      int ruledOut = 0;
      for (int i = 0; i < CLASSES; i++) {
        if (isIn(having, i)) {
          ruledOut |= of[i] & ~(1 << i);
        }
      }
      int bodies = 0;
      int last = NONE;
      for (int i = 0; i < CLASSES; i++) {
        if (isIn(having & ~ruledOut, i) && told.has[rowOf(i, name)] == BODY) {
          bodies++;
          last = i;
        }
      }
      if (bodies == 0) {
        return FAULT_FOUND - NO_BODY_FOUND;
      }
      return bodies == 1 ? last : FAULT_FOUND - MANY_BODIES_FOUND;
    }

    /** A NAME keeps its place in the PARENT's TABLE; a new one comes to the end, so NAMES go by numbers. */
    private void learnSlot(int cls, int name, boolean has) {
      int parent = told.parents[cls];
      int inherited = parent == NONE ? NONE : slots[parent * NAMES + name];
      if (inherited == NONE && has) {
        slots[cls * NAMES + name] = lengths[cls];
        lengths[cls]++;
      } else {
        slots[cls * NAMES + name] = inherited;
      }
    }
  }

  /** All that loading and running changes; a second one keeps it while it is tried what would be. */
  private static final class State {
    int loaded;
    int runs;
    long costs;
    int lastCost;
    int lastSteps;
    final int[] status = new int[CLASSES];
    final int[] faults = new int[CLASSES];
    final int[] wakes = new int[CLASSES];
    final int[] statics = new int[CLASSES];
    final int[] made = new int[CLASSES];
    final int[] orders = new int[CLASSES];
    /** The rows of PLACES go by the numbers of all STEPS. */
    final int[] direct = new int[CLASSES * STEPS_OF_A_CLASS];
    /** Four bits for each CLASS in the CACHE, its number and 1, the first one lowest. */
    final int[] caches = new int[CLASSES * STEPS_OF_A_CLASS];
    final int[] hits = new int[CLASSES * STEPS_OF_A_CLASS];
    final int[] misses = new int[CLASSES * STEPS_OF_A_CLASS];
    final int[] gaveUp = new int[CLASSES * STEPS_OF_A_CLASS];
    final int[] turned = new int[CLASSES * STEPS_OF_A_CLASS];

    /** CLASSES that are not told have nothing to copy. */
    void copyFrom(State other, int classes) {
      loaded = other.loaded;
      runs = other.runs;
      costs = other.costs;
      lastCost = other.lastCost;
      lastSteps = other.lastSteps;
      System.arraycopy(other.status, 0, status, 0, classes);
      System.arraycopy(other.faults, 0, faults, 0, classes);
      System.arraycopy(other.wakes, 0, wakes, 0, classes);
      System.arraycopy(other.statics, 0, statics, 0, classes);
      System.arraycopy(other.made, 0, made, 0, classes);
      System.arraycopy(other.orders, 0, orders, 0, classes);
      int steps = classes * STEPS_OF_A_CLASS;
      System.arraycopy(other.direct, 0, direct, 0, steps);
      System.arraycopy(other.caches, 0, caches, 0, steps);
      System.arraycopy(other.hits, 0, hits, 0, steps);
      System.arraycopy(other.misses, 0, misses, 0, steps);
      System.arraycopy(other.gaveUp, 0, gaveUp, 0, steps);
      System.arraycopy(other.turned, 0, turned, 0, steps);
    }

    /** The CLASS at a place of the CACHE, or NONE. */
    int cached(int place, int k) {
      return (caches[place] >> k * CACHE_BITS & CACHE_MASK) - 1;
    }

    int cacheSize(int place) {
      int size = 0;
      while (size < CACHE_LENGTH && cached(place, size) != NONE) {
        size++;
      }
      return size;
    }

    /** Lets a CALL on an object of the CLASS come to a PLACE that is not DIRECT; answers its cost. */
    int askCache(int place, int cls) {
      if (gaveUp[place] != 0) {
        return COST_OF_GIVEN_UP;
      }
      int size = cacheSize(place);
      for (int k = 0; k < size; k++) {
        if (cached(place, k) == cls) {
          hits[place]++;
          return COST_OF_FIRST_HIT + k;
        }
      }
      misses[place]++;
      if (size < CACHE_LENGTH) {
        caches[place] |= cls + 1 << size * CACHE_BITS;
      } else {
        gaveUp[place] = 1;
        caches[place] = 0;
      }
      return COST_OF_MISS;
    }
  }

  /** Loads, initialises and runs. */
  private static final class Machine {
    private final Told told;
    private final Finder finder;
    private final State state;
    private final State kept = new State();
    /** By FRAMES: the PLACE that it was called from as that was DIRECT, or NONE. */
    private final int[] callers = new int[MOST_FRAMES];
    private final int[] classes = new int[OBJECTS];
    /** By objects, CLASSES and FIELDS. */
    private final int[] values = new int[OBJECTS * VALUES_OF_AN_OBJECT];
    /** The set of those that are being LOADED just then. */
    private int loading;
    private int frames;
    private int steps;
    private int cost;
    /** The FAULT that ends the run, or 0: as soon as there is one, nothing more is begun. */
    private int fault;

    Machine(Told told, Finder finder, State state) {
      this.told = told;
      this.finder = finder;
      this.state = state;
    }

    void keepState() {
      kept.copyFrom(state, told.count);
    }

    void putStateBack() {
      state.copyFrom(kept, told.count);
    }

    /** Answers the FAULT, or 0. */
    int loadFromOutside(int cls) {
      return loadClass(cls);
    }

    int runFromOutside(int cls, int name) {
      steps = 0;
      cost = 0;
      fault = 0;
      int given = makeAndCall(cls, name);
      state.runs++;
      state.costs += cost;
      state.lastCost = cost;
      state.lastSteps = steps;
      return fault == 0 ? given : FAULT_RUN - fault;
    }

    // ---- loading

    /** Answers the FAULT, or 0. The set of those being LOADED limits the depth to that of the CLASSES told. */
    private int loadClass(int cls) {
      if (cls < 0 || cls >= told.count) {
        return NOT_TOLD;
      }
      if (state.status[cls] != FRESH) {
        return state.faults[cls];
      }
      if (isIn(loading, cls)) {
        return IN_A_RING;
      }
      loading |= 1 << cls;
      int broken = loadWhatIsNamed(cls);
      loading &= ~(1 << cls);
      if (broken != 0) {
        state.status[cls] = BROKEN;
        state.faults[cls] = broken;
        return broken;
      }
      finder.learn(cls);
      becomeLoaded(cls);
      if (!told.isFace[cls]) {
        openPlaces(cls);
        turnBackLine(cls);
      }
      return 0;
    }

    private int loadWhatIsNamed(int cls) {
      int parent = told.parents[cls];
      int broken = parent == NONE ? 0 : loadAs(parent, false);
      for (int i = 0; i < CLASSES && broken == 0; i++) {
        if (isIn(told.interfaces[cls], i)) {
          broken = loadAs(i, true);
        }
      }
      return broken;
    }

    private int loadAs(int cls, boolean face) {
      int broken = loadClass(cls);
      if (broken != 0) {
        return broken;
      }
      return told.isFace[cls] == face ? 0 : WRONG_SORT;
    }

    private void becomeLoaded(int cls) {
      state.status[cls] = LOADED;
      state.orders[cls] = state.loaded;
      state.loaded++;
      cost += COST_OF_LOADED;
    }

    /** As a CLASS becomes LOADED no other one is OF it yet. */
    private void openPlaces(int cls) {
      for (int at = 0; at < NAMES * ROW_LENGTH; at++) {
        if (told.isCall(cls, at / ROW_LENGTH, at % ROW_LENGTH)) {
          int place = cls * STEPS_OF_A_CLASS + at;
          state.direct[place] = finder.found[cls * NAMES + told.as[place]] >= 0 ? 1 : 0;
        }
      }
    }

    /** A new PLAIN CLASS is OF its LINE, so only the PLACES there can stop being DIRECT by it. */
    private void turnBackLine(int cls) {
      int at = told.parents[cls];
      for (int n = 0; n < CLASSES && at != NONE; n++) {
        turnBackPlaces(at, cls);
        at = told.parents[at];
      }
    }

    private void turnBackPlaces(int cls, int newOne) {
      int start = cls * STEPS_OF_A_CLASS;
      for (int place = start; place < start + NAMES * ROW_LENGTH; place++) {
        if (state.direct[place] != 0) {
          int name = told.as[place];
          if (finder.found[cls * NAMES + name] != finder.found[newOne * NAMES + name]) {
            turnBack(place);
          }
        }
      }
    }

    private void turnBack(int place) {
      state.direct[place] = 0;
      state.turned[place]++;
      for (int frame = 0; frame < frames; frame++) {
        if (callers[frame] == place) {
          cost += COST_OF_TURNED_FRAME;
        }
      }
    }

    // ---- initialising, and objects

    /** The CLASS must be LOADED. None is ASLEEP twice, so the CLASSES told limit the depth. */
    private void initialise(int cls) {
      if (state.wakes[cls] == FAILED) {
        fault = FAILED_BEFORE;
      }
      if (state.wakes[cls] != ASLEEP) {
        return;
      }
      state.wakes[cls] = BEGUN;
      int parent = told.parents[cls];
      if (parent != NONE) {
        initialise(parent);
      }
      if (fault == 0) {
        runRow(cls, INITIALISER, NONE, NONE);
      }
      state.wakes[cls] = fault == 0 ? READY : FAILED;
    }

    private void loadAndInitialise(int cls) {
      fault = loadClass(cls);
      if (fault == 0) {
        initialise(cls);
      }
    }

    private int makeAndCall(int cls, int name) {
      fault = loadClass(cls);
      if (fault == 0 && told.isFace[cls]) {
        fault = WRONG_SORT;
      }
      if (fault == 0) {
        initialise(cls);
      }
      if (fault != 0) {
        return 0;
      }
      int object = newObject(cls);
      runMakers(cls, object);
      return fault == 0 ? callFound(cls, name, object, COST_OF_MAKE) : 0;
    }

    /** The FRAMES further out have one object each under way, so their number is free. */
    private int newObject(int cls) {
      int object = frames;
      classes[object] = cls;
      int start = object * VALUES_OF_AN_OBJECT;
      for (int i = 0; i < VALUES_OF_AN_OBJECT; i++) {
        values[start + i] = 0;
      }
      state.made[cls]++;
      return object;
    }

    private void runMakers(int cls, int object) {
      for (int distance = CLASSES - 1; distance >= 0 && fault == 0; distance--) {
        int at = told.ancestorOf(cls, distance);
        if (at != NONE && told.has[rowOf(at, MAKER)] == BODY) {
          runRow(at, MAKER, object, NONE);
        }
      }
    }

    /** Runs what a CLASS FINDS on an object, for a cost that comes only if it FINDS something. */
    private int callFound(int cls, int name, int object, int price) {
      int owner = finder.found[cls * NAMES + name];
      if (owner < 0) {
        fault = FAULT_FOUND - owner;
        return 0;
      }
      cost += price;
      return runRow(owner, name, object, NONE);
    }

    // ---- FRAMES and STEPS

    /** Answers what there is at the end of the row (free, if there is a FAULT). MOST_FRAMES limits the depth. */
    private int runRow(int cls, int name, int object, int caller) {
      if (frames >= MOST_FRAMES) {
        fault = FRAMES_SPENT;
        return 0;
      }
      callers[frames] = caller;
      frames++;
      int there = 0;
      int row = rowOf(cls, name);
      for (int i = 0; i < told.sizes[row] && fault == 0; i++) {
        there = held(runStep(cls, row * ROW_LENGTH + i, object, there));
      }
      frames--;
      return there;
    }

    private static int held(int there) {
      return Math.max(-MOST_THERE, Math.min(MOST_THERE, there));
    }

    /** Answers what there is behind the STEP (free, if there is a FAULT). */
    private int runStep(int cls, int at, int object, int there) {
      if (steps >= MOST_STEPS) {
        fault = STEPS_SPENT;
        return there;
      }
      steps++;
      cost++;
      int a = told.as[at];
      switch (told.kinds[at]) {
        case ADD:
          return there + a;
        case GET:
          return there + getField(cls, a, object);
        case PUT:
          putField(cls, a, object, there);
          return there;
        case CALL:
          return there + callOwn(at, a, object);
        case SUPER:
          return there + callSuper(cls, a, object);
        case MAKE:
          return there + makeAndCall(a, told.bs[at]);
        case READ:
          return there + readStatic(a);
        case KEEP:
          keepStatic(a, there);
          return there;
        default:
          return there + isOf(object, a);
      }
    }

    /** Where the FIELD of that name as a CLASS sees it lies in an object; NONE with the FAULT 7. */
    private int valueAt(int cls, int field, int object) {
      int declarer = told.declarerOf(cls, field);
      if (declarer == NONE || object == NONE) {
        fault = NO_FIELD;
        return NONE;
      }
      return object * VALUES_OF_AN_OBJECT + declarer * FIELDS + field;
    }

    private int getField(int cls, int field, int object) {
      int at = valueAt(cls, field, object);
      return at == NONE ? 0 : values[at];
    }

    private void putField(int cls, int field, int object, int there) {
      int at = valueAt(cls, field, object);
      if (at != NONE) {
        values[at] = there;
      }
    }

    private int callOwn(int place, int name, int object) {
      if (object == NONE) {
        return 0;
      }
      int cls = classes[object];
      int owner = finder.found[cls * NAMES + name];
      if (owner < 0) {
        fault = FAULT_FOUND - owner;
        return 0;
      }
      if (state.direct[place] != 0) {
        cost += COST_OF_DIRECT;
        return runRow(owner, name, object, place);
      }
      cost += state.askCache(place, cls);
      return runRow(owner, name, object, NONE);
    }

    private int callSuper(int cls, int name, int object) {
      int parent = told.parents[cls];
      if (parent == NONE) {
        fault = NO_BODY_FOUND;
        return 0;
      }
      return callFound(parent, name, object, COST_OF_SUPER);
    }

    private int readStatic(int cls) {
      loadAndInitialise(cls);
      return fault == 0 ? state.statics[cls] : 0;
    }

    private void keepStatic(int cls, int there) {
      loadAndInitialise(cls);
      if (fault == 0) {
        state.statics[cls] = there;
      }
    }

    private int isOf(int object, int cls) {
      fault = loadClass(cls);
      return fault == 0 && object != NONE && isIn(finder.of[classes[object]], cls) ? 1 : 0;
    }
  }
}
