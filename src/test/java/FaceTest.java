import com.sun.management.ThreadMXBean;
import java.lang.management.ManagementFactory;
import java.lang.reflect.Constructor;
import java.lang.reflect.Field;
import java.lang.reflect.Method;
import java.lang.reflect.Modifier;
import java.util.ArrayList;
import java.util.List;
import java.util.TreeSet;

/** The face is the document's and nothing else (rules 1 and 5 of LANGUAGE.md), and calls make no objects. */
public final class FaceTest {
  private static int wrong;

  private static final String[] FACE = {
    "int plain(int,int)", "int face(int)", "int method(int,int)", "int open(int,int)",
    "int step(int,int,int,int,int)", "int first(int,int,int,int)", "boolean field(int,int)", "int load(int)",
    "int run(int,int)", "int ofClass(int,int)", "int finds(int,int)", "int slot(int,int)",
    "int ofPlace(int,int,int,int)", "int many(int)", "double meanCost()", "int wouldRun(int,int)",
    "int wouldCost(int,int)", "int wouldLoad(int)", "int wouldTurn(int)", "int wouldWarm(int,int)", "long digest()"};

  private static void due(boolean holds, String what) {
    if (!holds) {
      wrong++;
      System.out.println(what);
    }
  }

  public static void main(String[] args) {
    checkMembers();
    checkInnerNames();
    checkRoom();
    System.out.println(wrong == 0 ? "the face is as the document has it" : wrong + " things are amiss");
    if (wrong != 0) {
      System.exit(1);
    }
  }

  private static void checkMembers() {
    Class<?> c = VtableTown.class;
    due(Modifier.isFinal(c.getModifiers()) && Modifier.isPublic(c.getModifiers()), "the class is not public and final");
    TreeSet<String> due = new TreeSet<>(List.of(FACE));
    TreeSet<String> seen = new TreeSet<>();
    for (Method m : c.getDeclaredMethods()) {
      if (!Modifier.isPrivate(m.getModifiers()) && !m.isSynthetic()) {
        List<String> types = new ArrayList<>();
        for (Class<?> p : m.getParameterTypes()) {
          types.add(p.getName());
        }
        seen.add(m.getReturnType().getName() + " " + m.getName() + "(" + String.join(",", types) + ")");
        due(Modifier.isPublic(m.getModifiers()) && !Modifier.isStatic(m.getModifiers()), m + " is not plainly public");
      }
    }
    due(seen.equals(due), "the methods are " + seen + ", due are " + due);
    for (Constructor<?> k : c.getDeclaredConstructors()) {
      due(Modifier.isPublic(k.getModifiers()) && k.getParameterCount() == 0, k + " is not of the face");
    }
    for (Field f : c.getDeclaredFields()) {
      due(Modifier.isPrivate(f.getModifiers()), f + " is not private");
    }
    for (Class<?> inner : c.getDeclaredClasses()) {
      due(Modifier.isStatic(inner.getModifiers()) && !Modifier.isPublic(inner.getModifiers()), inner + " is not static");
    }
  }

  private static void checkInnerNames() {
    TreeSet<String> names = new TreeSet<>();
    for (String f : FACE) {
      names.add(f.substring(f.indexOf(' ') + 1, f.indexOf('(')));
    }
    List<Class<?>> all = new ArrayList<>(List.of(VtableTown.class.getDeclaredClasses()));
    for (Class<?> inner : all) {
      for (Method m : inner.getDeclaredMethods()) {
        due(!names.contains(m.getName()), m + " bears the name of a public one");
      }
      checkStatics(inner);
    }
    checkStatics(VtableTown.class);
    for (Method m : VtableTown.class.getDeclaredMethods()) {
      due(Modifier.isPublic(m.getModifiers()) || !names.contains(m.getName()), m + " bears the name of a public one");
    }
  }

  private static void checkStatics(Class<?> c) {
    int fields = 0;
    for (Field f : c.getDeclaredFields()) {
      if (Modifier.isStatic(f.getModifiers())) {
        due(Modifier.isFinal(f.getModifiers()), f + " is not final");
      } else {
        fields++;
      }
    }
    due(fields <= 20, c + " has " + fields + " fields");
  }

  /** All calls live in one room, so none but the constructor may make an object. */
  private static void checkRoom() {
    ThreadMXBean threads = (ThreadMXBean) ManagementFactory.getThreadMXBean();
    long id = Thread.currentThread().getId();
    long least = Long.MAX_VALUE;
    for (int round = 0; round < 5; round++) {
      VtableTown x = new VtableTown();
      long ahead = threads.getThreadAllocatedBytes(id);
      long d = allCalls(x);
      least = Math.min(least, threads.getThreadAllocatedBytes(id) - ahead);
      due(d != 0, "the calls answered nothing");
    }
    due(least < 2000, "some 500 calls made " + least + " bytes of objects");
  }

  private static long allCalls(VtableTown x) {
    long d = 0;
    for (int cls = 0; cls < 12; cls++) {
      d += cls % 4 == 3 ? x.face(0) : x.plain(cls % 4 - 1 < 0 ? -1 : cls - 1, 0);
      for (int name = 1; name <= 5; name++) {
        d += x.method(cls, name) + x.step(cls, name, 3, name % 5 + 1, 0) + x.step(cls, name, 5, (cls + 1) % 12, 1);
      }
      d += x.open(cls, 4) + x.first(cls, 7, cls, 0) + (cls % 4 != 3 && x.field(cls, 0) ? 1 : 0);
    }
    for (int i = 0; i < 40; i++) {
      int cls = i % 12;
      d += x.load(cls) + x.run(cls, 1) + x.ofClass(cls, 5) + x.many(i % 14) + x.wouldRun(cls, 2) + x.wouldCost(cls, 3);
      d += x.wouldLoad(cls) + x.wouldTurn(cls) + x.wouldWarm(cls, 1) + x.digest();
    }
    return d;
  }
}
