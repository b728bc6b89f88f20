import java.lang.reflect.Constructor;
import java.lang.reflect.Field;
import java.lang.reflect.Method;
import java.lang.reflect.Modifier;
import java.nio.file.Files;
import java.nio.file.Path;
import java.util.ArrayList;
import java.util.Arrays;
import java.util.HashSet;
import java.util.List;
import java.util.Set;
import java.util.regex.Matcher;
import java.util.regex.Pattern;

/** Holds the class against ../shared/LANGUAGE.md, as far as can be told by its members and its text. */
public final class LanguageTest {
  private static final String FACE = "feed text fault named domain map unmap attach detach flush fence work use close "
      + "serve tidy cause about device group parting partingSet page domainOf frame reach shared gap queued cached "
      + "record freeing tried churn keep back count";

  public static void main(String[] args) throws Exception {
    face();
    classesInside();
    room();
    text(Files.readString(Path.of("src/main/java/GatedDevices.java")));
    Due.end("LanguageTest");
  }

  private static void face() {
    Set<String> names = new HashSet<>();
    for (Method m : GatedDevices.class.getDeclaredMethods()) {
      if (Modifier.isPublic(m.getModifiers())) names.add(m.getName());
      else Due.due("private: " + m, Modifier.isPrivate(m.getModifiers()) ? 1 : 0, 1);
    }
    Due.due("the methods of the face", names.equals(Set.of(FACE.split(" "))) ? 1 : 0, 1);
    for (Field f : GatedDevices.class.getDeclaredFields()) {
      boolean isPrivate = Modifier.isPrivate(f.getModifiers());
      Due.due("private: " + f, isPrivate != f.getName().equals("NONE") ? 1 : 0, 1);
    }
    Constructor<?>[] made = GatedDevices.class.getDeclaredConstructors();
    Due.due("one constructor", made.length, 1);
    Due.due("final", Modifier.isFinal(GatedDevices.class.getModifiers()) ? 1 : 0, 1);
  }

  private static void classesInside() {
    Set<String> face = Set.of(FACE.split(" "));
    Class<?>[] inside = GatedDevices.class.getDeclaredClasses();
    Due.due("at most some twelve classes", inside.length + 1 <= 12 ? 1 : 0, 1);
    List<Class<?>> all = new ArrayList<>(Arrays.asList(inside));
    all.add(GatedDevices.class);
    for (Class<?> c : all) {
      if (c != GatedDevices.class) {
        int bits = c.getModifiers();
        Due.due("private and static: " + c, Modifier.isPrivate(bits) && Modifier.isStatic(bits) ? 1 : 0, 1);
        for (Method m : c.getDeclaredMethods()) {
          Due.due("no name of the face: " + m, face.contains(m.getName()) ? 1 : 0, 0);
        }
      }
      int fields = 0;
      for (Field f : c.getDeclaredFields()) {
        boolean isStatic = Modifier.isStatic(f.getModifiers());
        Due.due("static is final: " + f, isStatic && !Modifier.isFinal(f.getModifiers()) ? 1 : 0, 0);
        if (!isStatic) fields++;
      }
      Due.due("some twenty fields: " + c, fields <= 20 ? 1 : 0, 1);
      for (Method m : c.getDeclaredMethods()) {
        Due.due("seven parameters: " + m, m.getParameterCount() <= 7 ? 1 : 0, 1);
      }
    }
  }

  /** All calls of a run share a room: an object's own part of it is told here, and calls make nothing. */
  private static void room() {
    com.sun.management.ThreadMXBean bean =
        (com.sun.management.ThreadMXBean) java.lang.management.ManagementFactory.getThreadMXBean();
    long thread = Thread.currentThread().getId();
    GatedDevices x = Due.with("bridge n root 1;device a n;device b root;stall a;span b 4 5;");
    for (int warm = 0; warm < 3; warm++) {
      long ahead = bean.getThreadAllocatedBytes(thread);
      new GatedDevices();
      long one = bean.getThreadAllocatedBytes(thread) - ahead;
      ahead = bean.getThreadAllocatedBytes(thread);
      callAll(x);
      long calls = bean.getThreadAllocatedBytes(thread) - ahead;
      if (warm == 2) {
        Due.due("an object takes less than 60,000 bytes: " + one, one < 60000 ? 1 : 0, 1);
        Due.due("calls make nothing: " + calls, calls < 2000 ? 1 : 0, 1);
      }
    }
  }

  private static void callAll(GatedDevices x) {
    x.text(0);
    x.domain(true);
    for (int d = 0; d < 2; d++) {
      x.attach(d, 0);
      x.use(d, 9, 1);
      x.use(d, 40, 2);
      x.close(d);
      x.group(d);
      x.parting(0, 1);
    }
    x.map(0, 8, 8, 3, true);
    x.unmap(0, 9);
    x.serve(true);
    x.keep();
    x.back();
    x.churn(3, 40);
    for (int what = 0; what < 21; what++) {
      x.count(what);
      x.tried(what);
      x.frame(8, what);
      x.domainOf(0, what);
      x.page(0, 8, what);
      x.gap(0, what);
      x.freeing(what);
    }
    x.flush(0);
    x.fence();
    x.work(24);
    x.detach(0);
    x.tidy(0);
    x.reach(1, 1, 1);
    x.shared(0, 0);
  }

  private static void text(String source) {
    String bare = source.replaceAll("(?s)/\\*.*?\\*/", "").replaceAll("//[^\n]*", "").replaceAll("\"[^\"\n]*\"", "\"\"");
    String[] never = {"->", "::", "\\bassert\\b", "\\bsynchronized\\b", "\\bfinally\\b", "\\bcatch\\b", "\\btry\\b",
      "\\binstanceof\\b", "\\bprotected\\b", "\"\\s*\\+", "\\+\\s*\"", "\\bSystem\\.", "Exact\\(", "\\bthis::",
      "static \\{", "\\bextends\\b", "\\bvar\\b", "\\bfloat\\b", "\\bdouble\\b", "\\bshort\\b", "/ *0\\b"};
    for (String word : never) {
      Due.due("never: " + word, Pattern.compile(word).matcher(bare).find() ? 1 : 0, 0);
    }
    Matcher imports = Pattern.compile("\\bimport\\s+([\\w.]+)").matcher(bare);
    while (imports.find()) {
      Due.due(imports.group(1), imports.group(1).equals("java.util.NoSuchElementException") ? 1 : 0, 1);
    }
    Matcher thrown = Pattern.compile("\\bthrow\\b").matcher(bare);
    int throwing = 0;
    while (thrown.find()) throwing++;
    Due.due("thrown by device() alone", throwing, 2);
    Matcher index = Pattern.compile("(\\w+)\\[([^\\]]+)\\]").matcher(bare);
    Set<String> counters = Set.of("i", "k", "k - 1", "d");
    while (index.find()) {
      boolean isNew = bare.substring(Math.max(0, index.start() - 4), index.start()).equals("new ");
      Due.due("an index that is looked at: " + index.group(), isNew || counters.contains(index.group(2)) ? 1 : 0, 1);
    }
    longMethods(source);
  }

  private static void longMethods(String source) {
    String[] lines = source.split("\n");
    int from = -1;
    String end = "";
    for (int i = 0; i < lines.length; i++) {
      Matcher head = Pattern.compile("^(  |    )\\S.*\\) (throws .*)?\\{$").matcher(lines[i]);
      if (from < 0 && head.matches()) {
        from = i;
        end = head.group(1) + "}";
      } else if (from >= 0 && lines[i].equals(end)) {
        Due.due("some sixty lines: " + lines[from], i - from <= 60 ? 1 : 0, 1);
        from = -1;
      }
    }
  }
}
