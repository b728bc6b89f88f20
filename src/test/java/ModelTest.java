import java.lang.reflect.InvocationTargetException;
import java.lang.reflect.Method;
import java.lang.reflect.Modifier;
import java.util.ArrayList;
import java.util.Arrays;
import java.util.Comparator;
import java.util.List;
import java.util.Random;

/** Long runs of calls by chance, each answered by GatedDevices and by the Model alike. */
public final class ModelTest {
  private static final int RUNS = 1500;
  private static final int CALLS = 512;

  private final Random random;
  private final GatedDevices x = new GatedDevices();
  private final Model model = new Model();
  private final List<String> calls = new ArrayList<>();
  private int devices = 0;
  private int base = 0;

  private ModelTest(long seed) {
    random = new Random(seed);
  }

  public static void main(String[] args) throws Exception {
    long first = args.length > 0 ? Long.parseLong(args[0]) : 1;
    long runs = args.length > 1 ? Long.parseLong(args[1]) : RUNS;
    for (long seed = first; seed < first + runs && Due.allWell(); seed++) {
      ModelTest run = new ModelTest(seed);
      run.run();
      new ModelTest(-seed).texts();
      if (!Due.allWell()) {
        System.out.println("seed " + seed + ": " + String.join("\n  ", run.calls));
      }
    }
    Due.end("ModelTest");
  }

  private static final Method[] FACE = Arrays.stream(GatedDevices.class.getDeclaredMethods())
      .filter(m -> Modifier.isPublic(m.getModifiers()))
      .sorted(Comparator.comparing(Method::getName)).toArray(Method[]::new);

  private void run() throws Exception {
    int made = 0;
    if (random.nextInt(10) > 0) made += text(false);
    int wanted = 1 + random.nextInt(4);
    for (int k = 0; k < wanted; k++) made += call("domain", random.nextBoolean());
    // Some runs work their queue seldom, that it may be full.
    int haste = 1 + random.nextInt(6);
    while (made < CALLS && Due.allWell()) {
      base = random.nextInt(8) == 0 ? random.nextInt(64) : base;
      int dice = random.nextInt(100);
      if (dice < 1 && random.nextInt(3) == 0) made += text(random.nextInt(3) > 0);
      else if (dice < 60) made += change(haste);
      else made += ask();
    }
  }

  /** Texts, most of them spoilt: each must have the same first fault. */
  private void texts() throws Exception {
    for (int k = 0; k < 10 && Due.allWell(); k++) {
      text(k > 0);
      if (!Due.allWell()) System.out.println(calls.get(calls.size() - 1));
    }
  }

  private int change(int haste) throws Exception {
    switch (random.nextInt(24)) {
      case 0: case 1: case 2: return call("map", domain(), page(), page(), 1 + random.nextInt(3), false);
      case 3: return call("map", domain(), page() / 4 * 4, page() / 4 * 4, 1 + random.nextInt(3), true);
      case 4: return mapRow();
      case 5: case 6: case 7: return call("unmap", domain(), page());
      case 8: case 9: return call("attach", device(), domain());
      case 10: return random.nextBoolean() ? call("detach", device()) : 0;
      case 11: return random.nextBoolean() ? call("flush", domain()) : call("fence");
      case 12: return random.nextInt(haste) == 0 ? call("work", random.nextInt(6)) : 0;
      case 13: return random.nextInt(haste) == 0 ? call("work", random.nextInt(25)) : 0;
      case 14: case 15: case 16: case 17: case 18: return call("use", device(), page(), 1 + random.nextInt(2));
      case 19: return call("close", device());
      case 20: return call("serve", random.nextInt(4) > 0);
      case 21: return call("tidy", domain());
      case 22: return random.nextInt(4) == 0 ? call("domain", random.nextBoolean()) : 0;
      default: return random.nextInt(4) > 0 ? 0 : random.nextBoolean() ? call("keep") : call("back");
    }
  }

  /** Four pages in a row to four frames in a row, that tidy() may find them. */
  private int mapRow() throws Exception {
    int domain = domain();
    int page = Math.floorMod(page(), 64) / 4 * 4;
    int frame = Math.floorMod(page(), 64) / 4 * 4;
    int made = 0;
    for (int k = 0; k < 4; k++) made += call("map", domain, page + k, frame + k, 3, false);
    return made;
  }

  private int ask() throws Exception {
    Method method = FACE[random.nextInt(FACE.length)];
    switch (method.getName()) {
      case "feed": case "text": case "domain": case "map": case "unmap": case "attach": case "detach": case "flush":
      case "fence": case "work": case "use": case "close": case "serve": case "tidy": case "keep": case "back":
        return 0;
      default:
    }
    Object[] args = new Object[method.getParameterCount()];
    for (int k = 0; k < args.length; k++) args[k] = argument(method.getName(), k);
    return call(method.getName(), args);
  }

  private Object argument(String name, int k) {
    if (random.nextInt(60) == 0) return wild();
    switch (name + k) {
      case "fault0": case "named0": return random.nextInt(4) - 1;
      case "named1": return Due.letters(name());
      case "cause0": case "about0": return random.nextInt(5) - 1;
      case "device0": case "group0": case "parting0": case "parting1": case "partingSet0": case "partingSet1":
      case "reach0": return device();
      case "device1": return random.nextInt(9);
      case "page0": case "domainOf0": case "shared0": case "shared1": case "gap0": return domain();
      case "page1": case "frame0": case "freeing0": return page();
      case "page2": case "frame1": return random.nextInt(5);
      case "domainOf1": return random.nextInt(8);
      case "reach1": return 1 + random.nextInt(2);
      case "reach2": case "queued1": return random.nextInt(3);
      case "gap1": return random.nextInt(3) > 0 ? random.nextInt(12) : random.nextInt(66);
      case "queued0": return random.nextInt(12);
      case "cached0": return random.nextInt(6);
      case "cached1": return random.nextInt(6);
      case "record0": return random.nextInt(9);
      case "record1": return random.nextInt(5);
      case "tried0": return random.nextInt(5);
      case "churn0": return random.nextInt(3) == 0 ? -1 : random.nextInt() & 0x7fffffff;
      case "churn1": return random.nextInt(42);
      case "count0": return random.nextInt(22);
      default: return random.nextInt(10);
    }
  }

  private int wild() {
    int[] some = {Integer.MIN_VALUE, Integer.MAX_VALUE, -1, -2, 4, 8, 24, 25, 63, 64, 65, 700, random.nextInt()};
    return some[random.nextInt(some.length)];
  }

  private int device() {
    return random.nextInt(40) == 0 ? wild() : random.nextInt(Math.max(devices, 1));
  }

  private int domain() {
    return random.nextInt(40) == 0 ? wild() : random.nextInt(random.nextInt(3) == 0 ? 4 : 2);
  }

  /** Mostly one of a few, that calls meet. */
  private int page() {
    if (random.nextInt(50) == 0) return wild();
    return random.nextInt(4) == 0 ? random.nextInt(64) : Math.min(base / 8 * 8 + random.nextInt(8), 63);
  }

  private String name() {
    return "" + (char) ('a' + random.nextInt(14)) + (random.nextInt(30) == 0 ? "bcdef" : "");
  }

  private int text(boolean badly) throws Exception {
    String text = spoil(told(), badly);
    int[] n = Due.numbers(text);
    int made = 0;
    for (int i = 0; i < n.length; i += 5) made += call("feed", n[i], n[i + 1], n[i + 2], n[i + 3], n[i + 4]);
    made += call("text", random.nextInt(20) == 0 ? wild() : random.nextInt(20) == 0 ? 0 : text.length());
    made += call("fault", 0) + call("fault", 1);
    calls.add("text was: " + text);
    devices = x.count(0);
    return made;
  }

  private String told() {
    StringBuilder text = new StringBuilder();
    String bridges = "nopqrs".substring(0, random.nextInt(7));
    String devs = "abcdefgh".substring(0, random.nextInt(20) == 0 ? 0 : 1 + random.nextInt(8));
    int parts = random.nextInt(3);
    for (int k = 0; k < bridges.length(); k++) {
      text.append("bridge ").append(bridges.charAt(k)).append(' ').append(under(bridges.substring(0, k)));
      text.append(' ').append(random.nextInt(3) < parts ? 0 : random.nextInt(3)).append(';');
    }
    for (char d : devs.toCharArray()) {
      text.append("device ").append(d).append(' ').append(under(bridges)).append(';');
      if (random.nextBoolean()) text.append("stall ").append(d).append(";\n");
    }
    for (int k = random.nextInt(4); k > 0 && devs.length() > 1; k--) {
      int one = random.nextInt(devs.length());
      int other = (one + 1 + random.nextInt(devs.length() - 1)) % devs.length();
      text.append("alias ").append(devs.charAt(one)).append(' ').append(devs.charAt(other)).append(';');
    }
    for (int k = random.nextInt(7); k > 0 && devs.length() > 0; k--) {
      int first = random.nextInt(60);
      text.append("span ").append(devs.charAt(random.nextInt(devs.length()))).append(' ').append(first).append(' ');
      text.append(first + random.nextInt(4)).append(';');
    }
    if (random.nextBoolean()) text.append("room ").append(1 + random.nextInt(16)).append(';');
    if (random.nextBoolean()) text.append("seed ").append(random.nextInt(100000)).append(';');
    return text.length() > 700 ? text.substring(0, text.lastIndexOf(";", 699) + 1) : text.toString();
  }

  private String under(String bridges) {
    int k = random.nextInt(bridges.length() + 1);
    return k == bridges.length() ? "root" : "" + bridges.charAt(k);
  }

  /** A few pieces of the text out, doubled, or put in from elsewhere. */
  private String spoil(String text, boolean badly) {
    if (!badly) return text;
    String[] pieces = {"bridge ", "device ", "alias ", "span ", "stall ", "room ", "seed ", "root ", ";", "a ", "b ",
      "n ", "0 ", "63 ", "64 ", "99999999999 ", "17 ", "abcdefg ", "abcdef ", "A", "\t", "\n", "\u00ff", "007", "zz "};
    StringBuilder spoilt = new StringBuilder(text);
    for (int k = random.nextInt(3); k >= 0; k--) {
      int at = random.nextInt(spoilt.length() + 1);
      int way = random.nextInt(3);
      if (way == 0) spoilt.insert(at, pieces[random.nextInt(pieces.length)]);
      else if (way == 1) spoilt.delete(at, Math.min(at + 1 + random.nextInt(8), spoilt.length()));
      else spoilt.append(spoilt.substring(at, Math.min(at + random.nextInt(20), spoilt.length())));
    }
    return spoilt.length() > 700 ? spoilt.substring(0, 700) : spoilt.toString();
  }

  private int call(String name, Object... args) throws Exception {
    long want = answer(Model.class, model, name, args);
    long got = answer(GatedDevices.class, x, name, args);
    calls.add(name + Arrays.toString(args) + " = " + want);
    Due.due(name + Arrays.toString(args), got, want);
    return 1;
  }

  /** The answer, or a number that no call answers for an exception's kind. */
  private static long answer(Class<?> of, Object object, String name, Object[] args) throws Exception {
    for (Method method : of.getDeclaredMethods()) {
      if (!method.getName().equals(name) || !Modifier.isPublic(method.getModifiers())) continue;
      try {
        return ((Number) method.invoke(object, args)).longValue();
      } catch (InvocationTargetException e) {
        String kind = e.getCause().getClass().getSimpleName();
        if (kind.equals("IndexOutOfBoundsException")) return -1000001;
        if (kind.equals("NoSuchElementException")) return -1000002;
        throw e;
      }
    }
    throw new IllegalStateException("no method " + name);
  }
}
