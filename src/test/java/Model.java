import java.util.ArrayDeque;
import java.util.ArrayList;
import java.util.Arrays;
import java.util.Deque;
import java.util.HashSet;
import java.util.LinkedList;
import java.util.List;
import java.util.NoSuchElementException;
import java.util.Set;
import java.util.TreeSet;
import java.util.function.ToLongFunction;

/**
 * The document told a second time, as plainly as can be and held quite otherwise than in GatedDevices:
 * tables are objects, unmappings and invalidations a history, images and trials the calls made again.
 */
public final class Model {
  // ---- the tape and the text

  private final ArrayList<Integer> tape = new ArrayList<>();
  private int faultSort = 0;
  private int faultPlace = -1;

  static final class Bridge {
    String name;
    Bridge over;
    int kind;
    int number;
  }

  static final class Device {
    String name;
    Bridge over;
    int number;
    boolean stalls;
    final List<int[]> spans = new ArrayList<>();
  }

  static final class Told {
    final List<Bridge> bridges = new ArrayList<>();
    final List<Device> devices = new ArrayList<>();
    final List<Device[]> aliases = new ArrayList<>();
    int spans = 0;
    int room = -1;
    int seed = -1;
    int lines = 0;

    Bridge bridge(String name) {
      return bridges.stream().filter(b -> b.name.equals(name)).findFirst().orElse(null);
    }

    Device device(String name) {
      return devices.stream().filter(d -> d.name.equals(name)).findFirst().orElse(null);
    }
  }

  record Token(char sort, String text, int place) {
  }

  static final class Fault extends RuntimeException {
    final int sort;
    final int place;

    Fault(int sort, int place) {
      super(null, null, false, false);
      this.sort = sort;
      this.place = place;
    }
  }

  private static final Set<String> LANGUAGE =
      Set.of("bridge", "device", "alias", "span", "stall", "room", "seed", "root");

  static List<Token> tokens(String text) {
    List<Token> tokens = new ArrayList<>();
    int i = 0;
    while (i < text.length()) {
      char sign = text.charAt(i);
      int from = i;
      if (sign == 10 || sign == 32) {
        i++;
        continue;
      }
      if (sign >= 'a' && sign <= 'z') {
        while (i < text.length() && text.charAt(i) >= 'a' && text.charAt(i) <= 'z') i++;
        String word = text.substring(from, i);
        tokens.add(new Token(LANGUAGE.contains(word) ? 'l' : word.length() <= 6 ? 'w' : '?', word, from));
      } else if (sign >= '0' && sign <= '9') {
        while (i < text.length() && text.charAt(i) >= '0' && text.charAt(i) <= '9') i++;
        tokens.add(new Token('n', text.substring(from, i), from));
      } else {
        i++;
        tokens.add(new Token(sign == ';' ? ';' : '?', "" + sign, from));
      }
    }
    tokens.add(new Token('e', "", text.length()));
    return tokens;
  }

  static Told parse(String text) {
    Told told = new Told();
    Deque<Token> rest = new ArrayDeque<>(tokens(text));
    while (rest.peek().sort != 'e') {
      Token head = rest.poll();
      if (head.sort != 'l' || head.text.equals("root")) throw new Fault(1, head.place);
      line(told, head, rest);
      take(rest, ';');
      told.lines++;
    }
    return told;
  }

  private static Token take(Deque<Token> rest, char sort) {
    Token token = rest.poll();
    if (token.sort != sort) throw new Fault(1, token.place);
    return token;
  }

  private static int number(Deque<Token> rest, int least, int most) {
    Token token = take(rest, 'n');
    java.math.BigInteger n = new java.math.BigInteger(token.text);
    if (n.compareTo(java.math.BigInteger.valueOf(least)) < 0 || n.compareTo(java.math.BigInteger.valueOf(most)) > 0) {
      throw new Fault(2, token.place);
    }
    return n.intValue();
  }

  private static Device device(Told told, Deque<Token> rest) {
    Token token = take(rest, 'w');
    Device device = told.device(token.text);
    if (device == null) throw new Fault(4, token.place);
    return device;
  }

  private static String newName(Told told, Deque<Token> rest) {
    Token token = take(rest, 'w');
    if (told.bridge(token.text) != null || told.device(token.text) != null) throw new Fault(3, token.place);
    return token.text;
  }

  private static Bridge beneath(Told told, Deque<Token> rest) {
    if (rest.peek().text.equals("root")) {
      rest.poll();
      return null;
    }
    Token token = take(rest, 'w');
    Bridge bridge = told.bridge(token.text);
    if (bridge == null) throw new Fault(4, token.place);
    return bridge;
  }

  private static void line(Told told, Token head, Deque<Token> rest) {
    switch (head.text) {
      case "bridge" -> {
        if (told.bridges.size() == 6) throw new Fault(2, head.place);
        Bridge bridge = new Bridge();
        bridge.name = newName(told, rest);
        bridge.over = beneath(told, rest);
        bridge.kind = number(rest, 0, 2);
        bridge.number = told.bridges.size();
        told.bridges.add(bridge);
      }
      case "device" -> {
        if (told.devices.size() == 8) throw new Fault(2, head.place);
        Device device = new Device();
        device.name = newName(told, rest);
        device.over = beneath(told, rest);
        device.number = told.devices.size();
        told.devices.add(device);
      }
      case "alias" -> {
        if (told.aliases.size() == 8) throw new Fault(2, head.place);
        Device one = device(told, rest);
        int place = rest.peek().place;
        Device other = device(told, rest);
        if (one == other) throw new Fault(5, place);
        told.aliases.add(new Device[] {one, other});
      }
      case "span" -> {
        if (told.spans == 6) throw new Fault(2, head.place);
        Device device = device(told, rest);
        int first = number(rest, 0, 63);
        int place = rest.peek().place;
        int last = number(rest, 0, 63);
        if (last < first) throw new Fault(5, place);
        device.spans.add(new int[] {first, last});
        told.spans++;
      }
      case "stall" -> {
        int place = rest.peek().place;
        Device device = device(told, rest);
        if (device.stalls) throw new Fault(3, place);
        device.stalls = true;
      }
      case "room" -> {
        if (told.room >= 0) throw new Fault(3, head.place);
        told.room = number(rest, 1, 16);
      }
      default -> {
        if (told.seed >= 0) throw new Fault(3, head.place);
        told.seed = number(rest, 0, 99999);
      }
    }
  }

  public int feed(int a, int b, int c, int d, int e) {
    if (tape.size() + 20 > 700) return -1;
    for (int n : new int[] {a, b, c, d, e}) {
      for (int k = 3; k >= 0; k--) tape.add((int) (((long) n & 0xffffffffL) >> 8 * k) % 256);
    }
    return tape.size();
  }

  public int text(int n) {
    if (n < 0 || n > tape.size()) return -2;
    StringBuilder text = new StringBuilder();
    for (int byteAt : tape.subList(0, n)) text.append((char) byteAt);
    tape.clear();
    try {
      told = parse(text.toString());
      faultSort = 0;
      faultPlace = -1;
    } catch (Fault fault) {
      faultSort = fault.sort;
      faultPlace = fault.place;
      return -1;
    }
    begin();
    made.clear();
    image = null;
    return told.lines;
  }

  public int fault(int what) {
    return what == 0 ? faultSort : what == 1 ? faultPlace : -1;
  }

  public int named(int what, int letters) {
    if (what == 0) {
      for (Device d : told.devices) if (Due.letters(d.name) == letters) return d.number;
    }
    if (what == 1) {
      for (Bridge b : told.bridges) if (Due.letters(b.name) == letters) return b.number;
    }
    return -1;
  }

  // ---- the calls made since the text: an image is these, made again

  private Told told = new Told();
  private List<ToLongFunction<Model>> made = new ArrayList<>();
  private List<ToLongFunction<Model>> image;

  private int made(ToLongFunction<Model> call) {
    made.add(call);
    return (int) call.applyAsLong(this);
  }

  private Model anew(List<ToLongFunction<Model>> calls) {
    Model model = new Model();
    model.told = told;
    model.begin();
    for (ToLongFunction<Model> call : calls) call.applyAsLong(model);
    return model;
  }

  public int keep() {
    image = new ArrayList<>(made);
    return domains.size();
  }

  public int back() {
    if (image == null) return -1;
    made = new ArrayList<>(image);
    begin();
    for (ToLongFunction<Model> call : image) call.applyAsLong(this);
    return domains.size();
  }

  public int domain(boolean lazy) {
    return made(m -> m.domain0(lazy));
  }

  public int map(int domain, int page, int frame, int rights, boolean block) {
    return made(m -> m.map0(domain, page, frame, rights, block));
  }

  public int unmap(int domain, int page) {
    return made(m -> m.unmap0(domain, page));
  }

  public int attach(int device, int domain) {
    return made(m -> m.attach0(device, domain));
  }

  public int detach(int device) {
    return made(m -> m.detach0(device));
  }

  public int flush(int domain) {
    return made(m -> m.flush0(domain));
  }

  public int fence() {
    return made(m -> m.fence0());
  }

  public int work(int n) {
    return made(m -> m.work0(n));
  }

  public int use(int device, int page, int right) {
    return made(m -> m.use0(device, page, right));
  }

  public int close(int device) {
    return made(m -> m.close0(device));
  }

  public int serve(boolean well) {
    return made(m -> m.serve0(well));
  }

  public int tidy(int domain) {
    return made(m -> m.tidy0(domain));
  }

  // ---- what there is

  static final class Leaf {
    int frame;
    int rights;
    boolean reserved;
  }

  /** An entry of a table is null, a Table, or a Leaf: of a page in one of level 3, of a block in one of level 2. */
  static final class Table {
    final Object[] entries = new Object[4];

    boolean empty() {
      return Arrays.stream(entries).allMatch(e -> e == null);
    }
  }

  static final class Domain {
    int number;
    boolean lazy;
    int owed;
    final Table top = new Table();
  }

  /** What happened, at its place in the history. */
  record Event(char sort, int frame, int domain, int page) {
  }

  record Queued(int sort, int domain, int number, int at) {
  }

  static final class Entry {
    int domain;
    int page;
    int frame;
    int rights;
  }

  record Request(int device, int page, int right) {
  }

  private List<Domain> domains;
  private List<Event> history;
  private LinkedList<Queued> queue;
  private LinkedList<Entry> cache;
  private List<List<Request>> open;
  private LinkedList<List<Request>> line;
  private List<int[]> causes;
  private LinkedList<int[]> records;
  private Integer[] domainBy;
  private int fences;
  private int passed;
  private int hits;
  private int walks;
  private int stales;
  private int came;
  private int taken;
  private int failed;

  public Model() {
    begin();
  }

  private void begin() {
    domains = new ArrayList<>();
    history = new ArrayList<>();
    queue = new LinkedList<>();
    cache = new LinkedList<>();
    open = new ArrayList<>();
    for (int d = 0; d < 8; d++) open.add(new ArrayList<>());
    line = new LinkedList<>();
    causes = new ArrayList<>();
    records = new LinkedList<>();
    domainBy = new Integer[8];
    fences = passed = hits = walks = stales = came = taken = failed = 0;
  }

  private int room() {
    return told.room < 0 ? 4 : told.room;
  }

  private boolean isDevice(int d) {
    return d >= 0 && d < told.devices.size();
  }

  private boolean isDomain(int d) {
    return d >= 0 && d < domains.size();
  }

  private static boolean in(int n, int least, int most) {
    return n >= least && n <= most;
  }

  // ---- groups

  private static List<Bridge> above(Device device) {
    List<Bridge> bridges = new ArrayList<>();
    for (Bridge b = device.over; b != null; b = b.over) bridges.add(b);
    return bridges;
  }

  private boolean bound(Device one, Device other, int parted) {
    for (Bridge b : above(one)) {
      if (b.kind != 0 && (parted >> b.number) % 2 == 0 && above(other).contains(b)) return true;
    }
    for (Device[] alias : told.aliases) {
      if (alias[0] == one && alias[1] == other || alias[0] == other && alias[1] == one) return true;
    }
    return false;
  }

  private TreeSet<Integer> groupOf(int device, int parted) {
    TreeSet<Integer> group = new TreeSet<>();
    Deque<Device> next = new ArrayDeque<>();
    next.add(told.devices.get(device));
    while (!next.isEmpty()) {
      Device one = next.poll();
      if (!group.add(one.number)) continue;
      for (Device other : told.devices) if (bound(one, other, parted)) next.add(other);
    }
    return group;
  }

  private TreeSet<Integer> groupOf(int device) {
    return groupOf(device, 0);
  }

  private int sign(int device) {
    int sign = device;
    for (Bridge b : above(told.devices.get(device))) if (b.kind == 2) sign = 8 + b.number;
    return sign;
  }

  public int group(int device) {
    if (!isDevice(device)) return -1;
    int bits = 0;
    for (int d : groupOf(device)) bits += 1 << d;
    return bits;
  }

  public int parting(int one, int other) {
    int set = partingSet(one, other);
    return set < 0 ? set : Integer.toBinaryString(set).replace("0", "").length();
  }

  public int partingSet(int one, int other) {
    if (!isDevice(one) || !isDevice(other) || one == other) return -1;
    for (int many = 0; many <= told.bridges.size(); many++) {
      for (int bits = 0; bits < 1 << told.bridges.size(); bits++) {
        if (Integer.bitCount(bits) == many && !groupOf(one, bits).contains(other)) return bits;
      }
    }
    return -2;
  }

  public int device(int device, int what) {
    if (!isDevice(device)) throw new IndexOutOfBoundsException();
    Device told = this.told.devices.get(device);
    switch (what) {
      case 0: return groupOf(device).first();
      case 1: return groupOf(device).size();
      case 2: return domainBy[device] == null ? -2 : domainBy[device];
      case 3: return sign(device);
      case 4: return told.stalls ? 1 : 0;
      case 5: return open.get(device).size();
      case 6: return (int) line.stream().filter(b -> b.get(0).device == device).count();
      case 7: return above(told).size();
      default: throw new NoSuchElementException();
    }
  }

  // ---- tables

  private Table second(int domain, int page) {
    return (Table) domains.get(domain).top.entries[page / 16];
  }

  private Object under(int domain, int page) {
    Table second = second(domain, page);
    return second == null ? null : second.entries[page / 4 % 4];
  }

  /** What is mapped at a page: as of the page alone, in a block too. */
  private Leaf leaf(int domain, int page) {
    Object entry = under(domain, page);
    if (entry instanceof Table third) return (Leaf) third.entries[page % 4];
    if (entry instanceof Leaf block) {
      Leaf leaf = new Leaf();
      leaf.frame = block.frame + page % 4;
      leaf.rights = block.rights;
      return leaf;
    }
    return null;
  }

  private int level(int domain, int page) {
    return second(domain, page) == null ? 1 : under(domain, page) instanceof Table ? 3 : 2;
  }

  private Table makeSecond(int domain, int page) {
    Table top = domains.get(domain).top;
    if (top.entries[page / 16] == null) top.entries[page / 16] = new Table();
    return (Table) top.entries[page / 16];
  }

  private void enter(int domain, int page, int frame, int rights, boolean reserved) {
    Table second = makeSecond(domain, page);
    if (second.entries[page / 4 % 4] == null) second.entries[page / 4 % 4] = new Table();
    Leaf leaf = new Leaf();
    leaf.frame = frame;
    leaf.rights = rights;
    leaf.reserved = reserved;
    ((Table) second.entries[page / 4 % 4]).entries[page % 4] = leaf;
    history.add(new Event('m', frame, domain, page));
  }

  private void leave(int domain, int page) {
    Leaf was = leaf(domain, page);
    Table second = second(domain, page);
    if (second.entries[page / 4 % 4] instanceof Leaf) {
      Table third = new Table();
      int first = page / 4 * 4;
      for (int k = 0; k < 4; k++) third.entries[k] = leaf(domain, first + k);
      second.entries[page / 4 % 4] = third;
    }
    Table third = (Table) second.entries[page / 4 % 4];
    third.entries[page % 4] = null;
    if (third.empty()) second.entries[page / 4 % 4] = null;
    if (second.empty()) domains.get(domain).top.entries[page / 16] = null;
    history.add(new Event('u', was.frame, domain, page));
  }

  private static int tablesIn(Table table) {
    int many = 1;
    for (Object entry : table.entries) if (entry instanceof Table t) many += tablesIn(t);
    return many;
  }

  private int tables(int domain) {
    return tablesIn(domains.get(domain).top);
  }

  private int uses(int frame) {
    int many = 0;
    for (int d = 0; d < domains.size(); d++) {
      for (int p = 0; p < 64; p++) if (leaf(d, p) != null && leaf(d, p).frame == frame) many++;
    }
    return many;
  }

  /** 0 FREE, 1 USED, 2 HELD: by the history. */
  private int state(int frame) {
    if (uses(frame) > 0) return 1;
    return lastFree(frame) == history.size() ? 0 : 2;
  }

  /** Where in the history the frame was FREE last: behind it something was done to it. */
  private int lastFree(int frame) {
    int free = 0;
    boolean touched = false;
    for (int i = 0; i < history.size(); i++) {
      Event e = history.get(i);
      if (e.frame != frame) continue;
      if (e.sort == 'f') {
        free = i + 1;
        touched = false;
      } else if (e.sort == 'm' || e.sort == 'u') {
        touched = true;
      }
    }
    return touched ? free : history.size();
  }

  /** Whether a fence that came at a place of the history frees a frame, as it is now. */
  private boolean frees(int frame, int fenceAt) {
    if (state(frame) != 2) return false;
    for (int i = lastFree(frame); i < history.size(); i++) {
      Event u = history.get(i);
      if (u.sort != 'u' || u.frame != frame) continue;
      boolean covered = false;
      for (int k = i + 1; k < fenceAt; k++) {
        Event e = history.get(k);
        covered |= e.sort == 'i' && e.domain == u.domain && (e.page == -1 || e.page == u.page);
      }
      if (!covered) return false;
    }
    return true;
  }

  // ---- the queue

  private void invalidate(int domain, int page) {
    history.add(new Event('i', -1, domain, page));
    queue.add(new Queued(page < 0 ? 1 : 0, domain, page < 0 ? -2 : page, history.size()));
  }

  private int addFence() {
    fences++;
    history.add(new Event('n', -1, -1, fences));
    queue.add(new Queued(2, -2, fences, history.size()));
    return fences;
  }

  private int doFlush(int domain) {
    invalidate(domain, -1);
    domains.get(domain).owed = 0;
    return addFence();
  }

  private void step() {
    Queued first = queue.removeFirst();
    if (first.sort == 2) {
      passed++;
      List<Integer> freed = new ArrayList<>();
      for (int f = 0; f < 64; f++) if (frees(f, first.at)) freed.add(f);
      for (int f : freed) history.add(new Event('f', f, -1, -1));
    } else {
      cache.removeIf(e -> e.domain == first.domain && (first.sort == 1 || e.page == first.number));
    }
  }

  // ---- looks

  private boolean stale(Entry entry, int right) {
    Leaf leaf = leaf(entry.domain, entry.page);
    return leaf == null || leaf.frame != entry.frame || (leaf.rights & right) == 0;
  }

  private boolean stale(Entry entry) {
    return (entry.rights & 1) != 0 && stale(entry, 1) || (entry.rights & 2) != 0 && stale(entry, 2);
  }

  /** The frame, or -1: a fault. */
  private int look(int domain, int page, int right) {
    Entry of = null;
    for (Entry e : cache) if (e.domain == domain && e.page == page) of = e;
    if (of != null && (of.rights & right) != 0) {
      hits++;
      if (stale(of, right)) stales++;
      cache.remove(of);
      cache.add(of);
      return of.frame;
    }
    walks++;
    Leaf leaf = leaf(domain, page);
    if (leaf == null || (leaf.rights & right) == 0) return -1;
    if (of != null) cache.remove(of);
    while (cache.size() >= room()) cache.removeFirst();
    Entry entry = new Entry();
    entry.domain = domain;
    entry.page = page;
    entry.frame = leaf.frame;
    entry.rights = leaf.rights;
    cache.add(entry);
    return leaf.frame;
  }

  private int waiting() {
    return open.stream().mapToInt(List::size).sum() + line.stream().mapToInt(List::size).sum();
  }

  private int because(int answer, int... row) {
    causes = new ArrayList<>();
    for (int k = 0; k < row.length; k += 2) causes.add(new int[] {row[k], row[k + 1]});
    return answer;
  }

  // ---- calls that change

  private int domain0(boolean lazy) {
    if (domains.size() == 4) return -1;
    Domain domain = new Domain();
    domain.number = domains.size();
    domain.lazy = lazy;
    domains.add(domain);
    return domain.number;
  }

  private int map0(int domain, int page, int frame, int rights, boolean block) {
    if (!isDomain(domain) || !in(page, 0, 63) || !in(frame, 0, 63) || !in(rights, 1, 3)) return -1;
    if (block && (page % 4 > 0 || frame % 4 > 0)) return -1;
    int n = block ? 4 : 1;
    for (int k = 0; k < n; k++) if (leaf(domain, page + k) != null) return because(-2, 1, page + k);
    for (int k = 0; k < n; k++) if (state(frame + k) == 2) return because(-2, 2, frame + k);
    if (block) {
      Leaf leaf = new Leaf();
      leaf.frame = frame;
      leaf.rights = rights;
      makeSecond(domain, page).entries[page / 4 % 4] = leaf;
      for (int k = 0; k < 4; k++) history.add(new Event('m', frame + k, domain, page + k));
    } else {
      enter(domain, page, frame, rights, false);
    }
    return tables(domain);
  }

  private int unmap0(int domain, int page) {
    if (!isDomain(domain) || !in(page, 0, 63)) return -1;
    if (leaf(domain, page) == null) return because(-2, 7, level(domain, page));
    if (leaf(domain, page).reserved) return because(-2, 3, page);
    if (queue.size() > 22) return because(-2, 6, queue.size());
    leave(domain, page);
    Domain d = domains.get(domain);
    if (!d.lazy) {
      invalidate(domain, page);
    } else {
      d.owed++;
      if (d.owed == 4) doFlush(domain);
    }
    return tables(domain);
  }

  private int attach0(int device, int domain) {
    if (!isDevice(device) || !isDomain(domain)) return -1;
    TreeSet<Integer> group = groupOf(device);
    if (domainBy[device] != null) return because(-2, 9, group.first());
    List<Integer> news = new ArrayList<>();
    for (int d : group) {
      for (int[] span : told.devices.get(d).spans) {
        for (int page = span[0]; page <= span[1]; page++) {
          Leaf leaf = leaf(domain, page);
          boolean so = leaf != null && leaf.frame == page && leaf.rights == 3 && leaf.reserved;
          if (leaf != null && !so) return because(-2, 5, device, 4, d, 1, page);
          if (state(page) == 2) return because(-2, 5, device, 4, d, 2, page);
          if (leaf == null && !news.contains(page)) news.add(page);
        }
      }
    }
    for (int page : news) enter(domain, page, page, 3, true);
    for (int d : group) domainBy[d] = domain;
    return news.size();
  }

  private Set<Integer> spanned(Set<Integer> devices) {
    Set<Integer> pages = new TreeSet<>();
    for (int d : devices) {
      for (int[] span : told.devices.get(d).spans) for (int p = span[0]; p <= span[1]; p++) pages.add(p);
    }
    return pages;
  }

  private int detach0(int device) {
    if (!isDevice(device)) return -1;
    TreeSet<Integer> group = groupOf(device);
    if (domainBy[device] == null) return because(-2, 9, group.first());
    if (queue.size() > 22) return because(-2, 6, queue.size());
    int domain = domainBy[device];
    for (int d : group) {
      failed += open.get(d).size();
      open.get(d).clear();
      for (List<Request> batch : new ArrayList<>(line)) {
        if (batch.get(0).device == d) {
          failed += batch.size();
          line.remove(batch);
        }
      }
      domainBy[d] = null;
    }
    Set<Integer> others = new HashSet<>();
    for (Device d : told.devices) if (domainBy[d.number] != null && domainBy[d.number] == domain) others.add(d.number);
    Set<Integer> pages = spanned(group);
    pages.removeAll(spanned(others));
    for (int page : pages) leave(domain, page);
    return doFlush(domain);
  }

  private int flush0(int domain) {
    if (!isDomain(domain)) return -1;
    return queue.size() > 22 ? because(-2, 6, queue.size()) : doFlush(domain);
  }

  private int fence0() {
    return queue.size() == 24 ? -1 : addFence();
  }

  private int work0(int n) {
    if (!in(n, 0, 24)) return -1;
    int done = 0;
    while (done < n && !queue.isEmpty()) {
      step();
      done++;
    }
    return done;
  }

  private int use0(int device, int page, int right) {
    if (!isDevice(device) || !in(page, 0, 63) || !in(right, 1, 2)) return -1;
    if (domainBy[device] == null) {
      record(device, page, right, 9);
      return because(-2, 10, device, 9, groupOf(device).first());
    }
    int domain = domainBy[device];
    int frame = look(domain, page, right);
    if (frame >= 0) return frame;
    int why = leaf(domain, page) == null ? 7 : 8;
    int about = why == 7 ? level(domain, page) : page;
    record(device, page, right, why);
    if (!told.devices.get(device).stalls) return because(-2, 10, device, why, about);
    if (waiting() < 8) {
      open.get(device).add(new Request(device, page, right));
      came++;
      return because(-3, 10, device, why, about);
    }
    failed += open.get(device).size();
    open.get(device).clear();
    return because(-4, 11, device, 10, device, why, about);
  }

  private void record(int device, int page, int right, int why) {
    records.addFirst(new int[] {sign(device), page, right, why});
    if (records.size() > 8) records.removeLast();
  }

  private int close0(int device) {
    if (!isDevice(device)) return -1;
    List<Request> batch = new ArrayList<>(open.get(device));
    if (batch.isEmpty()) return -2;
    open.get(device).clear();
    line.add(batch);
    return batch.size();
  }

  private int serve0(boolean well) {
    if (line.isEmpty()) return -2;
    int some = 0;
    for (Request r : line.removeFirst()) {
      if (well && look(domainBy[r.device], r.page, r.right) >= 0) some++;
      else failed++;
    }
    taken += some;
    return some;
  }

  private int tidy0(int domain) {
    if (!isDomain(domain)) return -1;
    int made = 0;
    for (int first = 0; first < 64; first += 4) {
      if (!(under(domain, first) instanceof Table)) continue;
      boolean fit = true;
      Leaf low = leaf(domain, first);
      for (int k = 0; k < 4 && fit; k++) {
        Leaf leaf = leaf(domain, first + k);
        fit = leaf != null && low != null && !leaf.reserved && leaf.frame == low.frame + k && leaf.rights == low.rights;
      }
      if (!fit || low.frame % 4 != 0) continue;
      Leaf block = new Leaf();
      block.frame = low.frame;
      block.rights = low.rights;
      second(domain, first).entries[first / 4 % 4] = block;
      made++;
    }
    return made;
  }

  // ---- calls that only ask

  public int cause(int k) {
    return k < 0 ? -1 : k < causes.size() ? causes.get(k)[0] : -2;
  }

  public int about(int k) {
    return k < 0 ? -1 : k < causes.size() ? causes.get(k)[1] : -2;
  }

  public int page(int domain, int page, int what) {
    if (!isDomain(domain) || !in(page, 0, 63) || !in(what, 0, 4)) return -1;
    if (what == 4) return level(domain, page);
    Leaf leaf = leaf(domain, page);
    if (leaf == null) return -2;
    return what == 0 ? leaf.frame : what == 1 ? leaf.rights : what == 2 ? (leaf.reserved ? 1 : 0)
        : under(domain, page) instanceof Leaf ? 1 : 0;
  }

  public int domainOf(int domain, int what) {
    if (!isDomain(domain)) return -1;
    int pages = 0;
    int reserved = 0;
    int blocks = 0;
    for (int p = 0; p < 64; p++) {
      Leaf leaf = leaf(domain, p);
      if (leaf == null) continue;
      pages++;
      if (leaf.reserved) reserved++;
      if (p % 4 == 0 && under(domain, p) instanceof Leaf) blocks++;
    }
    Set<Set<Integer>> groups = new HashSet<>();
    for (Device d : told.devices) {
      if (domainBy[d.number] != null && domainBy[d.number] == domain) groups.add(groupOf(d.number));
    }
    switch (what) {
      case 0: return tables(domain);
      case 1: return pages;
      case 2: return blocks;
      case 3: return domains.get(domain).owed;
      case 4: return reserved;
      case 5: return domains.get(domain).lazy ? 1 : 0;
      case 6: return groups.size();
      default: return -1;
    }
  }

  public int frame(int frame, int what) {
    if (!in(frame, 0, 63)) return -1;
    switch (what) {
      case 0: return state(frame);
      case 1: return uses(frame);
      case 2: return (int) cache.stream().filter(e -> e.frame == frame).count();
      case 3: return (int) cache.stream().filter(e -> e.frame == frame && stale(e)).count();
      default: return -1;
    }
  }

  public long reach(int device, int right, int what) {
    if (!isDevice(device) || !in(right, 1, 2) || !in(what, 0, 2) || domainBy[device] == null) return 0;
    int domain = domainBy[device];
    Set<Integer> frames = new HashSet<>();
    if (what == 0) {
      for (int p = 0; p < 64; p++) {
        Leaf leaf = leaf(domain, p);
        if (leaf != null && (leaf.rights & right) != 0) frames.add(leaf.frame);
      }
    } else {
      for (Entry e : cache) {
        if (e.domain == domain && (e.rights & right) != 0 && (what == 1 || stale(e, right))) frames.add(e.frame);
      }
    }
    return frames.stream().mapToLong(f -> 1L << f).sum();
  }

  public long shared(int one, int other) {
    if (!isDomain(one) || !isDomain(other)) return 0;
    long bits = 0;
    for (int f = 0; f < 64; f++) {
      boolean inOne = false;
      boolean inOther = false;
      for (int p = 0; p < 64; p++) {
        inOne |= leaf(one, p) != null && leaf(one, p).frame == f;
        inOther |= leaf(other, p) != null && leaf(other, p).frame == f;
      }
      if (inOne && inOther) bits |= 1L << f;
    }
    return bits;
  }

  public int gap(int domain, int n) {
    if (!isDomain(domain) || !in(n, 1, 64)) return -1;
    for (int p = 0; p + n <= 64; p++) {
      boolean free = true;
      for (int k = 0; k < n; k++) free &= leaf(domain, p + k) == null;
      if (free) return p;
    }
    return -2;
  }

  public int queued(int k, int what) {
    if (k < 0 || k >= queue.size() || !in(what, 0, 2)) return -1;
    Queued q = queue.get(k);
    return what == 0 ? q.sort : what == 1 ? q.domain : q.number;
  }

  public int cached(int k, int what) {
    if (k < 0 || k >= cache.size() || !in(what, 0, 4)) return -1;
    Entry e = cache.get(k);
    return new int[] {e.domain, e.page, e.frame, e.rights, stale(e) ? 1 : 0}[what];
  }

  public int record(int k, int what) {
    if (k < 0 || k >= records.size() || !in(what, 0, 3)) return -1;
    return records.get(k)[what];
  }

  public int freeing(int frame) {
    if (!in(frame, 0, 63)) return -1;
    if (state(frame) == 0) return 0;
    if (state(frame) == 1) return -2;
    Model trial = anew(made);
    int steps = 0;
    while (trial.state(frame) != 0) {
      if (trial.queue.isEmpty()) return -2;
      trial.step();
      steps++;
    }
    return steps;
  }

  public int tried(int what) {
    if (!in(what, 0, 3)) return -1;
    Model trial = anew(made);
    switch (what) {
      case 0:
        for (Domain d : trial.domains) if (d.owed > 0) trial.doFlush(d.number);
        while (!trial.queue.isEmpty()) trial.step();
        return trial.count(16);
      case 1:
        while (!trial.queue.isEmpty()) trial.step();
        return trial.cache.size();
      case 2:
        while (!trial.line.isEmpty()) trial.serve0(true);
        return trial.taken - taken;
      default:
        for (Domain d : trial.domains) trial.tidy0(d.number);
        return trial.count(19);
    }
  }

  public int churn(int seed, int n) {
    if (seed < -1 || !in(n, 1, 40)) return -1;
    if (told.devices.isEmpty()) return -2;
    Model trial = anew(made);
    long[] last = {seed >= 0 ? seed : Math.max(told.seed, 0)};
    for (int k = 0; k < n; k++) {
      int device = drawn(last) % told.devices.size();
      int page = drawn(last) % 64;
      int right = 1 + drawn(last) % 2;
      if (domainBy[device] != null) trial.look(domainBy[device], page, right);
    }
    return trial.hits - hits;
  }

  private static int drawn(long[] last) {
    last[0] = (last[0] * 1103515245L + 12345L) % (1L << 31);
    return (int) (last[0] / 65536);
  }

  public int count(int what) {
    int[] states = new int[3];
    for (int f = 0; f < 64; f++) states[state(f)]++;
    Set<Set<Integer>> groups = new HashSet<>();
    for (Device d : told.devices) groups.add(groupOf(d.number));
    int tables = 0;
    for (Domain d : domains) tables += tables(d.number);
    int[] counts = {told.devices.size(), told.bridges.size(), groups.size(), domains.size(), queue.size(), fences,
      passed, cache.size(), hits, walks, stales, waiting(), came, taken, failed, line.size(), states[0], states[1],
      states[2], tables, records.size()};
    return in(what, 0, counts.length - 1) ? counts[what] : -1;
  }
}
