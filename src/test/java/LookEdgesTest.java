/** The edges that the document names of LOOKS, the CACHE and promises 14, 27, 31, 32, 35: one test for each sentence. */
public final class LookEdgesTest {
  private static final int[] NO_DEVICE = {-1, 3, 8, Integer.MAX_VALUE, Integer.MIN_VALUE};
  private static final int[] NO_PAGE = {-1, 64, Integer.MAX_VALUE, Integer.MIN_VALUE};
  private static final int[] NO_RIGHT = {-1, 0, 3, 4, Integer.MAX_VALUE, Integer.MIN_VALUE};

  public static void main(String[] args) {
    use();
    hits();
    walks();
    whichGoes();
    stale();
    reach();
    reachOfNone();
    cached();
    records();
    draws();
    drawsWithoutDomain();
    churnNot();
    Due.end("LookEdgesTest");
  }

  /** a and b are a group and have domain 0; c stalls and has none. */
  private static GatedDevices three(String more) {
    GatedDevices x = Due.with("bridge h root 2;device a h;device b root;device c root;alias a b;stall c;" + more);
    x.domain(false);
    x.domain(false);
    x.attach(1, 0);
    return x;
  }

  private static void counts(GatedDevices x, int hits, int walks, int stales) {
    Due.due("HITS", x.count(8), hits);
    Due.due("WALKS", x.count(9), walks);
    Due.due("STALE HITS", x.count(10), stales);
  }

  private static void entries(GatedDevices x, int... pages) {
    Due.due("entries", x.count(7), pages.length);
    for (int k = 0; k < pages.length; k++) Due.due("entry " + k, x.cached(k, 1), pages[k]);
    Due.due("no entry behind them", x.cached(pages.length, 1), -1);
  }

  // ---- promise 14

  private static void use() {
    GatedDevices x = three("");
    Due.edge(14, "use of a PAGE for a right 1, 2: the FRAME");
    x.map(0, 0, 63, 3, false);
    x.map(0, 63, 0, 3, false);
    for (int right = 1; right <= 2; right++) {
      Due.due("PAGE 0", x.use(0, 0, right), 63);
      Due.due("PAGE 63", x.use(1, 63, right), 0);
    }
    Due.edge(14, "8 the right isn't there (the PAGE)");
    x.map(0, 5, 5, 1, false);
    x.map(0, 6, 6, 2, false);
    Due.due("1 of 1", x.use(0, 5, 1), 5);
    Due.due("2 of 1", x.use(0, 5, 2), -2);
    Due.due("1 of 2", x.use(0, 6, 1), -2);
    Due.due("2 of 2", x.use(0, 6, 2), 6);
    Due.edge(14, "Who FAULTS and doesn't STALL");
    Due.due("a doesn't", x.use(0, 7, 1), -2);
    Due.due("no REQUEST", x.count(12), 0);
    Due.edge(14, "or has no DOMAIN, is refused");
    Due.due("c has none, though it STALLS", x.use(2, 0, 1), -2);
    Due.causes("no DOMAIN", x, 10, 2, 9, 2);
    Due.due("no REQUEST", x.count(12), 0);
    counts(x, 2, 7, 0);
    x.attach(2, 1);
    Due.due("it has one: a REQUEST", x.use(2, 0, 1), -3);
    Due.edge(14, "NONE: no such ones");
    GatedDevices y = three("");
    for (int d : NO_DEVICE) Due.due("DEVICE " + d, y.use(d, 0, 1), -1);
    for (int page : NO_PAGE) Due.due("PAGE " + page, y.use(0, page, 1), -1);
    for (int right : NO_RIGHT) Due.due("right " + right, y.use(0, 0, right), -1);
    Due.due("of one without a DOMAIN", y.use(2, 64, 1), -1);
    counts(y, 0, 0, 0);
    Due.due("no RECORDS", y.count(20), 0);
    Due.causes("no CAUSES", y);
    Due.due("of none", new GatedDevices().use(0, 0, 1), -1);
  }

  private static void hits() {
    Due.edge(14, "if the CACHE has an entry of that PAGE with the right: a HIT, it is the latest used");
    GatedDevices x = three("");
    x.map(0, 0, 0, 3, true);
    for (int page = 0; page < 3; page++) x.use(0, page, 1);
    counts(x, 0, 3, 0);
    entries(x, 0, 1, 2);
    Due.due("the first one", x.use(0, 0, 2), 0);
    entries(x, 1, 2, 0);
    x.use(1, 2, 1);
    entries(x, 1, 0, 2);
    x.use(0, 2, 1);
    entries(x, 1, 0, 2);
    counts(x, 3, 3, 0);
    Due.edge(14, "its GROUP's DOMAIN");
    x.attach(2, 1);
    x.map(1, 0, 9, 1, false);
    Due.due("an entry of another DOMAIN is none", x.use(2, 0, 1), 9);
    counts(x, 3, 4, 0);
    entries(x, 1, 0, 2, 0);
    Due.due("none of the other's is touched", x.use(0, 0, 1), 0);
    counts(x, 4, 4, 0);
    Due.edge(14, "an entry of that PAGE with the right");
    GatedDevices y = three("");
    y.map(0, 0, 0, 1, false);
    y.use(0, 0, 1);
    y.unmap(0, 0);
    y.map(0, 0, 1, 2, false);
    Due.due("an entry without the right is none", y.use(0, 0, 2), 1);
    counts(y, 0, 2, 0);
    Due.due("the other right is gone with it", y.use(0, 0, 1), -2);
    counts(y, 0, 3, 0);
  }

  private static void walks() {
    Due.edge(14, "else a WALK (counted, whatever comes of it)");
    GatedDevices x = three("");
    x.map(0, 0, 0, 1, false);
    x.use(0, 0, 1);
    counts(x, 0, 1, 0);
    x.use(0, 1, 1);
    counts(x, 0, 2, 0);
    x.use(0, 0, 2);
    counts(x, 0, 3, 0);
    x.use(0, 40, 2);
    counts(x, 0, 4, 0);
    Due.edge(14, "if it is mapped with the right: an entry of it comes, as the latest used one");
    entries(x, 0);
    x.map(0, 60, 8, 3, true);
    Due.due("in a BLOCK", x.use(0, 62, 2), 10);
    entries(x, 0, 62);
    int[] want = {0, 62, 10, 3, 0};
    for (int what = 0; what < 5; what++) Due.due("what " + what, x.cached(1, what), want[what]);
    Due.edge(14, "else it FAULTS");
    GatedDevices y = three("");
    y.map(0, 0, 0, 1, false);
    y.use(0, 0, 1);
    y.use(0, 0, 2);
    y.use(0, 1, 1);
    entries(y, 0);
    Due.due("RECORDS", y.count(20), 2);
  }

  private static void whichGoes() {
    Due.edge(14, "in place of one of that PAGE");
    GatedDevices x = three("room 3;");
    x.map(0, 0, 0, 1, false);
    x.map(0, 4, 4, 3, true);
    x.use(0, 0, 1);
    x.use(0, 4, 1);
    x.use(0, 5, 1);
    x.unmap(0, 0);
    x.map(0, 0, 20, 2, false);
    Due.due("the new FRAME", x.use(0, 0, 2), 20);
    entries(x, 4, 5, 0);
    Due.due("the new RIGHTS", x.cached(2, 3), 2);
    Due.edge(14, "else, if there is no room, of the first");
    x.use(0, 6, 1);
    entries(x, 5, 0, 6);
    x.use(0, 5, 1);
    x.use(0, 7, 1);
    entries(x, 6, 5, 7);
    GatedDevices y = three("room 1;");
    y.map(0, 0, 0, 3, true);
    for (int page = 0; page < 4; page++) {
      y.use(0, page, 1);
      entries(y, page);
    }
    GatedDevices z = three("room 16;");
    for (int page = 0; page < 20; page += 4) z.map(0, page, page, 3, true);
    for (int page = 0; page < 16; page++) z.use(0, page, 1);
    Due.due("sixteen", z.count(7), 16);
    Due.due("the first", z.cached(0, 1), 0);
    z.use(0, 16, 1);
    Due.due("sixteen still", z.count(7), 16);
    Due.due("the next one is the first", z.cached(0, 1), 1);
    Due.due("the last", z.cached(15, 1), 16);
    Due.edge(14, "room: 1 .. 16 entries of the CACHE (4)");
    GatedDevices four = three("");
    for (int page = 0; page < 8; page += 4) four.map(0, page, page, 3, true);
    for (int page = 0; page < 5; page++) four.use(0, page, 1);
    entries(four, 1, 2, 3, 4);
  }

  private static void stale() {
    Due.edge(31, "(STALE, if tables don't have just that FRAME with that right there any more");
    GatedDevices x = three("");
    x.map(0, 0, 10, 3, false);
    x.use(0, 0, 1);
    x.use(0, 0, 2);
    counts(x, 1, 1, 0);
    x.unmap(0, 0);
    Due.due("not mapped any more", x.use(0, 0, 1), 10);
    counts(x, 2, 1, 1);
    x.map(0, 0, 11, 3, false);
    Due.due("another FRAME", x.use(0, 0, 2), 10);
    counts(x, 3, 1, 2);
    GatedDevices y = three("");
    y.map(0, 4, 10, 3, false);
    y.map(0, 0, 10, 3, false);
    y.use(0, 0, 1);
    y.unmap(0, 0);
    y.map(0, 0, 10, 2, false);
    Due.due("just that FRAME with that right: to write", y.use(0, 0, 2), 10);
    counts(y, 1, 1, 0);
    Due.due("not with that right: to read", y.use(0, 0, 1), 10);
    counts(y, 2, 1, 1);
    Due.edge(31, "an entry is STALE, if a HIT by some one of its RIGHTS would be)");
    Due.due("by one of two", y.cached(0, 4), 1);
    y.unmap(0, 0);
    y.map(0, 0, 10, 3, false);
    Due.due("by none again", y.cached(0, 4), 0);
    GatedDevices z = three("");
    z.map(0, 0, 10, 1, false);
    z.map(0, 4, 10, 1, false);
    z.use(0, 0, 1);
    z.unmap(0, 0);
    Due.due("by the only one", z.cached(0, 4), 1);
    z.map(0, 0, 10, 3, false);
    Due.due("more RIGHTS than it has", z.cached(0, 4), 0);
    z.unmap(0, 0);
    z.map(0, 0, 10, 2, false);
    Due.due("another right than it has", z.cached(0, 4), 1);
  }

  // ---- promise 27

  private static void reach() {
    Due.edge(27, "FRAMES (bits) that a DEVICE could have for a right by tables (what 0), by a HIT (1), by a STALE one (2)");
    GatedDevices x = three("");
    x.map(0, 0, 63, 1, false);
    x.map(0, 1, 0, 2, false);
    x.map(0, 2, 32, 3, false);
    x.map(0, 3, 31, 3, false);
    long read = 1L << 63 | 1L << 32 | 1L << 31;
    long write = 1L | 1L << 32 | 1L << 31;
    Due.due("to read, by tables", x.reach(0, 1, 0), read);
    Due.due("to write, by tables", x.reach(1, 2, 0), write);
    Due.due("no HIT yet", x.reach(0, 1, 1), 0);
    x.use(0, 0, 1);
    x.use(0, 1, 2);
    x.use(0, 2, 1);
    Due.due("to read, by a HIT", x.reach(1, 1, 1), 1L << 63 | 1L << 32);
    Due.due("to write, by a HIT", x.reach(0, 2, 1), 1L | 1L << 32);
    Due.due("none STALE", x.reach(0, 1, 2), 0);
    Due.due("none STALE", x.reach(0, 2, 2), 0);
    x.unmap(0, 0);
    Due.due("by tables no more", x.reach(0, 1, 0), 1L << 32 | 1L << 31);
    Due.due("by a HIT still", x.reach(0, 1, 1), 1L << 63 | 1L << 32);
    Due.due("by a STALE one", x.reach(0, 1, 2), 1L << 63);
    Due.due("not to write", x.reach(0, 2, 2), 0);
    x.map(0, 40, 32, 1, false);
    x.unmap(0, 2);
    x.map(0, 2, 32, 1, false);
    Due.due("STALE to write alone: to read", x.reach(0, 1, 2), 1L << 63);
    Due.due("STALE to write alone: to write", x.reach(0, 2, 2), 1L << 32);
    x.attach(2, 1);
    for (int what = 0; what < 3; what++) Due.due("another DOMAIN, what " + what, x.reach(2, 1, what), 0);
  }

  private static void reachOfNone() {
    GatedDevices x = three("");
    x.map(0, 0, 5, 3, false);
    x.use(0, 0, 1);
    x.unmap(0, 0);
    x.map(0, 0, 6, 3, false);
    Due.edge(27, "0 without a DOMAIN");
    for (int what = 0; what < 3; what++) {
      Due.due("c has none", x.reach(2, 1, what), 0);
      Due.due("a has one", x.reach(0, 1, what) != 0 ? 1 : 0, 1);
    }
    x.detach(0);
    for (int what = 0; what < 3; what++) Due.due("a has none any more", x.reach(0, 1, what), 0);
    x.attach(0, 0);
    Due.edge(27, "or no such ones");
    for (int what = 0; what < 3; what++) {
      for (int d : NO_DEVICE) Due.due("DEVICE " + d, x.reach(d, 1, what), 0);
      for (int right : NO_RIGHT) Due.due("right " + right, x.reach(0, right, what), 0);
    }
    for (int what : new int[] {-1, 3, Integer.MAX_VALUE, Integer.MIN_VALUE}) Due.due("what " + what, x.reach(0, 1, what), 0);
  }

  // ---- promises 31, 32

  private static void cached() {
    Due.edge(31, "what 0 DOMAIN, 1 PAGE, 2 FRAME, 3 RIGHTS, 4 STALE (1, 0)");
    GatedDevices x = three("");
    x.attach(2, 1);
    x.map(0, 63, 0, 1, false);
    x.map(1, 0, 63, 2, false);
    x.map(1, 1, 5, 3, false);
    x.use(0, 63, 1);
    x.use(2, 0, 2);
    x.use(2, 1, 2);
    x.map(0, 8, 63, 1, false);
    x.unmap(1, 0);
    int[][] want = {{0, 63, 0, 1, 0}, {1, 0, 63, 2, 1}, {1, 1, 5, 3, 0}};
    for (int k = 0; k < 3; k++) {
      for (int what = 0; what < 5; what++) Due.due("cached(" + k + ", " + what + ")", x.cached(k, what), want[k][what]);
    }
    x.work(1);
    for (int what = 0; what < 5; what++) Due.due("behind one that went", x.cached(1, what), want[2][what]);
    x.map(1, 0, 63, 2, false);
    x.use(2, 0, 2);
    x.use(2, 1, 2);
    Due.edge(31, "(0 the least lately used)");
    x.use(0, 63, 1);
    Due.due("the first", x.cached(0, 1), 0);
    Due.due("the last", x.cached(2, 1), 63);
    Due.edge(31, "NONE: no such ones");
    for (int k : new int[] {-1, 3, 16, Integer.MAX_VALUE, Integer.MIN_VALUE}) {
      for (int what = 0; what < 5; what++) Due.due("k " + k + ", what " + what, x.cached(k, what), -1);
    }
    for (int what : new int[] {-1, 5, Integer.MAX_VALUE, Integer.MIN_VALUE}) Due.due("what " + what, x.cached(0, what), -1);
    Due.due("of an empty one", new GatedDevices().cached(0, 4), -1);
  }

  private static void record(GatedDevices x, int k, int... want) {
    for (int what = 0; what < 4; what++) Due.due("record(" + k + ", " + what + ")", x.record(k, what), want[what]);
  }

  private static void records() {
    GatedDevices x = three("");
    Due.edge(32, "(those with no DOMAIN, with a REQUEST, too)");
    x.use(2, 63, 2);
    record(x, 0, 2, 63, 2, 9);
    x.attach(2, 1);
    x.use(2, 0, 1);
    record(x, 0, 2, 0, 1, 7);
    Due.edge(32, "what 0 SIGN, 1 PAGE, 2 right, 3 the innermost CAUSE (its number)");
    x.map(0, 5, 5, 2, false);
    x.use(0, 5, 1);
    record(x, 0, 8, 5, 1, 8);
    x.use(1, 6, 2);
    record(x, 0, 1, 6, 2, 7);
    Due.edge(32, "Of the k-th RECORD (0 the latest)");
    record(x, 1, 8, 5, 1, 8);
    record(x, 2, 2, 0, 1, 7);
    record(x, 3, 2, 63, 2, 9);
    Due.due("how many", x.count(20), 4);
    Due.edge(32, "FAULTS of use()");
    x.use(0, 5, 2);
    x.close(2);
    x.serve(true);
    x.churn(1, 40);
    x.unmap(0, 7);
    x.use(0, 64, 1);
    Due.due("none by a LOOK that goes well, serve, churn, other calls", x.count(20), 4);
    record(x, 0, 1, 6, 2, 7);
    Due.edge(32, "the latest 8");
    for (int page = 10; page < 14; page++) x.use(0, page, 1);
    Due.due("eight", x.count(20), 8);
    record(x, 7, 2, 63, 2, 9);
    x.use(0, 14, 1);
    Due.due("eight still", x.count(20), 8);
    record(x, 7, 2, 0, 1, 7);
    record(x, 0, 8, 14, 1, 7);
    Due.edge(32, "NONE: no such ones");
    for (int what = 0; what < 4; what++) {
      for (int k : new int[] {-1, 8, Integer.MAX_VALUE, Integer.MIN_VALUE}) Due.due("k " + k, x.record(k, what), -1);
    }
    for (int what : new int[] {-1, 4, Integer.MAX_VALUE, Integer.MIN_VALUE}) Due.due("what " + what, x.record(0, what), -1);
    GatedDevices y = three("");
    Due.due("of none", y.record(0, 0), -1);
    y.use(0, 1, 1);
    Due.due("behind the only one", y.record(1, 0), -1);
    Due.edge(32, "RECORDS: the latest 8 FAULTS of use()");
    y.attach(2, 1);
    for (int k = 0; k < 8; k++) y.use(2, k, 1);
    Due.due("too many wait", y.use(2, 40, 2), -4);
    record(y, 0, 2, 40, 2, 7);
  }

  // ---- promise 35

  /** What churn should answer: the draws made here, the looks by use() of another object that is alike. */
  private static int byHand(GatedDevices y, int devices, long seed, int n, int without) {
    int ahead = y.count(8);
    long last = seed;
    for (int k = 0; k < n; k++) {
      long[] drawn = new long[3];
      for (int i = 0; i < 3; i++) {
        last = (last * 1103515245L + 12345L) % 2147483648L;
        drawn[i] = last / 65536L;
      }
      int device = (int) (drawn[0] % devices);
      if (device != without) y.use(device, (int) (drawn[1] % 64), 1 + (int) (drawn[2] % 2));
    }
    return y.count(8) - ahead;
  }

  private static GatedDevices churned(String text, int devices, int without) {
    GatedDevices x = Due.with(text);
    for (int d = 0; d < 2; d++) {
      x.domain(false);
      for (int page = 0; page < 64; page += 4) x.map(d, page, page, 3 - 2 * d, true);
    }
    for (int d = 0; d < devices; d++) if (d != without) x.attach(d, d % 2);
    for (int page = 0; page < 16; page++) if (without != 0) x.use(0, page * 4 + 1, 1);
    return x;
  }

  private static void draws() {
    String text = "device a root;device b root;device c root;room 16;seed 99999;";
    Due.edge(35, "CHURN n 1 .. 40 from a seed 0 .. 2147483647 on");
    int most = 0;
    for (int seed : new int[] {0, 1, 2, 3, 65535, 65536, 99999, 1073741824, 2147483646, 2147483647}) {
      GatedDevices x = churned(text, 3, -1);
      int told = x.churn(seed, 40);
      Due.due("seed " + seed, told, byHand(churned(text, 3, -1), 3, seed, 40, -1));
      for (int n = 1; n < 40; n += 6) Due.due("n " + n, x.churn(seed, n), byHand(churned(text, 3, -1), 3, seed, n, -1));
      most = Math.max(most, told);
    }
    Due.due("some HITS there are", most > 2 ? 1 : 0, 1);
    Due.edge(35, "(-1: that of the TEXT)");
    GatedDevices x = churned(text, 3, -1);
    for (int n = 1; n <= 40; n += 3) Due.due("n " + n, x.churn(-1, n), x.churn(99999, n));
    GatedDevices none = churned("device a root;room 16;", 1, -1);
    for (int n = 1; n <= 40; n += 3) Due.due("none told, n " + n, none.churn(-1, n), none.churn(0, n));
    GatedDevices single = churned("device a root;room 16;", 1, -1);
    for (int seed = 0; seed < 4; seed++) {
      Due.due("one DEVICE", single.churn(seed, 40), byHand(churned("device a root;room 16;", 1, -1), 1, seed, 40, -1));
    }
    Due.edge(35, "would have how many HITS");
    GatedDevices hit = churned(text, 3, -1);
    for (int k = 0; k < 5; k++) hit.use(0, 61, 1);
    Due.due("HITS ahead", hit.count(8), 5);
    GatedDevices alike = churned(text, 3, -1);
    alike.use(0, 61, 1);
    Due.due("those ahead are none of it", hit.churn(7, 40), byHand(alike, 3, 7, 40, -1));
    GatedDevices y = churned(text, 3, -1);
    int[] ahead = new int[21];
    for (int what = 0; what <= 20; what++) ahead[what] = y.count(what);
    int first = y.cached(0, 1);
    y.churn(7, 40);
    for (int what = 0; what <= 20; what++) Due.due("nothing of it: count(" + what + ")", y.count(what), ahead[what]);
    Due.due("nothing of it: the CACHE", y.cached(0, 1), first);
    Due.causes("nothing of it: CAUSES", y);
  }

  private static void drawsWithoutDomain() {
    String text = "device a root;device b root;device c root;room 16;";
    Due.edge(35, "the three DRAWS are always made; if its GROUP has no DOMAIN: no LOOK");
    int most = 0;
    for (int without = 0; without < 3; without++) {
      GatedDevices x = churned(text, 3, without);
      for (int seed = 0; seed < 8; seed++) {
        int told = x.churn(seed, 40);
        Due.due("without " + without + ", seed " + seed, told, byHand(churned(text, 3, without), 3, seed, 40, without));
        most = Math.max(most, told);
      }
    }
    Due.due("some HITS there are", most > 1 ? 1 : 0, 1);
    GatedDevices y = Due.with("device a root;");
    Due.due("none has a DOMAIN", y.churn(5, 40), 0);
  }

  private static void churnNot() {
    Due.edge(35, "-2: there are no DEVICES");
    GatedDevices x = new GatedDevices();
    Due.due("a new object", x.churn(0, 1), -2);
    Due.due("the TEXT's seed", x.churn(-1, 40), -2);
    Due.tell(x, "bridge n root 0;seed 5;");
    Due.due("BRIDGES alone", x.churn(2147483647, 40), -2);
    Due.edge(35, "NONE: no such ones");
    Due.tell(x, "device a root;");
    for (int n : new int[] {-1, 0, 41, Integer.MAX_VALUE, Integer.MIN_VALUE}) Due.due("n " + n, x.churn(0, n), -1);
    for (int seed : new int[] {-2, -3, Integer.MIN_VALUE}) Due.due("seed " + seed, x.churn(seed, 1), -1);
    Due.due("n 1", x.churn(0, 1), 0);
    Due.due("n 40", x.churn(-1, 40), 0);
  }
}
