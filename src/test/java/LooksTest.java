/** Promises 14, 27, 31, 32, 35, and 34 (2): looks, the cache, records, churn. */
public final class LooksTest {
  public static void main(String[] args) {
    use();
    cacheOrder();
    cacheReplaces();
    stale();
    reach();
    records();
    recordsOfAll();
    churn();
    churnByHand();
    wrongInputs();
    Due.end("LooksTest");
  }

  private static GatedDevices withDomain(String text) {
    GatedDevices x = Due.with(text);
    x.domain(false);
    x.attach(0, 0);
    return x;
  }

  private static void counts(String when, GatedDevices x, int hits, int walks, int stales) {
    Due.due(when + ": hits", x.count(8), hits);
    Due.due(when + ": walks", x.count(9), walks);
    Due.due(when + ": stale hits", x.count(10), stales);
  }

  private static void use() {
    GatedDevices x = withDomain("device a root;device b root;alias a b;device c root;stall c;");
    x.map(0, 3, 9, 1, false);
    Due.due("a walk", x.use(0, 3, 1), 9);
    counts("a walk", x, 0, 1, 0);
    Due.due("a hit, by b", x.use(1, 3, 1), 9);
    counts("a hit", x, 1, 1, 0);
    Due.due("no right", x.use(0, 3, 2), -2);
    counts("no right", x, 1, 2, 0);
    Due.due("the entry stays", x.count(7), 1);
    Due.due("nothing there", x.use(0, 4, 2), -2);
    counts("nothing there", x, 1, 3, 0);
    Due.due("no domain, be it one that stalls", x.use(2, 3, 1), -2);
    counts("no domain", x, 1, 3, 0);
    Due.due("no request", x.count(12), 0);
    x.domain(false);
    x.attach(2, 1);
    Due.due("another domain's tables", x.use(2, 3, 1), -3);
    counts("another domain's", x, 1, 4, 0);
  }

  private static void cacheOrder() {
    GatedDevices x = withDomain("device a root;room 3;");
    x.map(0, 0, 0, 3, true);
    x.map(0, 4, 4, 3, true);
    for (int page = 0; page < 3; page++) x.use(0, page, 1);
    pages(x, 0, 1, 2);
    x.use(0, 0, 2);
    pages(x, 1, 2, 0);
    x.use(0, 4, 1);
    pages(x, 2, 0, 4);
    x.use(0, 9, 1);
    pages(x, 2, 0, 4);
    x.use(0, 0, 1);
    pages(x, 2, 4, 0);
    counts("order", x, 2, 5, 0);
    GatedDevices y = withDomain("device a root;room 1;");
    y.map(0, 0, 0, 3, true);
    y.use(0, 0, 1);
    y.use(0, 1, 1);
    pages(y, 1);
  }

  private static void pages(GatedDevices x, int... pages) {
    Due.due("how many entries", x.count(7), pages.length);
    for (int k = 0; k < pages.length; k++) Due.due("entry " + k, x.cached(k, 1), pages[k]);
    Due.due("behind the last entry", x.cached(pages.length, 1), -1);
    Due.due("behind the last entry", x.cached(pages.length, 4), -1);
  }

  private static void cacheReplaces() {
    GatedDevices x = withDomain("device a root;room 2;");
    x.map(0, 0, 10, 1, false);
    x.map(0, 1, 11, 3, false);
    x.use(0, 0, 1);
    x.use(0, 1, 1);
    x.unmap(0, 0);
    x.map(0, 0, 12, 2, false);
    Due.due("a walk for the other right", x.use(0, 0, 2), 12);
    pages(x, 1, 0);
    int[] want = {0, 0, 12, 2, 0};
    for (int what = 0; what < 5; what++) Due.due("cached(1, " + what + ")", x.cached(1, what), want[what]);
    Due.due("what 5", x.cached(1, 5), -1);
    Due.due("what -1", x.cached(1, -1), -1);
    Due.due("k -1", x.cached(-1, 0), -1);
    Due.due("k -1, stale", x.cached(-1, 4), -1);
    // Alike pages of two domains are two entries.
    GatedDevices y = withDomain("device a root;device b root;");
    y.domain(false);
    y.attach(1, 1);
    y.map(0, 0, 1, 3, false);
    y.map(1, 0, 2, 3, false);
    Due.due("of the one", y.use(0, 0, 1), 1);
    Due.due("of the other", y.use(1, 0, 1), 2);
    counts("two walks", y, 0, 2, 0);
    Due.due("domain", y.cached(1, 0), 1);
  }

  private static void stale() {
    GatedDevices x = withDomain("device a root;room 8;");
    x.map(0, 0, 10, 3, false);
    x.use(0, 0, 1);
    Due.due("not stale", x.cached(0, 4), 0);
    x.unmap(0, 0);
    Due.due("stale", x.cached(0, 4), 1);
    Due.due("a stale hit", x.use(0, 0, 2), 10);
    counts("a stale hit", x, 1, 1, 1);
    x.map(0, 0, 11, 3, false);
    Due.due("stale by its frame", x.cached(0, 4), 1);
    Due.due("a stale hit", x.use(0, 0, 1), 10);
    counts("by its frame", x, 2, 1, 2);
    x.fence();
    x.work(24);
    Due.due("it went", x.count(7), 0);
    Due.due("the new frame", x.use(0, 0, 1), 11);
    x.unmap(0, 0);
    x.fence();
    // Worked but for the cache's part: 11 comes back with fewer rights while the entry stays.
    GatedDevices y = withDomain("device a root;room 8;");
    y.map(0, 4, 10, 3, false);
    y.map(0, 0, 10, 3, false);
    y.use(0, 0, 1);
    y.unmap(0, 0);
    y.map(0, 0, 10, 1, false);
    Due.due("stale by one of its rights", y.cached(0, 4), 1);
    Due.due("not stale for this one", y.use(0, 0, 1), 10);
    counts("not stale", y, 1, 1, 0);
    Due.due("stale for that one", y.use(0, 0, 2), 10);
    counts("stale", y, 2, 1, 1);
    Due.due("by a stale one, to read", y.reach(0, 1, 2), 0);
    Due.due("by a stale one, to write", y.reach(0, 2, 2), 1L << 10);
    Due.due("stale entries", y.frame(10, 3), 1);
  }

  private static void reach() {
    GatedDevices x = withDomain("device a root;device b root;");
    Due.due("nothing", x.reach(0, 1, 0), 0);
    x.map(0, 0, 63, 1, false);
    x.map(0, 1, 2, 2, false);
    x.map(0, 2, 3, 3, false);
    x.use(0, 2, 1);
    x.use(0, 0, 1);
    Due.due("to read by tables", x.reach(0, 1, 0), 1L << 63 | 1L << 3);
    Due.due("to write by tables", x.reach(0, 2, 0), 1L << 2 | 1L << 3);
    Due.due("to read by a hit", x.reach(0, 1, 1), 1L << 63 | 1L << 3);
    Due.due("to write by a hit", x.reach(0, 2, 1), 1L << 3);
    Due.due("by a stale one", x.reach(0, 1, 2), 0);
    x.unmap(0, 0);
    Due.due("to read by tables", x.reach(0, 1, 0), 1L << 3);
    Due.due("to read by a hit", x.reach(0, 1, 1), 1L << 63 | 1L << 3);
    Due.due("by a stale one", x.reach(0, 1, 2), 1L << 63);
    for (int what = 0; what < 3; what++) Due.due("no domain", x.reach(1, 1, what), 0);
    x.domain(false);
    x.attach(1, 1);
    for (int what = 0; what < 3; what++) Due.due("another domain", x.reach(1, 1, what), 0);
    int[][] wrong = {{-1, 1, 0}, {2, 1, 0}, {0, 0, 0}, {0, 3, 0}, {0, 1, 3}, {0, 1, -1}};
    for (int[] w : wrong) Due.due("no such ones", x.reach(w[0], w[1], w[2]), 0);
  }

  private static void records() {
    GatedDevices x = withDomain("bridge n root 2;device a n;device b root;stall b;");
    x.use(1, 7, 2);
    record(x, 0, 1, 7, 2, 9);
    x.attach(1, 0);
    x.use(1, 8, 1);
    record(x, 0, 1, 8, 1, 7);
    x.map(0, 8, 8, 2, false);
    x.use(0, 8, 1);
    record(x, 0, 8, 8, 1, 8);
    record(x, 1, 1, 8, 1, 7);
    record(x, 2, 1, 7, 2, 9);
    x.use(0, 8, 2);
    Due.due("no fault, no record", x.count(20), 3);
    x.close(1);
    x.serve(true);
    Due.due("none by serve", x.count(20), 3);
    for (int page = 20; page < 26; page++) x.use(0, page, 1);
    Due.due("eight at most", x.count(20), 8);
    record(x, 0, 8, 25, 1, 7);
    record(x, 7, 1, 8, 1, 7);
    Due.due("record(8)", x.record(8, 0), -1);
    Due.due("record(-1)", x.record(-1, 0), -1);
    Due.due("record(0, 4)", x.record(0, 4), -1);
    Due.due("record(0, -1)", x.record(0, -1), -1);
  }

  private static void recordsOfAll() {
    GatedDevices x = withDomain("device a root;stall a;");
    for (int k = 0; k < 8; k++) x.use(0, k, 1);
    Due.due("too many", x.use(0, 60, 1), -4);
    record(x, 0, 0, 60, 1, 7);
  }

  private static void record(GatedDevices x, int k, int... want) {
    for (int what = 0; what < 4; what++) {
      Due.due("record(" + k + ", " + what + ")", x.record(k, what), want[what]);
    }
  }

  private static void churn() {
    GatedDevices x = new GatedDevices();
    Due.due("no devices", x.churn(0, 1), -2);
    Due.due("no such n goes ahead", x.churn(0, 0), -1);
    Due.due("no such seed goes ahead", x.churn(-2, 1), -1);
    Due.tell(x, "device a root;");
    Due.due("n 41", x.churn(0, 41), -1);
    Due.due("n -1", x.churn(0, -1), -1);
    Due.due("seed MIN", x.churn(Integer.MIN_VALUE, 1), -1);
    Due.due("no domain", x.churn(Integer.MAX_VALUE, 40), 0);
  }

  /** Draws made here anew, with looks by use() upon the object itself. */
  private static void churnByHand() {
    String text = "device a root;device b root;device c root;seed 4711;room 16;";
    int most = 0;
    for (int seed : new int[] {0, 1, 77, 4711, 123456789, 2147483647}) {
      GatedDevices x = withDomain(text);
      x.domain(false);
      x.attach(1, 1);
      for (int page = 0; page < 64; page += 4) {
        x.map(0, page, page, 3, true);
        x.map(1, page, page, 1, true);
      }
      for (int page = 0; page < 16; page++) x.use(0, page * 4 + seed % 4, 1);
      int told = x.churn(seed, 40);
      int few = x.churn(seed, 7);
      if (seed == 4711) Due.due("the text's seed", x.churn(-1, 40), told);
      Due.due("nothing changed", x.count(8) + x.count(20), 0);
      Due.due("a second time", x.churn(seed, 40), told);
      long last = seed;
      int fewHits = 0;
      for (int k = 0; k < 40; k++) {
        int[] drawn = new int[3];
        for (int i = 0; i < 3; i++) {
          last = (last * 1103515245L + 12345L) & 0x7fffffffL;
          drawn[i] = (int) (last / 65536);
        }
        x.use(drawn[0] % 3, drawn[1] % 64, 1 + drawn[2] % 2);
        if (k == 6) fewHits = x.count(8);
      }
      Due.due("hits of seed " + seed, told, x.count(8));
      Due.due("hits of seven", few, fewHits);
      most = Math.max(most, told);
    }
    Due.due("some hits", most > 2 ? 1 : 0, 1);
  }

  private static void wrongInputs() {
    GatedDevices x = withDomain("device a root;");
    for (int n : new int[] {-1, 64, Integer.MAX_VALUE, Integer.MIN_VALUE}) {
      Due.due("use's device", x.use(n, 0, 1), -1);
      Due.due("use's page", x.use(0, n, 1), -1);
      Due.due("use's right", x.use(0, 0, n), -1);
    }
    Due.due("right 0", x.use(0, 0, 0), -1);
    Due.due("right 3", x.use(0, 0, 3), -1);
    Due.due("no walk by these", x.count(9), 0);
    Due.due("no record by these", x.count(20), 0);
    Due.due("no cause by these", x.cause(0), -2);
  }
}
