/** The edges that the document names of FRAMES, the QUEUE and promises 11, 12, 13, 26, 30, 33, 34: one test a sentence. */
public final class QueueEdgesTest {
  private static final int[] NO_DOMAIN = {-1, 2, 4, Integer.MAX_VALUE, Integer.MIN_VALUE};

  public static void main(String[] args) {
    flush();
    fence();
    manyCalls();
    workSteps();
    workOfEntries();
    frames();
    behindAndAhead();
    eachUnmapping();
    sinceFree();
    frame();
    queued();
    freeing();
    triedFree();
    triedEntries();
    Due.end("QueueEdgesTest");
  }

  /** Two domains, the second one lazy; a device has the first. */
  private static GatedDevices two() {
    GatedDevices x = Due.with("device a root;room 16;");
    x.domain(false);
    x.domain(true);
    x.attach(0, 0);
    return x;
  }

  private static void fences(GatedDevices x, int many) {
    for (int k = 0; k < many; k++) x.fence();
  }

  // ---- promises 11, 12

  private static void flush() {
    Due.edge(11, "FLUSH of a DOMAIN: ALL of it, then a FENCE come to the QUEUE");
    GatedDevices x = two();
    Due.due("the FENCE's number", x.flush(1), 1);
    Due.due("two come", x.count(4), 2);
    Due.due("ALL", x.queued(0, 0), 1);
    Due.due("of it", x.queued(0, 1), 1);
    Due.due("then a FENCE", x.queued(1, 0), 2);
    x.fence();
    Due.due("the number behind a fence()", x.flush(0), 3);
    Due.edge(11, "-2: the QUEUE has more than 22");
    fences(x, 17);
    Due.due("in the QUEUE", x.count(4), 22);
    Due.due("22", x.flush(0), 21);
    Due.due("in the QUEUE", x.count(4), 24);
    Due.due("24", x.flush(0), -2);
    Due.causes("24", x, 6, 24);
    x.work(1);
    Due.due("23", x.flush(1), -2);
    Due.causes("23", x, 6, 23);
    Due.due("nothing comes", x.count(4), 23);
    Due.due("no FENCE came", x.count(5), 21);
    Due.edge(11, "NONE: no such DOMAIN");
    for (int d : NO_DOMAIN) Due.due("DOMAIN " + d, x.flush(d), -1);
    Due.causes("no CAUSE of these", x, 6, 23);
    Due.due("of none", new GatedDevices().flush(0), -1);
  }

  private static void fence() {
    Due.edge(12, "FENCES, numbered from 1 on");
    GatedDevices x = two();
    for (int k = 1; k <= 24; k++) Due.due("its number", x.fence(), k);
    Due.edge(12, "NONE: there is no room");
    Due.due("a 25th in the QUEUE", x.fence(), -1);
    Due.due("in the QUEUE", x.count(4), 24);
    Due.due("that came", x.count(5), 24);
    Due.causes("no CAUSES", x);
    x.work(1);
    Due.due("room for one", x.fence(), 25);
    Due.due("for no other", x.fence(), -1);
    Due.edge(12, "THE QUEUE, at most 24");
    GatedDevices y = two();
    y.map(0, 0, 0, 1, true);
    fences(y, 21);
    y.unmap(0, 0);
    Due.due("22", y.count(4), 22);
    y.unmap(0, 1);
    Due.due("23", y.unmap(0, 2), -2);
    Due.due("the 24th", y.fence(), 22);
    Due.due("24", y.count(4), 24);
  }

  private static void manyCalls() {
    Due.edge(12, "An object is used for at most 512 calls after it has been made");
    GatedDevices x = new GatedDevices();
    for (int k = 1; k <= 24; k++) x.fence();
    for (int k = 25; k <= 268; k++) {
      Due.due("a step", x.work(1), 1);
      Due.due("its number", x.fence(), k);
    }
  }

  // ---- promise 13

  private static void workSteps() {
    Due.edge(13, "n 0 .. 24 steps of WORK (no more than there are): how many");
    GatedDevices x = two();
    Due.due("24 of none", x.work(24), 0);
    Due.due("0 of none", x.work(0), 0);
    fences(x, 24);
    Due.due("0", x.work(0), 0);
    Due.due("none has passed", x.count(6), 0);
    Due.due("1", x.work(1), 1);
    Due.due("one has passed", x.count(6), 1);
    x.fence();
    Due.due("24 of 24", x.work(24), 24);
    Due.due("all have passed", x.count(6), 25);
    fences(x, 3);
    Due.due("24 of 3", x.work(24), 3);
    fences(x, 3);
    Due.due("2 of 3", x.work(2), 2);
    Due.due("one is left", x.queued(0, 2), 31);
    Due.edge(13, "NONE: no such n");
    for (int n : new int[] {-1, 25, Integer.MAX_VALUE, Integer.MIN_VALUE}) Due.due("n " + n, x.work(n), -1);
    Due.due("one is left", x.count(4), 1);
  }

  private static void workOfEntries() {
    Due.edge(13, "of a PAGE, of ALL: the CACHE's entries of it go");
    GatedDevices x = Due.with("device a root;device b root;room 16;");
    for (int d = 0; d < 2; d++) {
      x.domain(false);
      x.attach(d, d);
      x.map(d, 0, 0, 3, true);
      x.map(d, 60, 60, 3, true);
      for (int page : new int[] {0, 1, 63}) x.use(d, page, 1);
    }
    x.unmap(0, 1);
    x.flush(1);
    x.work(1);
    Due.due("of the PAGE of the DOMAIN alone", x.count(7), 5);
    int[][] left = {{0, 0}, {0, 63}, {1, 0}, {1, 1}, {1, 63}};
    for (int k = 0; k < 5; k++) {
      Due.due("DOMAIN", x.cached(k, 0), left[k][0]);
      Due.due("PAGE", x.cached(k, 1), left[k][1]);
    }
    x.work(1);
    Due.due("ALL of the DOMAIN alone", x.count(7), 2);
    Due.due("DOMAIN", x.cached(0, 0), 0);
    Due.due("DOMAIN", x.cached(1, 0), 0);
    x.work(1);
    Due.due("none by a FENCE", x.count(7), 2);
    Due.edge(13, "a step: the first one goes");
    x.unmap(0, 0);
    x.unmap(0, 63);
    x.work(1);
    Due.due("the first one's entry", x.cached(0, 1), 63);
    Due.due("the second one is the first", x.queued(0, 2), 63);
    Due.due("no entry there: nothing else goes", workedWithout(x), 0);
    Due.edge(13, "what is unmapped stays in a cache till an invalidation comes to it");
    GatedDevices y = two();
    y.map(0, 5, 6, 3, false);
    y.use(0, 5, 1);
    y.unmap(0, 5);
    Due.due("it stays", y.use(0, 5, 2), 6);
    y.work(1);
    Due.due("no more", y.use(0, 5, 2), -2);
  }

  /** The page's entry goes, and again an invalidation of it comes: how many entries there are. */
  private static int workedWithout(GatedDevices x) {
    x.work(24);
    x.map(0, 63, 40, 3, false);
    x.unmap(0, 63);
    x.work(24);
    return x.count(7);
  }

  // ---- FRAMES

  private static void frames() {
    Due.edge(26, "A FRAME is USED, as long as some DOMAIN has it mapped");
    GatedDevices x = two();
    Due.due("at first", x.frame(7, 0), 0);
    x.map(0, 0, 7, 1, false);
    x.map(1, 0, 7, 1, false);
    x.map(1, 9, 7, 1, false);
    x.unmap(0, 0);
    x.flush(0);
    x.work(24);
    Due.due("two of three", x.frame(7, 0), 1);
    x.unmap(1, 0);
    x.flush(1);
    x.work(24);
    Due.due("one of three", x.frame(7, 0), 1);
    x.unmap(1, 9);
    Due.edge(26, "else HELD, if it was and no FENCE has freed it yet");
    Due.due("the last one is unmapped", x.frame(7, 0), 2);
    x.flush(1);
    Due.due("no step yet", x.frame(7, 0), 2);
    x.work(1);
    Due.due("no FENCE yet", x.frame(7, 0), 2);
    x.work(1);
    Due.due("freed", x.frame(7, 0), 0);
    x.map(0, 0, 7, 1, false);
    Due.due("mapped anew", x.frame(7, 0), 1);
    Due.edge(26, "else FREE (at first)");
    GatedDevices y = new GatedDevices();
    for (int f = 0; f < 64; f++) Due.due("FRAME " + f, y.frame(f, 0), 0);
  }

  private static void behindAndAhead() {
    Due.edge(13, "an INVALIDATION came to the QUEUE behind the unmapping and ahead of this FENCE");
    // The invalidation is worked before the fence comes: all the same.
    GatedDevices x = two();
    x.map(0, 0, 7, 1, false);
    x.unmap(0, 0);
    x.work(24);
    Due.due("no FENCE came", x.frame(7, 0), 2);
    x.fence();
    x.work(1);
    Due.due("a FENCE came behind the work", x.frame(7, 0), 0);
    // A fence that came ahead of the invalidation, though behind the unmapping.
    x.map(1, 0, 8, 1, false);
    x.unmap(1, 0);
    x.fence();
    x.flush(1);
    Due.due("the FENCE ahead of ALL passes", x.work(1), 1);
    Due.due("HELD", x.frame(8, 0), 2);
    x.work(1);
    Due.due("ALL alone", x.frame(8, 0), 2);
    x.work(1);
    Due.due("the FENCE behind it", x.frame(8, 0), 0);
    // An invalidation that came ahead of the unmapping.
    GatedDevices y = two();
    y.map(1, 0, 8, 1, false);
    y.map(1, 1, 9, 1, false);
    y.unmap(1, 0);
    y.flush(1);
    y.unmap(1, 1);
    y.fence();
    y.work(24);
    Due.due("ahead of ALL", y.frame(8, 0), 0);
    Due.due("behind ALL", y.frame(9, 0), 2);
    // A fence of another domain's flush is as good as any.
    y.flush(1);
    y.work(1);
    y.flush(0);
    y.work(2);
    Due.due("the FENCE of its own FLUSH", y.frame(9, 0), 0);
    GatedDevices z = two();
    z.map(0, 3, 8, 1, false);
    z.unmap(0, 3);
    z.flush(1);
    z.work(24);
    Due.due("another FLUSH's FENCE", z.frame(8, 0), 0);
  }

  private static void eachUnmapping() {
    Due.edge(13, "each unmapping since it was FREE last was of a DOMAIN and PAGE for which an INVALIDATION came");
    GatedDevices x = two();
    x.map(0, 5, 8, 1, false);
    x.map(1, 5, 8, 1, false);
    x.unmap(1, 5);
    x.unmap(0, 5);
    x.fence();
    x.work(24);
    Due.due("of the PAGE of another DOMAIN", x.frame(8, 0), 2);
    x.flush(1);
    x.work(24);
    Due.due("of both", x.frame(8, 0), 0);
    GatedDevices y = two();
    y.map(1, 5, 8, 1, false);
    y.map(1, 6, 8, 1, false);
    y.unmap(1, 5);
    y.flush(1);
    y.unmap(1, 6);
    y.fence();
    y.work(24);
    Due.due("of the one PAGE, not the other", y.frame(8, 0), 2);
    y.flush(1);
    y.work(24);
    Due.due("of both PAGES", y.frame(8, 0), 0);
    // Unmapped from the same page twice, the frame in use elsewhere in between.
    GatedDevices z = two();
    z.map(0, 0, 8, 1, false);
    z.map(1, 5, 8, 1, false);
    z.unmap(1, 5);
    z.flush(1);
    z.map(1, 5, 8, 1, false);
    z.unmap(1, 5);
    z.unmap(0, 0);
    z.fence();
    z.work(24);
    Due.due("the second unmapping of the PAGE", z.frame(8, 0), 2);
    z.flush(1);
    z.work(24);
    Due.due("of that, too", z.frame(8, 0), 0);
    // A fence between the two invalidations.
    GatedDevices w = two();
    w.map(0, 0, 8, 1, false);
    w.map(0, 1, 8, 1, false);
    w.unmap(0, 0);
    w.fence();
    w.unmap(0, 1);
    w.fence();
    w.work(2);
    Due.due("between the two", w.frame(8, 0), 2);
    w.work(2);
    Due.due("behind both", w.frame(8, 0), 0);
    GatedDevices first = Due.with("");
    first.domain(true);
    first.map(0, 0, 0, 1, false);
    first.unmap(0, 0);
    first.fence();
    first.work(24);
    Due.due("of the first DOMAIN, PAGE and FRAME", first.frame(0, 0), 2);
    first.flush(0);
    first.work(24);
    Due.due("free", first.frame(0, 0), 0);
    GatedDevices end = Due.with("");
    for (int d = 0; d < 4; d++) end.domain(true);
    end.map(3, 63, 63, 1, false);
    end.unmap(3, 63);
    end.flush(2);
    end.work(24);
    Due.due("of the last DOMAIN, PAGE and FRAME", end.frame(63, 0), 2);
    end.flush(3);
    end.work(24);
    Due.due("free", end.frame(63, 0), 0);
    // Lowest and highest page and frame.
    GatedDevices v = two();
    v.map(0, 63, 63, 1, false);
    v.map(0, 0, 0, 1, false);
    v.unmap(0, 63);
    v.fence();
    v.unmap(0, 0);
    v.work(24);
    Due.due("FRAME 63", v.frame(63, 0), 0);
    Due.due("FRAME 0", v.frame(0, 0), 2);
  }

  private static void sinceFree() {
    Due.edge(13, "since it was FREE last");
    GatedDevices x = two();
    x.map(0, 0, 8, 1, false);
    x.unmap(0, 0);
    x.fence();
    x.work(24);
    x.map(1, 0, 8, 1, false);
    x.unmap(1, 0);
    x.fence();
    x.work(24);
    Due.due("the older INVALIDATION is none for it", x.frame(8, 0), 2);
    x.flush(1);
    x.work(24);
    Due.due("free", x.frame(8, 0), 0);
    x.map(0, 1, 8, 1, false);
    x.unmap(0, 1);
    x.fence();
    x.work(24);
    Due.due("the lazy DOMAIN's unmapping is past", x.frame(8, 0), 0);
    Due.edge(13, "each FRAME that is HELD");
    GatedDevices y = two();
    y.map(0, 0, 8, 1, false);
    y.map(0, 1, 8, 1, false);
    y.unmap(0, 0);
    y.fence();
    y.work(24);
    y.unmap(0, 1);
    Due.due("a FENCE that passed while it was USED freed it not", y.frame(8, 0), 2);
    y.map(0, 2, 12, 1, false);
    y.fence();
    y.work(24);
    Due.due("HELD: free", y.frame(8, 0), 0);
    Due.due("USED: stays", y.frame(12, 0), 1);
  }

  // ---- promises 26, 30

  private static void frame() {
    Due.edge(26, "1 how often it is mapped, 2 how many entries of the CACHE have it, 3 how many of these are STALE");
    GatedDevices x = two();
    for (int page = 0; page < 3; page++) {
      x.map(0, page, 63, 3, false);
      Due.due("mapped", x.frame(63, 1), page + 1);
    }
    x.map(1, 0, 63, 3, false);
    Due.due("in another DOMAIN, too", x.frame(63, 1), 4);
    Due.due("no entries", x.frame(63, 2), 0);
    for (int page = 0; page < 3; page++) {
      x.use(0, page, 1);
      Due.due("entries", x.frame(63, 2), page + 1);
      Due.due("none STALE", x.frame(63, 3), 0);
    }
    x.unmap(0, 0);
    Due.due("entries", x.frame(63, 2), 3);
    Due.due("one STALE", x.frame(63, 3), 1);
    x.unmap(0, 1);
    x.map(0, 1, 63, 1, false);
    Due.due("STALE by one of its RIGHTS", x.frame(63, 3), 2);
    x.unmap(0, 2);
    x.map(0, 2, 62, 3, false);
    Due.due("STALE by its FRAME", x.frame(63, 3), 3);
    Due.due("mapped", x.frame(63, 1), 2);
    Due.due("of the new FRAME", x.frame(62, 2), 0);
    Due.due("of the new FRAME", x.frame(62, 3), 0);
    x.work(1);
    Due.due("entries", x.frame(63, 2), 2);
    Due.edge(26, "NONE: no such ones");
    for (int f : new int[] {-1, 64, Integer.MAX_VALUE, Integer.MIN_VALUE}) {
      for (int what = 0; what < 4; what++) Due.due("FRAME " + f, x.frame(f, what), -1);
    }
    for (int what : new int[] {-1, 4, Integer.MAX_VALUE, Integer.MIN_VALUE}) {
      Due.due("what " + what, x.frame(0, what), -1);
      Due.due("what " + what, x.frame(63, what), -1);
    }
  }

  private static void queued() {
    GatedDevices x = two();
    x.map(1, 60, 0, 1, true);
    x.map(0, 0, 0, 1, false);
    for (int page = 60; page < 64; page++) x.unmap(1, page);
    x.unmap(0, 0);
    Due.edge(30, "what 0 its sort (0 of a PAGE, 1 ALL, 2 a FENCE), 1 its DOMAIN (-2 of a FENCE), 2 its PAGE or number (-2 of ALL)");
    int[][] want = {{1, 1, -2}, {2, -2, 1}, {0, 0, 0}};
    for (int k = 0; k < 3; k++) {
      for (int what = 0; what < 3; what++) Due.due("queued(" + k + ", " + what + ")", x.queued(k, what), want[k][what]);
    }
    Due.edge(30, "Of the k-th in the QUEUE (0 the first)");
    x.work(1);
    Due.due("the first went", x.queued(0, 0), 2);
    Due.due("behind it", x.queued(1, 0), 0);
    Due.edge(30, "NONE: no such ones");
    for (int what = 0; what < 3; what++) {
      for (int k : new int[] {-1, 2, 24, Integer.MAX_VALUE, Integer.MIN_VALUE}) Due.due("k " + k, x.queued(k, what), -1);
    }
    for (int what : new int[] {-1, 3, Integer.MAX_VALUE, Integer.MIN_VALUE}) Due.due("what " + what, x.queued(0, what), -1);
    fences(x, 22);
    Due.due("the 24th", x.queued(23, 2), 23);
    Due.due("behind the 24th", x.queued(24, 2), -1);
    Due.due("of an empty one", new GatedDevices().queued(0, 0), -1);
  }

  // ---- promises 33, 34

  private static void freeing() {
    Due.edge(33, "(0: it is)");
    GatedDevices x = two();
    Due.due("at first", x.freeing(0), 0);
    Due.due("the last one", x.freeing(63), 0);
    fences(x, 3);
    Due.due("with a QUEUE", x.freeing(0), 0);
    Due.edge(33, "-2: it is USED");
    x.map(0, 0, 0, 1, false);
    Due.due("mapped", x.freeing(0), -2);
    x.map(0, 1, 0, 1, false);
    x.unmap(0, 0);
    x.fence();
    Due.due("mapped still", x.freeing(0), -2);
    Due.edge(33, "or not by all of these");
    x.unmap(0, 1);
    Due.due("no FENCE behind", x.freeing(0), -2);
    GatedDevices lazy = two();
    lazy.map(1, 0, 5, 1, false);
    lazy.unmap(1, 0);
    lazy.fence();
    Due.due("no INVALIDATION", lazy.freeing(5), -2);
    Due.edge(33, "How many steps of WORK, as the QUEUE is, till a FRAME is FREE");
    x.fence();
    x.fence();
    Due.due("the first FENCE behind it", x.freeing(0), 7);
    Due.due("by that many", x.work(6), 6);
    Due.due("not by one less", x.frame(0, 0), 2);
    Due.due("the next step", x.freeing(0), 1);
    x.work(1);
    Due.due("it is", x.freeing(0), 0);
    lazy.flush(1);
    Due.due("FENCE, ALL, FENCE", lazy.freeing(5), 3);
    fences(lazy, 21);
    Due.due("a full QUEUE", lazy.freeing(5), 3);
    GatedDevices last = two();
    last.map(0, 0, 5, 1, false);
    fences(last, 22);
    last.unmap(0, 0);
    last.fence();
    Due.due("the last of 24", last.freeing(5), 24);
    Due.edge(33, "NONE: no such FRAME");
    for (int f : new int[] {-1, 64, Integer.MAX_VALUE, Integer.MIN_VALUE}) Due.due("FRAME " + f, x.freeing(f), -1);
  }

  private static void triedFree() {
    Due.edge(34, "0 FRAMES FREE, if each DOMAIN that is OWED some were FLUSHED");
    GatedDevices x = two();
    x.domain(true);
    Due.due("all", x.tried(0), 64);
    for (int d = 1; d < 3; d++) {
      x.map(d, 0, 4 * d, 1, true);
      x.unmap(d, 0);
    }
    Due.due("both", x.tried(0), 64 - 6);
    x.flush(1);
    Due.due("one is OWED none", x.tried(0), 64 - 6);
    GatedDevices y = two();
    y.map(0, 0, 0, 1, false);
    y.unmap(0, 0);
    Due.due("OWED none: no FENCE comes", y.tried(0), 63);
    y.map(1, 1, 1, 1, false);
    y.unmap(1, 1);
    Due.due("the FENCE of another's FLUSH", y.tried(0), 64);
    GatedDevices ahead = two();
    ahead.map(0, 0, 0, 1, false);
    ahead.map(0, 1, 1, 1, false);
    ahead.unmap(0, 0);
    ahead.fence();
    Due.due("the QUEUE has a FENCE behind it", ahead.tried(0), 63);
    ahead.unmap(0, 1);
    Due.due("the FENCE is ahead of the other", ahead.tried(0), 63);
    ahead.work(1);
    ahead.fence();
    ahead.work(1);
    Due.due("a FENCE behind both", ahead.tried(0), 64);
    GatedDevices late = two();
    fences(late, 9);
    late.map(0, 0, 0, 1, false);
    late.map(1, 0, 1, 1, false);
    late.unmap(0, 0);
    late.unmap(1, 0);
    Due.due("the FLUSH's FENCE is behind what is in the QUEUE", late.tried(0), 64);
    Due.edge(34, "(by numbers, be there room or not) and all the QUEUE worked");
    GatedDevices z = Due.with("");
    for (int d = 0; d < 4; d++) {
      z.domain(true);
      z.map(d, 0, d, 1, false);
      z.map(d, 1, 10 + d, 1, false);
      z.unmap(d, 0);
    }
    fences(z, 24);
    Due.due("four FLUSHES behind 24", z.tried(0), 60);
    Due.due("nothing of it", z.count(18), 4);
    Due.due("nothing of it", z.count(4), 24);
    Due.due("nothing of it", z.count(5), 24);
    Due.due("nothing of it", z.count(6), 0);
    for (int d = 0; d < 4; d++) Due.due("nothing of it", z.domainOf(d, 3), 1);
    GatedDevices shared = two();
    shared.domain(true);
    for (int d = 1; d < 3; d++) {
      shared.map(d, 0, 9, 1, false);
      shared.unmap(d, 0);
    }
    shared.map(0, 0, 8, 1, false);
    shared.unmap(0, 0);
    shared.fence();
    Due.due("a FRAME of both, one that the QUEUE frees", shared.tried(0), 64);
  }

  private static void triedEntries() {
    Due.edge(34, "1 entries of the CACHE, if all the QUEUE, as it is, were worked");
    GatedDevices x = two();
    x.domain(true);
    Due.due("none", x.tried(1), 0);
    x.map(0, 0, 0, 3, true);
    for (int page = 0; page < 4; page++) x.use(0, page, 1);
    Due.due("an empty QUEUE", x.tried(1), 4);
    x.unmap(0, 1);
    Due.due("one less", x.tried(1), 3);
    Due.due("nothing of it", x.count(7), 4);
    Due.due("nothing of it", x.count(4), 1);
    x.flush(2);
    Due.due("ALL of another", x.tried(1), 3);
    x.flush(0);
    Due.due("ALL of it", x.tried(1), 0);
    x.detach(0);
    x.work(24);
    x.attach(0, 2);
    x.map(2, 8, 8, 3, true);
    x.use(0, 8, 1);
    x.unmap(2, 8);
    Due.due("OWED ones stay: as it is", x.tried(1), 1);
    fences(x, 24);
    Due.due("all of 24", x.tried(1), 1);
    Due.edge(34, "NONE for another what");
    for (int what : new int[] {-1, 4, Integer.MAX_VALUE, Integer.MIN_VALUE}) Due.due("what " + what, x.tried(what), -1);
  }
}
