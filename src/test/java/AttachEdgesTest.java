/** The edges that the document names of attach, detach, CAUSES and promises 9, 10, 18, 19: one test for each sentence. */
public final class AttachEdgesTest {
  private static final int[] NO_DEVICE = {-1, 3, 8, Integer.MAX_VALUE, Integer.MIN_VALUE};

  public static void main(String[] args) {
    attach();
    attachWithSpans();
    alreadyAttached();
    cannotBe();
    order();
    detach();
    detachKeeps();
    detachRequests();
    detachRefused();
    causeRows();
    causesOfWhom();
    firstReason();
    behindTheRow();
    Due.end("AttachEdgesTest");
  }

  /** a and b are a group; c is alone. */
  private static GatedDevices three() {
    GatedDevices x = Due.with("device a root;device b root;device c root;alias a b;span a 0 1;span b 62 63;span c 1 2;");
    x.domain(false);
    x.domain(false);
    return x;
  }

  private static void fences(GatedDevices x, int many) {
    for (int k = 0; k < many; k++) x.fence();
  }

  // ---- promise 9

  private static void attach() {
    Due.edge(9, "all PAGES of all SPANS of its DEVICES are mapped, each to the FRAME of its own number, RIGHTS 3, RESERVED");
    GatedDevices x = three();
    Due.due("how many PAGES come to be RESERVED", x.attach(1, 0), 4);
    for (int page : new int[] {0, 1, 62, 63}) {
      int[] want = {page, 3, 1, 0, 3};
      for (int what = 0; what < 5; what++) Due.due("PAGE " + page + ", what " + what, x.page(0, page, what), want[what]);
      Due.due("its FRAME is USED", x.frame(page, 0), 1);
    }
    Due.due("PAGE 2 is not", x.page(0, 2, 0), -2);
    Due.due("PAGE 61 is not", x.page(0, 61, 0), -2);
    Due.due("nothing in the other DOMAIN", x.domainOf(1, 1), 0);
    Due.due("the QUEUE", x.count(4), 0);
    for (int d = 0; d < 3; d++) Due.due("DOMAIN of " + d, Due.device(x, d, 2), d < 2 ? 0 : -2);

    Due.edge(9, "those that are so already stay");
    Due.due("PAGE 1 is so", x.attach(2, 0), 1);
    Due.due("RESERVED", x.domainOf(0, 4), 5);
    Due.due("mapped once", x.frame(1, 1), 1);
    GatedDevices y = Due.with("device a root;device b root;span a 4 4;span b 4 4;");
    y.domain(false);
    Due.due("one", y.attach(0, 0), 1);
    Due.due("none", y.attach(1, 0), 0);

    Due.edge(9, "NONE: no such ones");
    for (int d : NO_DEVICE) Due.due("DEVICE " + d, x.attach(d, 0), -1);
    for (int d : new int[] {-1, 2, 4, Integer.MAX_VALUE, Integer.MIN_VALUE}) {
      Due.due("DOMAIN " + d, x.attach(2, d), -1);
      Due.due("DOMAIN " + d + ", one already", x.attach(0, d), -1);
    }
    Due.causes("no CAUSES of these", x);
    Due.due("of none", new GatedDevices().attach(0, 0), -1);
  }

  private static void attachWithSpans() {
    Due.edge(9, "how many PAGES come to be RESERVED");
    GatedDevices x = Due.with("device a root;device b root;device c root;alias a b;span a 0 63;span a 5 5;span b 0 63;");
    x.domain(true);
    Due.due("no SPANS", x.attach(2, 0), 0);
    Due.due("it has it", Due.device(x, 2, 2), 0);
    Due.due("each PAGE once", x.attach(0, 0), 64);
    Due.due("TABLES", x.domainOf(0, 0), 21);
    Due.due("GROUPS", x.domainOf(0, 6), 2);
    Due.due("FRAMES USED", x.count(17), 64);
    for (int page = 0; page < 64; page++) Due.due("mapped once", x.frame(page, 1), 1);
    GatedDevices y = Due.with("device a root;span a 7 7;");
    y.domain(false);
    y.domain(false);
    y.map(1, 40, 7, 1, false);
    Due.due("a USED FRAME is none to be refused for", y.attach(0, 0), 1);
    Due.due("mapped twice", y.frame(7, 1), 2);
  }

  private static void alreadyAttached() {
    Due.edge(9, "-2: it has a DOMAIN already (also the same)");
    GatedDevices x = three();
    x.attach(1, 1);
    for (int d = 0; d < 2; d++) {
      Due.due("another", x.attach(d, 0), -2);
      Due.causes("another", x, 9, 0);
      Due.due("the same", x.attach(d, 1), -2);
      Due.causes("the same", x, 9, 0);
    }
    Due.due("it has it still", Due.device(x, 0, 2), 1);
    Due.due("nothing in the other", x.domainOf(0, 1), 0);
    x.map(0, 0, 9, 1, false);
    Due.due("goes ahead of what can't be", x.attach(0, 0), -2);
    Due.causes("goes ahead of what can't be", x, 9, 0);
    x.detach(1);
    x.work(24);
    Due.due("it has none any more", x.attach(0, 1), 4);
  }

  private static void cannotBe() {
    Due.edge(9, "It can't be, if a PAGE is mapped otherwise or not RESERVED");
    int[][] mapped = {{0, 0, 3}, {1, 1, 3}, {62, 62, 1}, {63, 9, 3}, {63, 63, 2}};
    for (int[] m : mapped) {
      GatedDevices x = three();
      x.map(0, m[0], m[1], m[2], false);
      Due.due("PAGE " + m[0], x.attach(1, 0), -2);
      Due.causes("PAGE " + m[0], x, 5, 1, 4, m[0] < 60 ? 0 : 1, 1, m[0]);
      Due.due("no DOMAIN", Due.device(x, 0, 2), -2);
      Due.due("no other PAGE", x.domainOf(0, 1), 1);
      Due.due("none RESERVED", x.domainOf(0, 4), 0);
      Due.due("it can be in another one", x.attach(1, 1), 4);
    }
    GatedDevices block = three();
    block.map(0, 60, 60, 3, true);
    block.attach(0, 0);
    Due.causes("in a BLOCK", block, 5, 0, 4, 1, 1, 62);
    Due.due("the BLOCK is whole", block.domainOf(0, 2), 1);

    Due.edge(9, "or that FRAME is HELD");
    for (int frame : new int[] {0, 1, 62, 63}) {
      GatedDevices x = three();
      x.map(1, 30, frame, 1, false);
      x.unmap(1, 30);
      for (int d = 0; d < 2; d++) {
        Due.due("FRAME " + frame, x.attach(1, d), -2);
        Due.causes("FRAME " + frame, x, 5, 1, 4, frame < 60 ? 0 : 1, 2, frame);
      }
      x.fence();
      x.work(24);
      Due.due("freed", x.attach(1, 0), 4);
    }
    GatedDevices y = three();
    y.map(0, 30, 5, 1, false);
    y.unmap(0, 30);
    Due.due("another FRAME is HELD", y.attach(0, 0), 4);
  }

  private static void order() {
    Due.edge(9, "(DEVICES by numbers, their SPANS as told, PAGES from the first on)");
    GatedDevices x = Due.with("device a root;device b root;device c root;alias c a;alias b c;"
        + "span c 50 51;span b 20 22;span b 10 12;span a 40 42;");
    x.domain(false);
    int[][] steps = {{41, 0}, {42, 0}, {21, 1}, {22, 1}, {10, 1}, {12, 1}, {50, 2}, {51, 2}};
    for (int k = steps.length - 1; k >= 0; k--) {
      // From the last one on: each comes ahead of those that are there.
      boolean held = k % 2 == 1;
      x.map(0, held ? k : steps[k][0], held ? steps[k][0] : 3, 3, false);
      if (held) x.unmap(0, k);
      Due.due("refused", x.attach(2, 0), -2);
      Due.causes("step " + k, x, 5, 2, 4, steps[k][1], held ? 2 : 1, steps[k][0]);
    }
  }

  // ---- promise 10

  private static void detach() {
    Due.edge(10, "PAGES of its SPANS that are in no SPAN of a GROUP that has the DOMAIN yet are UNMAPPED; FLUSH");
    GatedDevices x = three();
    x.attach(0, 0);
    x.map(0, 5, 5, 3, false);
    x.fence();
    Due.due("the number of the FENCE", x.detach(1), 2);
    for (int page : new int[] {0, 1, 62, 63}) {
      Due.due("PAGE " + page, x.page(0, page, 0), -2);
      Due.due("its FRAME is HELD", x.frame(page, 0), 2);
    }
    Due.due("what was mapped by map() stays", x.page(0, 5, 0), 5);
    Due.due("no DOMAIN", Due.device(x, 0, 2), -2);
    Due.due("no DOMAIN", Due.device(x, 1, 2), -2);
    Due.due("GROUPS", x.domainOf(0, 6), 0);
    Due.due("RESERVED", x.domainOf(0, 4), 0);
    Due.due("a FENCE, ALL, a FENCE: no INVALIDATIONS of PAGES", x.count(4), 3);
    Due.due("ALL", x.queued(1, 0), 1);
    Due.due("of it", x.queued(1, 1), 0);
    x.work(24);
    Due.due("FREE", x.count(18), 0);
    GatedDevices y = Due.with("device a root;");
    y.domain(true);
    y.attach(0, 0);
    Due.due("no SPANS: FLUSH", y.detach(0), 1);
    Due.due("two in the QUEUE", y.count(4), 2);
    GatedDevices lazy = Due.with("device a root;span a 0 9;");
    lazy.domain(true);
    lazy.attach(0, 0);
    lazy.detach(0);
    Due.due("ten of a LAZY one: one FLUSH", lazy.count(4), 2);
    Due.due("OWED", lazy.domainOf(0, 3), 0);
  }

  private static void detachKeeps() {
    Due.edge(10, "in no SPAN of a GROUP that has the DOMAIN yet");
    GatedDevices x = three();
    x.attach(0, 0);
    x.attach(2, 0);
    x.detach(0);
    Due.due("PAGE 1 is c's, too", x.page(0, 1, 2), 1);
    Due.due("PAGE 0 isn't", x.page(0, 0, 2), -2);
    Due.due("two are left", x.domainOf(0, 1), 2);
    x.detach(2);
    Due.due("none", x.domainOf(0, 1), 0);
    GatedDevices pair = Due.with("device a root;device b root;span a 1 2;span b 2 3;");
    pair.domain(false);
    pair.attach(0, 0);
    pair.attach(1, 0);
    pair.detach(1);
    Due.due("PAGE 2 is the first DEVICE's, too", pair.page(0, 2, 2), 1);
    Due.due("PAGE 3 isn't", pair.page(0, 3, 2), -2);
    GatedDevices w = three();
    w.attach(0, 0);
    w.attach(2, 0);
    w.detach(2);
    Due.due("PAGE 1 is a's, too", w.page(0, 1, 2), 1);
    Due.due("PAGE 2 isn't", w.page(0, 2, 2), -2);
    Due.due("four are left", w.domainOf(0, 1), 4);
    GatedDevices y = three();
    y.attach(0, 0);
    y.attach(2, 1);
    y.detach(0);
    Due.due("who has another DOMAIN keeps nothing", y.domainOf(0, 1), 0);
    Due.due("its own is as it was", y.domainOf(1, 1), 2);
    Due.due("FRAME 1 is USED there", y.frame(1, 0), 1);
    GatedDevices z = three();
    z.attach(0, 0);
    z.detach(0);
    Due.due("who has none keeps nothing", z.domainOf(0, 1), 0);
  }

  private static void detachRequests() {
    Due.edge(10, "all REQUESTS of its DEVICES FAIL (their BATCHES go out of the LINE)");
    GatedDevices x = Due.with("device a root;device b root;device c root;alias a b;stall a;stall b;stall c;");
    x.domain(false);
    x.attach(0, 0);
    x.attach(2, 0);
    for (int d = 0; d < 3; d++) {
      x.use(d, 1, 1);
      x.close(d);
      x.use(d, 2, 1);
    }
    x.use(1, 3, 1);
    Due.due("wait", x.count(11), 7);
    x.detach(0);
    Due.due("FAILED", x.count(14), 5);
    Due.due("wait", x.count(11), 2);
    Due.due("in the LINE", x.count(15), 1);
    Due.due("c's open one", Due.device(x, 2, 5), 1);
    Due.due("c's closed one", Due.device(x, 2, 6), 1);
    Due.due("a's open one", Due.device(x, 0, 5), 0);
    Due.due("b's closed one", Due.device(x, 1, 6), 0);
    Due.due("nothing to close", x.close(1), -2);
    Due.due("c's is the first", x.serve(false), 0);
    Due.due("none behind it", x.serve(false), -2);
  }

  private static void detachRefused() {
    Due.edge(10, "-2: it has no DOMAIN");
    GatedDevices x = three();
    Due.due("none yet", x.detach(1), -2);
    Due.causes("none yet", x, 9, 0);
    x.attach(0, 0);
    x.detach(0);
    Due.due("none any more", x.detach(0), -2);
    Due.causes("none any more", x, 9, 0);
    Due.due("of c", x.detach(2), -2);
    Due.causes("of c", x, 9, 2);
    fences(x, 22);
    Due.due("goes ahead of the QUEUE", x.detach(2), -2);
    Due.causes("goes ahead of the QUEUE", x, 9, 2);
    Due.edge(10, "else the QUEUE has more than 22");
    x.work(24);
    x.attach(0, 0);
    fences(x, 23);
    for (int many = 23; many <= 24; many++) {
      Due.due("" + many, x.detach(0), -2);
      Due.causes("" + many, x, 6, many);
      x.fence();
    }
    Due.due("it has it still", Due.device(x, 1, 2), 0);
    Due.due("RESERVED still", x.domainOf(0, 4), 4);
    x.work(2);
    Due.due("22", x.detach(1), 48);
    Due.edge(10, "NONE: no such DEVICE");
    for (int d : NO_DEVICE) Due.due("DEVICE " + d, x.detach(d), -1);
    Due.causes("no CAUSE of these", x, 6, 24);
    Due.due("of none", new GatedDevices().detach(0), -1);
  }

  // ---- promises 18, 19

  private static void causeRows() {
    GatedDevices x = Due.with("device z root;device a root;device b root;alias a b;stall b;span a 5 5;span z 9 9;");
    x.domain(false);
    x.domain(false);
    x.map(0, 5, 6, 1, false);
    Due.edge(18, "1 PAGE is mapped (the PAGE)");
    x.map(0, 5, 7, 1, false);
    Due.causes("map", x, 1, 5);
    Due.edge(18, "5 the GROUP can't have it (the DEVICE of the call), for 4");
    x.attach(2, 0);
    Due.causes("attach of b, by a's SPAN", x, 5, 2, 4, 1, 1, 5);
    Due.edge(18, "2 HELD (the FRAME)");
    x.map(0, 33, 9, 1, false);
    x.unmap(0, 33);
    x.map(0, 8, 9, 1, false);
    Due.causes("map", x, 2, 9);
    Due.edge(18, "4 a SPAN can't be (the DEVICE), for 1 or 2");
    x.attach(0, 1);
    Due.causes("attach of z", x, 5, 0, 4, 0, 2, 9);
    Due.edge(18, "9 no DOMAIN, or one already (the lowest DEVICE of the GROUP)");
    x.detach(2);
    Due.causes("detach", x, 9, 1);
    x.use(2, 7, 1);
    Due.causes("use of b", x, 10, 2, 9, 1);
    x.use(1, 7, 1);
    Due.causes("use of a", x, 10, 1, 9, 1);
    x.attach(2, 1);
    x.attach(2, 1);
    Due.causes("attach", x, 9, 1);
    x.use(0, 7, 1);
    Due.causes("use", x, 10, 0, 9, 0);
    Due.edge(18, "3 RESERVED (the PAGE)");
    x.unmap(1, 5);
    Due.causes("unmap", x, 3, 5);
    Due.edge(18, "7 nothing is mapped (the LEVEL of the TABLE that has nothing there)");
    x.unmap(1, 4);
    Due.causes("unmap", x, 7, 3);
    x.use(2, 8, 1);
    Due.causes("use", x, 10, 2, 7, 2);
    x.use(1, 16, 2);
    Due.causes("use", x, 10, 1, 7, 1);
    Due.edge(18, "8 the right isn't there (the PAGE)");
    x.map(1, 20, 20, 1, false);
    x.use(1, 20, 2);
    Due.causes("use", x, 10, 1, 8, 20);
    Due.edge(18, "11 too many REQUESTS (the DEVICE), for 10");
    for (int k = 0; k < 7; k++) x.use(2, 20, 2);
    Due.causes("use, eight wait then", x, 10, 2, 8, 20);
    Due.edge(18, "10 a FAULT (the DEVICE), for 7, 8 or 9");
    Due.due("too many", x.use(2, 20, 2), -4);
    Due.causes("use", x, 11, 2, 10, 2, 8, 20);
    Due.edge(18, "6 the QUEUE is full (how many are in it)");
    fences(x, 22);
    x.flush(0);
    Due.causes("flush", x, 6, 23);
    x.fence();
    x.detach(1);
    Due.causes("detach", x, 6, 24);
    x.work(1);
    x.unmap(1, 20);
    Due.causes("unmap", x, 6, 23);
  }

  private static void causesOfWhom() {
    Due.edge(18, "why the latest call of map, unmap, attach, detach, flush, use that answered below -1 did so");
    GatedDevices x = Due.with("device a root;device b root;stall a;");
    Due.causes("none yet", x);
    x.domain(false);
    x.unmap(0, 40);
    Due.causes("unmap", x, 7, 1);
    // Calls that go well, that answer NONE, or that are none of these leave them.
    x.map(0, 0, 0, 1, false);
    x.map(9, 0, 0, 1, false);
    x.attach(0, 0);
    x.attach(0, 9);
    x.use(0, 0, 1);
    x.use(0, 64, 1);
    x.flush(0);
    x.flush(9);
    x.unmap(0, 64);
    x.detach(9);
    Due.due("close", x.close(0), -2);
    Due.due("serve", x.serve(true), -2);
    Due.due("parting", x.parting(0, 1), 0);
    Due.due("text", x.text(99), -2);
    Due.due("gap", x.gap(0, 64), -2);
    Due.due("freeing", x.freeing(0), -2);
    Due.due("queued", x.queued(1, 1), -2);
    Due.causes("the same", x, 7, 1);
    fences(x, 24);
    Due.due("fence", x.fence(), -1);
    Due.causes("the same", x, 7, 1);
    x.detach(0);
    Due.causes("the latest one", x, 6, 24);
    Due.edge(18, "(a REQUEST, too)");
    Due.due("-3", x.use(0, 1, 2), -3);
    Due.causes("-3", x, 10, 0, 7, 3);
    x.close(0);
    x.serve(true);
    Due.causes("serve is none of these", x, 10, 0, 7, 3);
    Due.edge(18, "a row, each for the next one behind it");
    x.use(1, 1, 2);
    Due.causes("two, not three", x, 10, 1, 9, 1);
    x.map(0, 0, 1, 1, false);
    Due.causes("one, not two", x, 1, 0);
  }

  private static void firstReason() {
    String words = "If more than one reason holds, the first of those told at the call is the CAUSE";
    GatedDevices x = three();
    x.attach(0, 0);
    x.map(0, 8, 20, 1, false);
    x.map(0, 9, 21, 1, false);
    x.unmap(0, 9);
    fences(x, 23);
    Due.edge(7, words);
    x.map(0, 8, 21, 1, false);
    Due.causes("mapped, HELD", x, 1, 8);
    x.map(0, 8, 20, 1, true);
    Due.causes("mapped, HELD", x, 1, 8);
    Due.edge(8, words);
    x.unmap(0, 9);
    Due.causes("nothing mapped, QUEUE", x, 7, 3);
    x.unmap(0, 0);
    Due.causes("RESERVED, QUEUE", x, 3, 0);
    x.unmap(0, 8);
    Due.causes("QUEUE", x, 6, 24);
    Due.edge(9, words);
    x.map(1, 1, 9, 1, false);
    x.attach(1, 1);
    Due.causes("a DOMAIN already, a PAGE mapped", x, 9, 0);
    x.attach(2, 1);
    Due.causes("a PAGE mapped", x, 5, 2, 4, 2, 1, 1);
    Due.edge(10, words);
    x.detach(2);
    Due.causes("no DOMAIN, QUEUE", x, 9, 2);
    x.detach(1);
    Due.causes("QUEUE", x, 6, 24);
    Due.edge(14, words);
    x.use(2, 1, 1);
    Due.causes("no DOMAIN, nothing mapped", x, 10, 2, 9, 2);
  }

  private static void behindTheRow() {
    GatedDevices x = Due.with("device a root;span a 5 5;");
    for (int n : new int[] {0, 1, Integer.MAX_VALUE}) {
      Due.edge(18, "-2: there are no so many");
      Due.due("of none: cause(" + n + ")", x.cause(n), -2);
      Due.edge(19, "-2: there are no so many");
      Due.due("of none: about(" + n + ")", x.about(n), -2);
    }
    for (int n : new int[] {-1, -2, Integer.MIN_VALUE}) {
      Due.edge(18, "NONE: k is below 0");
      Due.due("of none: cause(" + n + ")", x.cause(n), -1);
      Due.edge(19, "NONE: k is below 0");
      Due.due("of none: about(" + n + ")", x.about(n), -1);
    }
    x.domain(false);
    x.map(0, 5, 6, 1, false);
    x.attach(0, 0);
    Due.edge(18, "Of the k-th CAUSE (0 the outermost) its number among 1 .. 11");
    int[] causes = {5, 4, 1, -2, -2};
    for (int k = 0; k < 5; k++) Due.due("cause(" + k + ")", x.cause(k), causes[k]);
    Due.due("cause(-1)", x.cause(-1), -1);
    Due.edge(19, "Of the k-th CAUSE what stands in brackets");
    int[] abouts = {0, 0, 5, -2, -2};
    for (int k = 0; k < 5; k++) Due.due("about(" + k + ")", x.about(k), abouts[k]);
    Due.due("about(-1)", x.about(-1), -1);
  }
}
