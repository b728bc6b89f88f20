/** The edges that the document names of REQUESTS, BATCHES, the LINE and promises 14 to 16, 34 (2): one test a sentence. */
public final class RequestEdgesTest {
  public static void main(String[] args) {
    requestWaits();
    eightWait();
    allOfItsOpenBatch();
    close();
    line();
    served();
    servedNotWell();
    serveNone();
    tried();
    Due.end("RequestEdgesTest");
  }

  /** a and b stall, c doesn't; all have the domain. */
  private static GatedDevices three() {
    GatedDevices x = Due.with("device a root;device b root;device c root;stall a;stall b;room 8;");
    x.domain(false);
    for (int d = 0; d < 3; d++) x.attach(d, 0);
    return x;
  }

  private static void counts(String when, GatedDevices x, int wait, int came, int taken, int failed, int line) {
    int[] want = {wait, came, taken, failed, line};
    for (int k = 0; k < 5; k++) Due.due(when + ": count(" + (11 + k) + ")", x.count(11 + k), want[k]);
  }

  private static void ask(GatedDevices x, int device, int many) {
    for (int k = 0; k < many; k++) Due.due("a REQUEST waits", x.use(device, k, 1), -3);
  }

  // ---- promise 14

  private static void requestWaits() {
    Due.edge(14, "Else a REQUEST (DEVICE, PAGE, right) comes to the DEVICE's open BATCH");
    GatedDevices x = three();
    Due.due("nothing is mapped", x.use(0, 63, 2), -3);
    counts("one", x, 1, 1, 0, 0, 0);
    Due.due("open", Due.device(x, 0, 5), 1);
    x.map(0, 0, 0, 1, false);
    Due.due("the right isn't there", x.use(0, 0, 2), -3);
    Due.due("no FAULT, no REQUEST", x.use(0, 0, 1), 0);
    Due.due("c doesn't STALL", x.use(2, 0, 2), -2);
    Due.due("b's own BATCH", x.use(1, 0, 2), -3);
    counts("three", x, 3, 3, 0, 0, 0);
    Due.due("a's open", Due.device(x, 0, 5), 2);
    Due.due("b's open", Due.device(x, 1, 5), 1);
    Due.due("alike ones are two", x.use(1, 0, 2), -3);
    Due.due("b's open", Due.device(x, 1, 5), 2);
  }

  private static void eightWait() {
    Due.edge(14, "if less than 8 REQUESTS wait (of all BATCHES, open and closed)");
    GatedDevices x = three();
    ask(x, 0, 8);
    counts("eight", x, 8, 8, 0, 0, 0);
    Due.due("the ninth", x.use(0, 9, 1), -4);
    counts("all eight failed", x, 0, 8, 0, 8, 0);
    Due.due("nothing open", Due.device(x, 0, 5), 0);
    ask(x, 0, 1);
    GatedDevices closed = three();
    ask(closed, 0, 7);
    closed.close(0);
    ask(closed, 0, 1);
    Due.due("seven closed, one open", closed.use(0, 9, 1), -4);
    GatedDevices others = three();
    ask(others, 1, 4);
    others.close(1);
    ask(others, 1, 3);
    ask(others, 0, 1);
    Due.due("seven of another", others.use(0, 9, 1), -4);
    counts("of seven, one failed", others, 7, 8, 0, 1, 1);
    Due.due("there is room again", others.use(0, 9, 1), -3);
    GatedDevices served = three();
    ask(served, 0, 4);
    served.close(0);
    ask(served, 0, 4);
    Due.due("served", served.serve(true), 0);
    ask(served, 0, 4);
    Due.due("those that were served wait no more", served.count(11), 8);
    Due.due("the ninth", served.use(0, 9, 1), -4);
  }

  private static void allOfItsOpenBatch() {
    Due.edge(14, "if not, all of its open BATCH FAIL, and this one doesn't come");
    GatedDevices x = three();
    ask(x, 0, 2);
    x.close(0);
    ask(x, 1, 3);
    ask(x, 0, 3);
    Due.due("too many", x.use(0, 60, 2), -4);
    counts("a's three failed", x, 5, 8, 0, 3, 1);
    Due.due("a's open", Due.device(x, 0, 5), 0);
    Due.due("a's closed stays", Due.device(x, 0, 6), 1);
    Due.due("b's open stays", Due.device(x, 1, 5), 3);
    Due.causes("too many", x, 11, 0, 10, 0, 7, 1);
    Due.due("nothing to close", x.close(0), -2);
    ask(x, 1, 3);
    Due.due("nothing open: none FAILS", x.use(0, 60, 2), -4);
    counts("none more", x, 8, 11, 0, 3, 1);
    Due.due("of b: six", x.use(1, 60, 2), -4);
    counts("b's six failed", x, 2, 11, 0, 9, 1);
    Due.due("c is refused", x.use(2, 60, 2), -2);
    Due.due("a WALK of each", x.count(9), 15);
  }

  // ---- promise 15

  private static void close() {
    Due.edge(15, "A DEVICE's open BATCH is closed: how many REQUESTS it has");
    GatedDevices x = three();
    ask(x, 0, 1);
    Due.due("one", x.close(0), 1);
    ask(x, 0, 7);
    Due.due("seven", x.close(0), 7);
    GatedDevices y = three();
    ask(y, 0, 8);
    Due.due("eight", y.close(0), 8);
    Due.due("they wait still", y.count(11), 8);
    Due.edge(15, "-2: it has none");
    Due.due("closed already", y.close(0), -2);
    Due.due("b has none", y.close(1), -2);
    Due.due("c can't have one", y.close(2), -2);
    Due.due("one in the LINE", y.count(15), 1);
    y.use(0, 9, 1);
    Due.due("it FAILED", y.close(0), -2);
    Due.edge(15, "NONE: no such DEVICE");
    for (int d : new int[] {-1, 3, 8, Integer.MAX_VALUE, Integer.MIN_VALUE}) Due.due("DEVICE " + d, y.close(d), -1);
    Due.due("of none", new GatedDevices().close(0), -1);
  }

  private static void line() {
    Due.edge(15, "A BATCH is closed by call, and is the last in the LINE");
    GatedDevices x = three();
    for (int page = 0; page < 2; page++) x.use(0, page, 1);
    for (int page = 2; page < 4; page++) x.use(1, page, 1);
    x.close(1);
    Due.due("one", x.count(15), 1);
    x.close(0);
    Due.due("two", x.count(15), 2);
    x.use(1, 4, 1);
    x.close(1);
    Due.due("three", x.count(15), 3);
    x.use(0, 5, 1);
    x.map(0, 0, 0, 3, true);
    x.map(0, 4, 4, 3, true);
    Due.edge(16, "the first one in the LINE is served by call");
    Due.due("b's", x.serve(true), 2);
    Due.due("two are left", x.count(15), 2);
    Due.due("a's", x.serve(true), 2);
    Due.due("b's next", x.serve(true), 1);
    Due.due("an open one isn't in it", x.serve(true), -2);
    Due.due("it waits", x.count(11), 1);
    int[] pages = {2, 3, 0, 1, 4};
    for (int k = 0; k < 5; k++) Due.due("as they were served", x.cached(k, 1), pages[k]);
  }

  // ---- promise 16

  private static void served() {
    Due.edge(16, "well, each of its REQUESTS, as they came, by a LOOK: it is TAKEN, if it FAULTS not, else it FAILS");
    GatedDevices x = Due.with("device a root;stall a;room 1;");
    x.domain(false);
    x.attach(0, 0);
    for (int page : new int[] {0, 1, 1, 0, 2, 5}) x.use(0, page, 1);
    x.use(0, 2, 2);
    x.close(0);
    x.map(0, 0, 0, 3, false);
    x.map(0, 1, 1, 3, false);
    x.map(0, 2, 2, 1, false);
    int walks = x.count(9);
    Due.due("TAKEN", x.serve(true), 5);
    counts("two failed", x, 0, 7, 5, 2, 0);
    Due.due("one HIT, as they came", x.count(8), 1);
    Due.due("WALKS", x.count(9), walks + 6);
    Due.due("the last entry", x.cached(0, 1), 2);
    GatedDevices y = three();
    y.use(0, 0, 2);
    y.use(0, 0, 2);
    y.close(0);
    y.map(0, 0, 0, 2, false);
    Due.due("an entry of it", y.use(1, 0, 2), 0);
    y.unmap(0, 0);
    Due.due("by STALE HITS", y.serve(true), 2);
    Due.due("STALE HITS", y.count(10), 2);
    GatedDevices w = three();
    w.use(0, 0, 1);
    w.close(0);
    w.use(1, 4, 2);
    w.use(1, 5, 1);
    w.close(1);
    w.map(0, 4, 4, 1, false);
    w.map(0, 5, 5, 1, false);
    Due.due("a's FAILS", w.serve(true), 0);
    Due.due("b's second one alone has the right", w.serve(true), 1);
    Due.due("its entry", w.cached(0, 1), 5);
    Due.edge(16, "(no new REQUEST comes)");
    GatedDevices z = three();
    ask(z, 0, 3);
    z.close(0);
    Due.due("none is TAKEN", z.serve(true), 0);
    counts("none waits", z, 0, 3, 0, 3, 0);
    Due.due("none open", Due.device(z, 0, 5), 0);
    Due.due("no RECORDS of it", z.count(20), 3);
  }

  private static void servedNotWell() {
    Due.edge(16, "not well: all FAIL");
    GatedDevices x = three();
    ask(x, 0, 3);
    x.close(0);
    ask(x, 0, 2);
    x.close(0);
    ask(x, 1, 1);
    x.map(0, 0, 0, 3, true);
    Due.due("none is TAKEN", x.serve(false), 0);
    counts("three failed", x, 3, 6, 0, 3, 1);
    Due.due("no WALK", x.count(9), 6);
    Due.due("no entry", x.count(7), 0);
    Due.due("the next one well", x.serve(true), 2);
    counts("the next one", x, 1, 6, 2, 3, 0);
  }

  private static void serveNone() {
    Due.edge(16, "-2: there is none");
    GatedDevices z = three();
    ask(z, 0, 2);
    z.close(0);
    z.serve(false);
    ask(z, 1, 2);
    Due.due("new ones are open", Due.device(z, 1, 5), 2);
    Due.due("new ones are open", z.serve(true), -2);
    Due.due("both are closed", z.close(1), 2);
    GatedDevices x = new GatedDevices();
    Due.due("of a new object", x.serve(true), -2);
    Due.due("of a new object", x.serve(false), -2);
    GatedDevices y = three();
    ask(y, 0, 2);
    Due.due("open ones are not in the LINE", y.serve(true), -2);
    Due.due("open ones are not in the LINE", y.serve(false), -2);
    counts("they wait", y, 2, 2, 0, 0, 0);
    y.close(0);
    Due.due("one", y.serve(false), 0);
    Due.due("none any more", y.serve(false), -2);
  }

  // ---- promise 34

  private static void tried() {
    Due.edge(34, "2 how many REQUESTS would be TAKEN by it, if all BATCHES in the LINE were served well");
    GatedDevices x = three();
    Due.due("no LINE", x.tried(2), 0);
    x.use(0, 0, 1);
    x.use(0, 9, 1);
    x.close(0);
    x.use(1, 1, 1);
    x.close(1);
    x.use(0, 2, 1);
    x.close(0);
    x.use(1, 3, 1);
    Due.due("all would FAIL", x.tried(2), 0);
    x.map(0, 0, 0, 3, true);
    Due.due("of three BATCHES; open ones don't count", x.tried(2), 3);
    counts("nothing of it", x, 5, 5, 0, 0, 3);
    Due.due("nothing of it: WALKS", x.count(9), 5);
    Due.due("nothing of it: entries", x.count(7), 0);
    x.serve(true);
    Due.due("two are left", x.tried(2), 2);
    x.unmap(0, 1);
    Due.due("PAGE 1 is mapped no more", x.tried(2), 1);
    x.serve(false);
    Due.due("one is left", x.tried(2), 1);
    x.serve(true);
    Due.due("none is left", x.tried(2), 0);
    // A hit that would be there only until an entry ahead in the line takes its place.
    GatedDevices y = Due.with("device a root;stall a;room 1;");
    y.domain(false);
    y.attach(0, 0);
    y.use(0, 5, 1);
    y.use(0, 6, 1);
    y.close(0);
    y.use(0, 5, 1);
    y.close(0);
    y.map(0, 5, 5, 3, false);
    y.map(0, 6, 6, 3, false);
    y.use(0, 5, 1);
    y.unmap(0, 5);
    Due.due("a STALE HIT, a WALK, a FAULT", y.tried(2), 2);
    Due.due("one BATCH", y.serve(true), 2);
    Due.due("the other", y.serve(true), 0);
  }
}
