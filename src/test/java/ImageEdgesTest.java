import java.util.ArrayList;
import java.util.List;

/** The edges that the document names of IMAGES, refused calls and promises 34 (3), 36, 37, 38: one test a sentence. */
public final class ImageEdgesTest {
  public static void main(String[] args) {
    keepAndBack();
    noImage();
    keepsAll();
    keepsNotTheTape();
    keepsNotTheFault();
    refusedChangesNothing();
    askingChangesNothing();
    triedTables();
    counts();
    countOfNone();
    Due.end("ImageEdgesTest");
  }

  // ---- promises 36, 37

  private static void keepAndBack() {
    Due.edge(36, "An IMAGE is kept (in place of one ahead): how many DOMAINS there are");
    GatedDevices x = new GatedDevices();
    Due.due("none", x.keep(), 0);
    for (int d = 1; d <= 4; d++) {
      x.domain(false);
      Due.due("DOMAINS", x.keep(), d);
    }
    x.fence();
    Due.due("the later one", x.back(), 4);
    Due.due("no FENCE yet", x.count(4), 0);
    x.fence();
    x.keep();
    x.fence();
    x.back();
    Due.due("in place of the one ahead", x.count(4), 1);
    Due.edge(37, "All is as in the IMAGE (it stays): how many DOMAINS");
    GatedDevices y = new GatedDevices();
    y.domain(true);
    y.keep();
    for (int k = 0; k < 3; k++) {
      Due.due("a second one", y.domain(false), 1);
      y.map(0, 0, 0, 1, false);
      Due.due("back", y.back(), 1);
      Due.due("one", y.count(3), 1);
      Due.due("nothing mapped", y.count(17), 0);
    }
    Due.due("another TEXT", y.text(0), 0);
    Due.due("no IMAGE any more", y.back(), -1);
  }

  private static void noImage() {
    Due.edge(37, "NONE: there is none");
    GatedDevices x = new GatedDevices();
    Due.due("a new object", x.back(), -1);
    x.domain(false);
    Due.due("nothing kept", x.back(), -1);
    Due.due("all is as it was", x.count(3), 1);
    x.keep();
    Due.tell(x, "?");
    Due.due("a TEXT with a FAULT leaves it", x.back(), 1);
    Due.due("a TEXT that is -2 leaves it", x.text(1) == -2 ? x.back() : 0, 1);
    Due.tell(x, "room 1;");
    Due.due("a TEXT drops it", x.back(), -1);
  }

  private static GatedDevices busy() {
    GatedDevices x = Due.with("bridge n root 2;device a n;device b n;device c root;stall a;span b 4 5;room 3;seed 5;");
    x.domain(true);
    x.domain(false);
    x.attach(0, 0);
    x.map(0, 8, 8, 3, true);
    x.map(1, 12, 12, 2, true);
    x.use(1, 8, 1);
    x.use(1, 9, 1);
    x.use(1, 9, 1);
    x.unmap(0, 9);
    x.use(1, 9, 1);
    x.unmap(1, 13);
    x.fence();
    x.work(2);
    x.fence();
    x.use(0, 20, 1);
    x.close(0);
    x.use(0, 8, 2);
    x.map(0, 20, 20, 3, false);
    x.serve(true);
    x.use(0, 22, 2);
    x.close(0);
    x.serve(false);
    x.use(0, 22, 2);
    x.close(0);
    x.use(0, 23, 2);
    x.use(2, 6, 1);
    x.use(1, 30, 2);
    return x;
  }

  /** What can be told, in a row; some 300 questions, since an object has 512 calls. */
  private static List<Long> all(GatedDevices x) {
    List<Long> row = new ArrayList<>();
    for (int what = 0; what <= 20; what++) row.add((long) x.count(what));
    for (int k = 0; k < 4; k++) {
      row.add((long) x.cause(k));
      row.add((long) x.about(k));
    }
    for (int d = 0; d < 3; d++) for (int what = 0; what < 8; what++) row.add((long) Due.device(x, d, what));
    for (int d = 0; d < 3; d++) for (int what = 0; what < 7; what++) row.add((long) x.domainOf(d, what));
    for (int k = 0; k < 4; k++) for (int what = 0; what < 5; what++) row.add((long) x.cached(k, what));
    for (int k = 0; k < 5; k++) for (int what = 0; what < 3; what++) row.add((long) x.queued(k, what));
    for (int k = 0; k < 6; k++) for (int what = 0; what < 4; what++) row.add((long) x.record(k, what));
    for (int what = 0; what < 4; what++) row.add((long) x.tried(what));
    for (int f = 0; f < 24; f++) for (int what = 0; what < 4; what++) row.add((long) x.frame(f, what));
    for (int f = 0; f < 24; f++) row.add((long) x.freeing(f));
    for (int p = 0; p < 24; p++) row.add((long) x.page(p % 2, p, 0));
    for (int d = 0; d < 2; d++) for (int what = 0; what < 3; what++) row.add(x.reach(d, 1, what));
    row.add((long) x.churn(-1, 40));
    return row;
  }

  /** What can be told of pages, gaps and groups. */
  private static List<Long> rest(GatedDevices x) {
    List<Long> row = new ArrayList<>();
    for (int d = 0; d < 2; d++) {
      for (int p = 0; p < 64; p += 2) for (int what = 0; what < 5; what++) row.add((long) x.page(d, p, what));
    }
    for (int n = 1; n < 64; n += 7) row.add((long) x.gap(0, n));
    row.add(x.shared(0, 1));
    for (int d = 0; d < 3; d++) row.add((long) x.group(d));
    row.add((long) x.parting(0, 1));
    return row;
  }

  private static void same(String when, List<Long> got, List<Long> want) {
    for (int k = 0; k < want.size(); k++) Due.due(when + ": asked " + k, got.get(k), want.get(k));
  }

  private static void change(GatedDevices x) {
    x.use(0, 40, 2);
    x.close(0);
    x.map(0, 40, 40, 3, false);
    x.serve(false);
    x.serve(true);
    x.map(0, 24, 24, 3, false);
    x.use(1, 9, 1);
    x.use(1, 24, 1);
    x.use(1, 8, 1);
    x.serve(true);
    x.close(0);
    x.serve(false);
    x.work(24);
    x.detach(0);
    x.flush(1);
    x.domain(false);
    x.attach(2, 2);
    x.map(2, 0, 40, 3, true);
    x.use(2, 1, 1);
    x.use(2, 5, 1);
    x.unmap(1, 12);
    x.unmap(0, 8);
    x.tidy(0);
    x.fence();
    x.map(1, 14, 1, 1, false);
  }

  private static void keepsAll() {
    Due.edge(36, "An IMAGE keeps all (CAUSES, RECORDS, counts, too)");
    GatedDevices alike = busy();
    for (int what = 0; what <= 20; what++) {
      Due.due("ahead: is there some count(" + what + ")", alike.count(what) > 0 ? 1 : 0, 1);
    }
    for (int half = 0; half < 2; half++) {
      GatedDevices x = busy();
      x.keep();
      change(x);
      Due.due("back", x.back(), 2);
      same("as it was", half == 0 ? all(x) : rest(x), half == 0 ? all(busy()) : rest(busy()));
    }
    GatedDevices asked = Due.with("device a root;device b root;stall a;stall b;");
    asked.domain(false);
    asked.domain(true);
    asked.attach(0, 0);
    asked.attach(1, 1);
    asked.use(1, 7, 2);
    asked.close(1);
    asked.keep();
    asked.serve(false);
    asked.use(0, 8, 1);
    asked.map(1, 7, 7, 2, false);
    asked.back();
    Due.due("b's REQUEST", Due.device(asked, 1, 6), 1);
    Due.due("not a's", Due.device(asked, 0, 5), 0);
    asked.map(1, 7, 7, 2, false);
    Due.due("b's DOMAIN, PAGE and right", asked.tried(2), 1);
    Due.due("b's DOMAIN, PAGE and right", asked.serve(true), 1);
    framesKept();
    fencesKept();
    // What comes later is as it would have been, too.
    GatedDevices x = busy();
    x.keep();
    change(x);
    x.back();
    change(x);
    GatedDevices y = busy();
    change(y);
    same("as it would have been", all(x), all(y));
  }

  /** A frame that waits for a fence behind its invalidation waits for it also when it came back with an image. */
  private static void framesKept() {
    GatedDevices x = new GatedDevices();
    x.domain(false);
    x.map(0, 0, 0, 1, false);
    x.fence();
    x.unmap(0, 0);
    x.keep();
    x.fence();
    x.work(24);
    Due.due("FREE", x.frame(0, 0), 0);
    x.map(0, 0, 0, 1, false);
    x.unmap(0, 0);
    x.back();
    Due.due("HELD", x.frame(0, 0), 2);
    x.work(24);
    Due.due("by no FENCE ahead", x.frame(0, 0), 2);
    x.fence();
    Due.due("by one behind", x.freeing(0), 1);
    GatedDevices y = new GatedDevices();
    y.domain(true);
    y.map(0, 0, 0, 1, false);
    y.unmap(0, 0);
    y.keep();
    y.flush(0);
    y.work(24);
    y.back();
    y.fence();
    y.work(24);
    Due.due("no INVALIDATION came", y.frame(0, 0), 2);
    y.flush(0);
    y.work(24);
    Due.due("it came", y.frame(0, 0), 0);
  }

  private static void fencesKept() {
    GatedDevices x = new GatedDevices();
    for (int k = 0; k < 20; k++) x.fence();
    x.work(13);
    x.keep();
    for (int k = 0; k < 20; k++) x.fence();
    x.work(24);
    x.back();
    Due.due("FENCES that came", x.count(5), 20);
    Due.due("that passed", x.count(6), 13);
    Due.due("the first in the QUEUE", x.queued(0, 2), 14);
    Due.due("the next one", x.fence(), 21);
  }

  private static void feed(GatedDevices x, String text) {
    int[] n = Due.numbers(text);
    for (int i = 0; i < n.length; i += 5) x.feed(n[i], n[i + 1], n[i + 2], n[i + 3], n[i + 4]);
  }

  private static void keepsNotTheTape() {
    Due.edge(37, "but the TAPE");
    GatedDevices x = new GatedDevices();
    feed(x, "room 1;             ");
    x.keep();
    feed(x, "seed 1;             ");
    x.back();
    Due.due("both are there", x.text(40), 2);
    GatedDevices y = new GatedDevices();
    feed(y, "room 1;             ");
    y.keep();
    Due.due("a FAULT empties it", y.text(3), -1);
    y.back();
    Due.due("empty still", y.text(1), -2);
    Due.due("empty still", y.feed(0, 0, 0, 0, 0), 20);
  }

  private static void keepsNotTheFault() {
    Due.edge(37, "the FAULT");
    GatedDevices x = new GatedDevices();
    Due.tell(x, "room 1;room 1;");
    x.keep();
    Due.tell(x, "seed 100000;");
    x.back();
    Due.due("the later one", x.fault(0), 2);
    Due.due("its place", x.fault(1), 5);
    GatedDevices y = new GatedDevices();
    y.keep();
    Due.tell(y, "?");
    y.back();
    Due.due("a FAULT stays one", y.fault(0), 1);
    Due.due("its place", y.fault(1), 0);
  }

  // ---- what is said of refused calls

  private static void refusedChangesNothing() {
    Due.edge(38, "A call that is refused changes nothing but CAUSES, RECORDS and what is said of it");
    for (int which = 0; which < 15; which++) {
      GatedDevices x = busy();
      while (which >= 11 && x.count(4) < 23) x.fence();
      int[] ahead = new int[21];
      for (int what = 0; what <= 20; what++) ahead[what] = x.count(what);
      long tables = tables(x);
      Due.due("call " + which, refused(x, which), -2);
      for (int what = 0; what <= 20; what++) {
        // Of use() a WALK and a RECORD are said.
        boolean said = which >= 7 && which <= 9 && (what == 9 || what == 20);
        if (!said) Due.due("call " + which + ": count(" + what + ")", x.count(what), ahead[what]);
      }
      Due.due("call " + which + ": tables", tables(x), tables);
    }
  }

  private static int refused(GatedDevices x, int which) {
    switch (which) {
      case 0: return x.map(0, 8, 30, 1, false);
      case 1: return x.map(1, 40, 9, 1, false);
      case 2: return x.unmap(0, 63);
      case 3: return x.unmap(0, 4);
      case 4: return x.attach(0, 1);
      case 5: return x.attach(1, 0);
      case 6: return x.detach(2);
      case 7: return x.use(1, 63, 1);
      case 8: return x.use(1, 21, 2);
      case 9: return x.use(2, 8, 1);
      case 10: return x.close(2);
      case 11: return x.flush(0);
      case 12: return x.unmap(0, 8);
      case 13: return x.unmap(1, 12);
      default: return x.detach(1);
    }
  }

  private static long tables(GatedDevices x) {
    long sum = 0;
    for (int p = 0; p < 64; p++) sum = sum * 31 + x.page(0, p, 0) * 5 + x.page(1, p, 3);
    for (int what = 0; what < 7; what++) sum = (sum * 31 + x.domainOf(0, what)) * 31 + x.domainOf(1, what);
    for (int d = 0; d < 3; d++) sum = (sum * 31 + Due.device(x, d, 2)) * 31 + Due.device(x, d, 5);
    return sum;
  }

  private static void askingChangesNothing() {
    Due.edge(34, "What would be");
    GatedDevices x = busy();
    List<Long> ahead = all(busy());
    for (int what = -1; what <= 4; what++) x.tried(what);
    x.churn(7, 40);
    for (int f = 0; f < 64; f += 9) x.freeing(f);
    x.parting(0, 1);
    x.partingSet(0, 2);
    same("asked ahead", all(x), ahead);
  }

  // ---- promise 34

  private static void triedTables() {
    Due.edge(34, "3 TABLES of all DOMAINS, if each were TIDIED");
    GatedDevices x = new GatedDevices();
    Due.due("no DOMAINS", x.tried(3), 0);
    for (int d = 0; d < 4; d++) {
      x.domain(d % 2 == 0);
      Due.due("TOP ones", x.tried(3), d + 1);
    }
    for (int d = 0; d < 4; d += 3) for (int page = 60; page < 64; page++) x.map(d, page, page, 1, false);
    Due.due("TABLES as they are", x.count(19), 8);
    Due.due("TIDIED", x.tried(3), 6);
    Due.due("nothing of it", x.count(19), 8);
    Due.due("nothing of it", x.domainOf(0, 2), 0);
    x.tidy(3);
    Due.due("one is", x.tried(3), 6);
    x.unmap(0, 60);
    Due.due("three are none", x.tried(3), 7);
  }

  // ---- promise 38

  private static void counts() {
    Due.edge(38, "0 DEVICES, 1 BRIDGES, 2 GROUPS, 3 DOMAINS, 4 in the QUEUE, 5 FENCES that came, 6 that passed");
    GatedDevices x = busy();
    int[] want = {3, 1, 2, 2, 1, 2, 1, 3, 3, 8, 1, 2, 4, 1, 1, 1, 54, 9, 1, 9, 6};
    int[] got = new int[21];
    for (int what = 0; what <= 20; what++) got[what] = x.count(what);
    for (int what = 0; what < 7; what++) Due.due("count(" + what + ")", got[what], want[what]);
    Due.edge(38, "7 entries of the CACHE, 8 HITS, 9 WALKS, 10 STALE HITS (8 .. 10 by use(), serve())");
    for (int what = 7; what < 11; what++) Due.due("count(" + what + ")", got[what], want[what]);
    Due.edge(38, "11 REQUESTS that wait, 12 that came, 13 TAKEN, 14 that FAILED, 15 BATCHES in the LINE");
    for (int what = 11; what < 16; what++) Due.due("count(" + what + ")", got[what], want[what]);
    Due.edge(38, "16 FRAMES FREE, 17 USED, 18 HELD, 19 TABLES of all, 20 RECORDS");
    for (int what = 16; what < 21; what++) Due.due("count(" + what + ")", got[what], want[what]);
  }

  private static void countOfNone() {
    Due.edge(38, "NONE for another what");
    GatedDevices x = busy();
    for (int what : new int[] {-1, 21, 22, Integer.MAX_VALUE, Integer.MIN_VALUE}) Due.due("what " + what, x.count(what), -1);
    GatedDevices y = new GatedDevices();
    for (int what = 0; what <= 20; what++) Due.due("a new object: count(" + what + ")", y.count(what), what == 16 ? 64 : 0);
    for (int what : new int[] {-1, 21}) Due.due("a new object: what " + what, y.count(what), -1);
  }
}
