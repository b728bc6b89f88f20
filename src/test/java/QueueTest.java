/** Promises 11, 12, 13, 26, 30, 33 and 34 (0, 1): the queue, fences, frames held. */
public final class QueueTest {
  public static void main(String[] args) {
    flush();
    fence();
    work();
    queued();
    held();
    heldByMany();
    heldWithoutFence();
    usedElsewhere();
    freeing();
    freeIfFlushed();
    entriesIfWorked();
    frame();
    Due.end("QueueTest");
  }

  private static void flush() {
    GatedDevices x = new GatedDevices();
    Due.due("no such domain", x.flush(0), -1);
    x.domain(true);
    Due.due("first", x.flush(0), 1);
    Due.due("second", x.flush(0), 2);
    Due.due("four in the queue", x.count(4), 4);
    x.map(0, 0, 0, 1, false);
    x.unmap(0, 0);
    Due.due("owed", x.domainOf(0, 3), 1);
    Due.due("third", x.flush(0), 3);
    Due.due("nothing owed", x.domainOf(0, 3), 0);
    for (int k = 6; k < 22; k++) x.fence();
    Due.due("22 are not too many", x.flush(0), 20);
    Due.due("24 are", x.flush(0), -2);
    Due.causes("full", x, 6, 24);
    x.work(1);
    Due.due("23 are", x.flush(0), -2);
    Due.causes("full", x, 6, 23);
    Due.due("fences that came", x.count(5), 20);
    Due.due("flush(-1)", x.flush(-1), -1);
    Due.due("flush(4)", x.flush(4), -1);
  }

  private static void fence() {
    GatedDevices x = new GatedDevices();
    for (int k = 1; k <= 24; k++) Due.due("fence " + k, x.fence(), k);
    Due.due("no room", x.fence(), -1);
    Due.due("came", x.count(5), 24);
    Due.due("no cause of it", x.cause(0), -2);
    x.work(2);
    Due.due("fence 25", x.fence(), 25);
    Due.due("passed", x.count(6), 2);
  }

  private static void work() {
    GatedDevices x = Due.with("device a root;room 16;");
    x.domain(false);
    x.domain(false);
    x.attach(0, 0);
    x.map(0, 0, 0, 3, true);
    for (int page = 0; page < 4; page++) x.use(0, page, 1);
    x.unmap(0, 2);
    x.unmap(0, 1);
    x.flush(1);
    x.flush(0);
    Due.due("work(0)", x.work(0), 0);
    Due.due("entries", x.count(7), 4);
    Due.due("one step", x.work(1), 1);
    Due.due("page 2 went", x.count(7), 3);
    Due.due("the first is 0", x.cached(0, 1), 0);
    Due.due("then 1", x.cached(1, 1), 1);
    Due.due("then 3", x.cached(2, 1), 3);
    Due.due("two steps: page 1, all of another", x.work(2), 2);
    Due.due("page 1 went", x.count(7), 2);
    Due.due("none passed", x.count(6), 0);
    Due.due("the rest", x.work(24), 3);
    Due.due("all went", x.count(7), 0);
    Due.due("both passed", x.count(6), 2);
    Due.due("nothing is left", x.work(24), 0);
    Due.due("work(25)", x.work(25), -1);
    Due.due("work(-1)", x.work(-1), -1);
  }

  private static void queued() {
    GatedDevices x = new GatedDevices();
    x.domain(false);
    x.domain(false);
    x.map(1, 33, 5, 1, false);
    x.unmap(1, 33);
    x.flush(1);
    int[][] want = {{0, 1, 33}, {1, 1, -2}, {2, -2, 1}};
    for (int k = 0; k < 3; k++) {
      for (int what = 0; what < 3; what++) {
        Due.due("queued(" + k + ", " + what + ")", x.queued(k, what), want[k][what]);
      }
    }
    Due.due("queued(3, 0)", x.queued(3, 0), -1);
    Due.due("queued(-1, 0)", x.queued(-1, 0), -1);
    Due.due("queued(0, 3)", x.queued(0, 3), -1);
    Due.due("queued(0, -1)", x.queued(0, -1), -1);
    x.work(2);
    Due.due("the fence is the first", x.queued(0, 2), 1);
    Due.due("nothing behind it", x.queued(1, 0), -1);
  }

  private static void held() {
    GatedDevices x = new GatedDevices();
    x.domain(false);
    x.map(0, 0, 9, 1, false);
    x.fence();
    x.unmap(0, 0);
    Due.due("held", x.frame(9, 0), 2);
    Due.due("how many", x.count(18), 1);
    x.work(24);
    Due.due("a fence ahead of the invalidation frees it not", x.frame(9, 0), 2);
    x.fence();
    x.work(1);
    Due.due("one behind it does", x.frame(9, 0), 0);
    Due.due("mapped again", x.map(0, 0, 9, 1, false), 3);
    x.domain(true);
    x.map(1, 4, 8, 1, false);
    x.unmap(1, 4);
    x.fence();
    x.work(24);
    Due.due("no invalidation yet", x.frame(8, 0), 2);
    x.flush(1);
    x.work(1);
    Due.due("no fence yet", x.frame(8, 0), 2);
    x.work(1);
    Due.due("free", x.frame(8, 0), 0);
  }

  private static void heldByMany() {
    GatedDevices x = new GatedDevices();
    x.domain(false);
    x.domain(true);
    x.map(0, 0, 9, 1, false);
    x.map(1, 0, 9, 1, false);
    x.map(1, 1, 9, 1, false);
    x.unmap(1, 0);
    x.unmap(0, 0);
    Due.due("used still", x.frame(9, 0), 1);
    x.unmap(1, 1);
    Due.due("held", x.frame(9, 0), 2);
    x.flush(0);
    x.work(24);
    Due.due("held for the lazy domain", x.frame(9, 0), 2);
    x.flush(1);
    x.work(24);
    Due.due("free", x.frame(9, 0), 0);
    // The same page of another domain, another page of the same domain are none of it.
    x.domain(false);
    x.map(1, 3, 9, 1, false);
    x.map(2, 3, 10, 1, false);
    x.unmap(1, 3);
    x.unmap(2, 3);
    x.fence();
    x.work(24);
    Due.due("10 is free", x.frame(10, 0), 0);
    Due.due("9 is held", x.frame(9, 0), 2);
  }

  private static void heldWithoutFence() {
    GatedDevices x = new GatedDevices();
    x.domain(false);
    x.map(0, 0, 1, 1, false);
    x.unmap(0, 0);
    x.work(24);
    Due.due("no fence came", x.frame(1, 0), 2);
    x.map(0, 0, 2, 1, false);
    x.unmap(0, 0);
    x.fence();
    x.work(24);
    Due.due("both are free", x.count(18), 0);
  }

  private static void usedElsewhere() {
    GatedDevices x = new GatedDevices();
    x.domain(false);
    x.map(0, 0, 1, 1, false);
    x.map(0, 1, 1, 1, false);
    x.unmap(0, 0);
    x.fence();
    x.work(24);
    Due.due("used", x.frame(1, 0), 1);
    x.unmap(0, 1);
    Due.due("held", x.frame(1, 0), 2);
    x.fence();
    Due.due("by two steps", x.freeing(1), 2);
    x.work(2);
    Due.due("free", x.frame(1, 0), 0);
    // An unmapping behind the invalidation of the same page, not covered by it.
    x.domain(true);
    x.map(1, 5, 7, 1, false);
    x.unmap(1, 5);
    x.flush(1);
    x.map(1, 6, 8, 1, false);
    x.unmap(1, 6);
    x.work(24);
    Due.due("7 is free", x.frame(7, 0), 0);
    Due.due("8 is held", x.frame(8, 0), 2);
  }

  private static void freeing() {
    GatedDevices x = new GatedDevices();
    x.domain(false);
    x.domain(true);
    Due.due("free", x.freeing(3), 0);
    x.map(0, 0, 3, 1, false);
    Due.due("used", x.freeing(3), -2);
    x.fence();
    x.unmap(0, 0);
    Due.due("not by these", x.freeing(3), -2);
    x.fence();
    x.fence();
    Due.due("by the second fence", x.freeing(3), 3);
    x.work(1);
    Due.due("by two", x.freeing(3), 2);
    x.map(1, 0, 4, 1, false);
    x.unmap(1, 0);
    Due.due("lazily: not yet", x.freeing(4), -2);
    x.flush(1);
    Due.due("by all five", x.freeing(4), 5);
    Due.due("no such frame", x.freeing(64), -1);
    Due.due("no such frame", x.freeing(-1), -1);
  }

  private static void freeIfFlushed() {
    GatedDevices x = new GatedDevices();
    x.domain(true);
    x.domain(true);
    x.domain(false);
    Due.due("all", x.tried(0), 64);
    x.map(2, 9, 9, 1, false);
    x.unmap(2, 9);
    Due.due("no fence comes", x.tried(0), 63);
    for (int page = 0; page < 5; page++) x.map(0, page, page, 1, false);
    x.unmap(0, 0);
    x.map(1, 0, 20, 1, false);
    Due.due("the flush of 0 has a fence for 9, too", x.tried(0), 64 - 5);
    x.unmap(1, 0);
    Due.due("both", x.tried(0), 64 - 4);
    while (x.fence() != -1) { }
    Due.due("be there room or not", x.tried(0), 64 - 4);
    Due.due("nothing changed", x.count(4), 24);
    Due.due("still owed", x.domainOf(1, 3), 1);
    Due.due("still held", x.count(18), 3);
  }

  private static void entriesIfWorked() {
    GatedDevices x = Due.with("device a root;");
    x.domain(true);
    x.domain(false);
    x.attach(0, 0);
    x.map(0, 0, 0, 3, true);
    for (int page = 0; page < 3; page++) x.use(0, page, 1);
    x.unmap(0, 0);
    Due.due("nothing in the queue", x.tried(1), 3);
    x.flush(1);
    Due.due("of another", x.tried(1), 3);
    x.flush(0);
    Due.due("all", x.tried(1), 0);
    Due.due("nothing changed", x.count(7), 3);
    Due.due("nothing changed", x.count(4), 4);
    Due.due("nothing passed", x.count(6), 0);
    Due.due("tried(4)", x.tried(4), -1);
    Due.due("tried(-1)", x.tried(-1), -1);
  }

  private static void frame() {
    GatedDevices x = Due.with("device a root;");
    x.domain(false);
    x.attach(0, 0);
    x.map(0, 0, 5, 3, false);
    x.map(0, 1, 5, 1, false);
    x.map(0, 2, 6, 3, false);
    x.use(0, 0, 1);
    x.use(0, 1, 1);
    x.use(0, 2, 1);
    int[] want = {1, 2, 2, 0};
    for (int what = 0; what < 4; what++) Due.due("frame(5, " + what + ")", x.frame(5, what), want[what]);
    x.unmap(0, 0);
    Due.due("stale", x.frame(5, 3), 1);
    Due.due("once", x.frame(5, 1), 1);
    x.map(0, 0, 7, 3, false);
    Due.due("stale by another frame", x.frame(5, 3), 1);
    Due.due("entries", x.frame(5, 2), 2);
    Due.due("of 7", x.frame(7, 2), 0);
    for (int n : new int[] {-1, 64, Integer.MAX_VALUE}) Due.due("no such frame", x.frame(n, 0), -1);
    Due.due("what 4", x.frame(0, 4), -1);
    Due.due("what -1", x.frame(0, -1), -1);
  }
}
