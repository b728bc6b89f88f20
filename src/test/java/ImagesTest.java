/** Promises 36, 37, 38: keep, back, count. */
public final class ImagesTest {
  public static void main(String[] args) {
    none();
    keepsAll();
    stays();
    notTheTape();
    counts();
    Due.end("ImagesTest");
  }

  private static void none() {
    GatedDevices x = new GatedDevices();
    Due.due("none", x.back(), -1);
    Due.due("of nothing", x.keep(), 0);
    x.domain(false);
    Due.due("one domain", x.keep(), 1);
    x.domain(false);
    x.domain(false);
    Due.due("in place of the one ahead", x.back(), 1);
    Due.due("domains", x.count(3), 1);
    Due.due("one more is the second", x.domain(true), 1);
  }

  private static GatedDevices busy() {
    GatedDevices x = Due.with("bridge n root 1;device a n;device b n;device c root;stall a;span b 4 5;room 3;seed 5;");
    x.domain(true);
    x.domain(false);
    x.attach(0, 0);
    x.map(0, 8, 8, 3, true);
    x.map(1, 12, 12, 2, true);
    x.use(1, 8, 1);
    x.use(1, 9, 1);
    x.use(1, 9, 1);
    x.unmap(0, 9);
    x.use(1, 9, 1);
    x.unmap(1, 13);
    x.fence();
    x.use(0, 20, 1);
    x.use(0, 21, 2);
    x.close(0);
    x.use(0, 22, 2);
    x.use(1, 30, 2);
    return x;
  }

  /** All that can be asked, in a row. */
  private static long[] all(GatedDevices x) {
    java.util.ArrayList<Long> row = new java.util.ArrayList<>();
    for (int what = 0; what <= 20; what++) row.add((long) x.count(what));
    for (int k = 0; k < 4; k++) {
      row.add((long) x.cause(k));
      row.add((long) x.about(k));
    }
    for (int d = 0; d < 3; d++) for (int what = 0; what < 8; what++) row.add((long) Due.device(x, d, what));
    for (int d = 0; d < 2; d++) for (int what = 0; what < 7; what++) row.add((long) x.domainOf(d, what));
    for (int d = 0; d < 2; d++) {
      for (int p = 0; p < 32; p++) row.add(x.page(d, p, 0) * 100L + x.page(d, p, 3) * 10 + x.page(d, p, 4));
    }
    return row.stream().mapToLong(n -> n).toArray();
  }

  private static long[] rest(GatedDevices x) {
    java.util.ArrayList<Long> row = new java.util.ArrayList<>();
    for (int f = 0; f < 32; f++) row.add(x.frame(f, 0) * 100000L + x.frame(f, 1) * 1000 + x.freeing(f));
    for (int k = 0; k < 3; k++) for (int what = 0; what < 5; what++) row.add((long) x.cached(k, what));
    for (int k = 0; k < 6; k++) for (int what = 0; what < 3; what++) row.add((long) x.queued(k, what));
    for (int k = 0; k < 6; k++) for (int what = 0; what < 4; what++) row.add((long) x.record(k, what));
    for (int what = 0; what < 4; what++) row.add((long) x.tried(what));
    return row.stream().mapToLong(n -> n).toArray();
  }

  private static void same(String when, long[] got, long[] want) {
    Due.due(when + ": how many", got.length, want.length);
    for (int k = 0; k < want.length; k++) Due.due(when + ": asked " + k, got[k], want[k]);
  }

  private static void keepsAll() {
    long[] want = all(busy());
    long[] wantRest = rest(busy());
    // Two objects, since one may not be asked so often.
    for (int half = 0; half < 2; half++) {
      GatedDevices x = busy();
      Due.due("kept", x.keep(), 2);
      x.map(0, 20, 20, 3, false);
      Due.due("a stale hit", x.use(1, 9, 1), 9);
      Due.due("one is taken", x.serve(true), 1);
      x.work(24);
      x.detach(0);
      x.flush(1);
      x.domain(false);
      x.attach(2, 2);
      x.map(2, 0, 40, 3, true);
      x.use(2, 1, 1);
      x.use(2, 5, 1);
      x.unmap(1, 12);
      x.tidy(0);
      Due.due("back", x.back(), 2);
      same("as it was", half == 0 ? all(x) : rest(x), half == 0 ? want : wantRest);
    }
  }

  private static void stays() {
    GatedDevices x = busy();
    x.keep();
    for (int k = 0; k < 3; k++) {
      Due.due("it answers as ahead", x.serve(false), 0);
      Due.due("gone", x.serve(false), -2);
      Due.due("back", x.back(), 2);
    }
    x.work(24);
    x.keep();
    x.fence();
    x.back();
    Due.due("the later image", x.count(4), 0);
  }

  private static void notTheTape() {
    GatedDevices x = new GatedDevices();
    int[] n = Due.numbers("device a root;room 3");
    x.feed(n[0], n[1], n[2], n[3], n[4]);
    x.keep();
    x.feed(n[0], n[1], n[2], n[3], n[4]);
    x.back();
    Due.due("the tape is as long", x.feed(0, 0, 0, 0, 0), 60);
    Due.due("a bad text", x.text(60), -1);
    Due.due("the image stays", x.back(), 0);
    Due.due("the fault stays", x.fault(0), 1);
    x.feed(n[0], n[1], n[2], n[3], n[4]);
    Due.due("a good text", x.text(14), 1);
    Due.due("no image", x.back(), -1);
  }

  private static void counts() {
    GatedDevices x = busy();
    int[] want = {3, 1, 2, 2, 2, 1, 0, 2, 2, 6, 1, 3, 3, 0, 0, 1, 54, 8, 2, 7, 4};
    for (int what = 0; what < want.length; what++) Due.due("count(" + what + ")", x.count(what), want[what]);
    for (int n : new int[] {-1, 21, Integer.MAX_VALUE, Integer.MIN_VALUE}) Due.due("no such", x.count(n), -1);
  }
}
