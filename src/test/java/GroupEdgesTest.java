/** The edges that the document names of GROUPS, SIGN and promises 20 to 23: one test for each sentence. */
public final class GroupEdgesTest {
  private static final int[] OUTSIDE = {-1, 3, 8, Integer.MAX_VALUE, Integer.MIN_VALUE};

  public static void main(String[] args) {
    groups();
    signs();
    device();
    deviceThrows();
    group();
    parting();
    partingSet();
    Due.end("GroupEdgesTest");
  }

  // ---- terms

  private static void groups() {
    Due.edge(21, "two DEVICES are of one, if a BRIDGE that doesn't PART is above both");
    GatedDevices x = Due.with("bridge n root 0;bridge m root 1;bridge o root 2;device a n;device b n;device c m;device d m;"
        + "device e o;device f o;device g root;device h root;");
    int[] want = {1, 2, 12, 12, 48, 48, 64, 128};
    for (int d = 0; d < 8; d++) Due.due("group(" + d + ")", x.group(d), want[d]);
    Due.due("how many", x.count(2), 6);

    Due.edge(21, "at whatever height");
    GatedDevices y = Due.with("bridge l root 1;bridge m l 0;bridge n m 0;bridge o l 0;bridge p root 0;bridge q p 1;"
        + "device a n;device b o;device c l;device d q;device e p;device f q;");
    int[] high = {7, 7, 7, 40, 16, 40};
    for (int d = 0; d < 6; d++) Due.due("group(" + d + ")", y.group(d), high[d]);

    Due.edge(21, "or one speaks as the other, or by others between");
    GatedDevices z = Due.with("bridge m root 1;device a root;device b root;device c root;device d m;device e m;"
        + "device f root;alias b a;alias b c;alias c e;");
    for (int d = 0; d < 5; d++) Due.due("group(" + d + ")", z.group(d), 31);
    Due.due("group(5)", z.group(5), 32);
    GatedDevices one = Due.with("device a root;device b root;alias b a;");
    Due.due("the one that is spoken as", one.group(0), 3);
    Due.due("the one that speaks", one.group(1), 3);

    Due.edge(20, "A GROUP has a DOMAIN or none (at first)");
    Due.due("at first", Due.device(z, 3, 2), -2);
    z.domain(false);
    Due.due("a DOMAIN is there", Due.device(z, 3, 2), -2);
    z.attach(0, 0);
    Due.due("the GROUP has it", Due.device(z, 4, 2), 0);
    Due.due("another GROUP hasn't", Due.device(z, 5, 2), -2);
    z.detach(3);
    Due.due("none again", Due.device(z, 0, 2), -2);
  }

  private static void signs() {
    Due.edge(20, "of the BRIDGES above it that HIDE the one nearest to root: 8 and its number");
    GatedDevices x = Due.with("bridge l root 1;bridge m l 2;bridge n m 2;bridge o n 0;bridge p root 0;bridge q p 2;"
        + "device a o;device b n;device c m;device d l;device e q;device f p;");
    int[] want = {9, 9, 9, 3, 13, 5};
    for (int d = 0; d < 6; d++) Due.due("SIGN of " + d, Due.device(x, d, 3), want[d]);
    GatedDevices y = Due.with("bridge n root 2;device a n;");
    Due.due("of the first BRIDGE", Due.device(y, 0, 3), 8);

    Due.edge(20, "else its own number");
    GatedDevices z = Due.with("bridge l root 1;bridge p root 0;bridge h root 2;device z h;device a l;device b p;"
        + "device c root;alias c z;");
    Due.due("beneath one that LETS", Due.device(z, 1, 3), 1);
    Due.due("beneath one that PARTS", Due.device(z, 2, 3), 2);
    Due.due("beneath root, though it speaks as one that is hidden", Due.device(z, 3, 3), 3);
  }

  // ---- promise 20

  private static GatedDevices three() {
    GatedDevices x = Due.with("bridge n root 0;bridge m n 0;device a m;device b root;device c root;stall c;alias c b;");
    x.domain(false);
    x.domain(false);
    return x;
  }

  private static void device() {
    GatedDevices x = three();
    x.attach(2, 1);
    Due.edge(20, "what 0 the lowest DEVICE of its GROUP, 1 how many are in that");
    Due.due("of itself", Due.device(x, 0, 0), 0);
    Due.due("the lower one", Due.device(x, 2, 0), 1);
    Due.due("the lower one's own", Due.device(x, 1, 0), 1);
    Due.due("alone", Due.device(x, 0, 1), 1);
    Due.due("two", Due.device(x, 1, 1), 2);
    Due.edge(20, "2 its DOMAIN (-2: none)");
    Due.due("none", Due.device(x, 0, 2), -2);
    Due.due("the second one", Due.device(x, 1, 2), 1);
    Due.edge(20, "4 whether it STALLS (1, 0)");
    Due.due("stalls", Due.device(x, 2, 4), 1);
    Due.due("of its GROUP alone", Due.device(x, 1, 4), 0);
    Due.edge(20, "5 how many REQUESTS its open BATCH has, 6 how many BATCHES it has in the LINE");
    Due.due("none open", Due.device(x, 2, 5), 0);
    Due.due("none in the LINE", Due.device(x, 2, 6), 0);
    for (int k = 1; k <= 3; k++) {
      x.use(2, k, 1);
      Due.due("open", Due.device(x, 2, 5), 1);
      x.close(2);
      Due.due("closed", Due.device(x, 2, 5), 0);
      Due.due("in the LINE", Due.device(x, 2, 6), k);
    }
    for (int k = 1; k <= 5; k++) {
      x.use(2, k, 1);
      Due.due("open", Due.device(x, 2, 5), k);
    }
    Due.due("in the LINE", Due.device(x, 2, 6), 3);
    Due.due("of the other", Due.device(x, 1, 6), 0);
    Due.edge(20, "7 how many BRIDGES are above it");
    Due.due("two", Due.device(x, 0, 7), 2);
    Due.due("none", Due.device(x, 1, 7), 0);
    GatedDevices y = Due.with("bridge n root 0;bridge m n 1;bridge o m 2;bridge p o 0;bridge q p 0;bridge r q 0;device a r;");
    Due.due("all six", Due.device(y, 0, 7), 6);
  }

  private static void deviceThrows() {
    GatedDevices x = three();
    Due.edge(20, "IndexOutOfBoundsException: no such DEVICE");
    for (int d : OUTSIDE) for (int what = 0; what < 8; what++) Due.due("device " + d, Due.device(x, d, what), -101);
    Due.edge(20, "NoSuchElementException: no such what");
    for (int what : new int[] {-1, 8, Integer.MAX_VALUE, Integer.MIN_VALUE}) {
      Due.due("what " + what, Due.device(x, 0, what), -102);
      Due.due("what " + what, Due.device(x, 2, what), -102);
    }
    Due.edge(20, "IndexOutOfBoundsException goes ahead of NoSuchElementException");
    for (int d : OUTSIDE) Due.due("device " + d + ", what 8", Due.device(x, d, 8), -101);
    Due.due("a new object", Due.device(new GatedDevices(), 0, -1), -101);
  }

  // ---- promises 21, 22, 23

  private static void group() {
    GatedDevices x = three();
    Due.edge(21, "The GROUP of a DEVICE (bits)");
    Due.due("the lowest bit", x.group(0), 1);
    Due.due("two", x.group(1), 6);
    GatedDevices all = Due.with("bridge n root 2;device a n;device b n;device c n;device d n;device e n;device f n;"
        + "device g n;device h n;");
    Due.due("all eight", all.group(7), 255);
    Due.edge(21, "NONE: no such DEVICE");
    for (int d : OUTSIDE) Due.due("group(" + d + ")", x.group(d), -1);
    Due.due("of none", new GatedDevices().group(0), -1);
  }

  private static void both(GatedDevices x, int one, int other, int many, int set) {
    Due.due("parting(" + one + ", " + other + ")", x.parting(one, other), many);
    Due.due("partingSet(" + one + ", " + other + ")", x.partingSet(one, other), set);
    Due.due("parting(" + other + ", " + one + ")", x.parting(other, one), many);
    Due.due("partingSet(" + other + ", " + one + ")", x.partingSet(other, one), set);
  }

  private static void parting() {
    Due.edge(22, "The fewest BRIDGES that, if they PARTED, would have two DEVICES be of two GROUPS");
    GatedDevices x = Due.with("bridge n root 1;bridge m n 2;bridge o m 1;bridge p o 1;bridge q p 1;bridge r q 2;"
        + "device a r;device b r;device c n;device d m;");
    both(x, 0, 1, 6, 63);
    both(x, 0, 3, 2, 3);
    both(x, 2, 3, 1, 1);
    GatedDevices y = Due.with("bridge n root 1;bridge m n 1;bridge o root 2;device a m;device b m;device c o;device d o;"
        + "alias b c;");
    both(y, 0, 3, 1, 4);
    both(y, 0, 2, 2, 3);

    Due.edge(22, "(0, if they are)");
    GatedDevices z = Due.with("bridge n root 0;bridge m root 1;device a n;device b n;device c m;device d root;");
    both(z, 0, 1, 0, 0);
    both(z, 0, 2, 0, 0);
    both(z, 2, 3, 0, 0);

    Due.edge(22, "-2: not by all of them");
    GatedDevices w = Due.with("bridge n root 1;device a n;device b n;device c root;alias b a;alias c b;");
    both(w, 0, 1, -2, -2);
    both(w, 0, 2, -2, -2);

    Due.edge(22, "NONE: no such ones, they are one");
    for (int d : OUTSIDE) {
      both(w, 0, d, -1, -1);
      both(w, d, d, -1, -1);
    }
    for (int d = 0; d < 3; d++) both(w, d, d, -1, -1);
    both(z, 3, 3, -1, -1);
  }

  private static void partingSet() {
    Due.edge(23, "of several such sets the one whose number as bits is least");
    // One from each side of each alias: {0}, {1}, {2} and {3} do alone.
    GatedDevices x = Due.with("bridge k root 1;bridge l root 1;bridge m root 1;bridge n root 1;device a k;device b k;"
        + "device c l;device d l;device e m;device f m;device g n;device h n;alias b c;alias d e;alias f g;");
    both(x, 0, 7, 1, 1);
    both(x, 2, 7, 1, 2);
    both(x, 4, 7, 1, 4);
    // Two ways round: one bridge of each way, the least bits of four sets.
    GatedDevices y = Due.with("bridge k root 1;bridge l root 1;bridge m root 1;bridge n root 1;device a k;device b k;"
        + "device c l;device d l;device e m;device f m;device g n;device h n;alias b c;alias f g;alias a e;alias d h;");
    both(y, 0, 3, 2, 5);
    both(y, 1, 3, 2, 3);
    both(y, 4, 6, 2, 5);
    Due.edge(23, "-2, NONE likewise");
    GatedDevices z = Due.with("device a root;device b root;alias a b;");
    both(z, 0, 1, -2, -2);
    both(z, 0, 2, -1, -1);
    both(z, 1, 1, -1, -1);
  }
}
