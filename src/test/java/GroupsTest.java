/** Promises 20 to 23: device, group, parting, partingSet; groups and signs. */
public final class GroupsTest {
  public static void main(String[] args) {
    groups();
    aliases();
    signs();
    device();
    parting();
    wrongInputs();
    Due.end("GroupsTest");
  }

  private static void groups() {
    // n parts; m beneath it lets; o beneath m parts; p at root hides.
    GatedDevices x = Due.with("bridge n root 0;bridge m n 1;bridge o m 0;bridge p root 2;"
        + "device a n;device b m;device c o;device d p;device e p;device f root;device g root;device h n;");
    int[] want = {1, 6, 6, 24, 24, 32, 64, 128};
    for (int d = 0; d < 8; d++) Due.due("group(" + d + ")", x.group(d), want[d]);
    Due.due("groups", x.count(2), 6);
    Due.due("lowest of c", Due.device(x, 2, 0), 1);
    Due.due("how many with c", Due.device(x, 2, 1), 2);
    Due.due("lowest of f", Due.device(x, 5, 0), 5);
    Due.due("how many with f", Due.device(x, 5, 1), 1);
  }

  private static void aliases() {
    GatedDevices x = Due.with("device a root;device b root;device c root;device d root;device e root;"
        + "alias e c;alias c b;alias b e;");
    Due.due("by others between", x.group(4), 22);
    Due.due("either way", x.group(1), 22);
    Due.due("alone", x.group(0), 1);
    Due.due("groups", x.count(2), 3);
    GatedDevices y = Due.with("bridge n root 1;bridge m root 1;device a n;device b n;device c m;device d m;alias d a;");
    Due.due("bridges and an alias", y.group(1), 15);
    Due.due("lowest", Due.device(y, 2, 0), 0);
  }

  private static void signs() {
    GatedDevices x = Due.with("bridge n root 0;bridge m n 2;bridge o m 2;bridge p o 1;bridge q root 2;"
        + "device a n;device b m;device c p;device d q;device e root;alias e d;");
    int[] want = {0, 9, 9, 12, 4};
    for (int d = 0; d < 5; d++) Due.due("sign of " + d, Due.device(x, d, 3), want[d]);
    int[] above = {1, 2, 4, 1, 0};
    for (int d = 0; d < 5; d++) Due.due("bridges above " + d, Due.device(x, d, 7), above[d]);
  }

  private static void device() {
    GatedDevices x = Due.with("device a root;device b root;stall b;alias a b;");
    Due.due("no domain", Due.device(x, 0, 2), -2);
    x.domain(false);
    x.domain(false);
    x.attach(1, 1);
    Due.due("domain of the group", Due.device(x, 0, 2), 1);
    Due.due("a doesn't stall", Due.device(x, 0, 4), 0);
    Due.due("b stalls", Due.device(x, 1, 4), 1);
    x.use(1, 5, 1);
    x.use(1, 5, 2);
    Due.due("open", Due.device(x, 1, 5), 2);
    Due.due("none in the line", Due.device(x, 1, 6), 0);
    x.close(1);
    x.use(1, 6, 1);
    x.close(1);
    x.use(1, 6, 1);
    Due.due("open again", Due.device(x, 1, 5), 1);
    Due.due("two in the line", Due.device(x, 1, 6), 2);
    Due.due("of the other", Due.device(x, 0, 6), 0);
    Due.due("what 8", Due.device(x, 1, 8), -102);
    Due.due("what -1", Due.device(x, 0, -1), -102);
    Due.due("device 2", Due.device(x, 2, 0), -101);
    Due.due("device -1", Due.device(x, -1, 0), -101);
    Due.due("device 2, what 8", Due.device(x, 2, 8), -101);
  }

  private static void parting() {
    GatedDevices x = Due.with("bridge n root 1;bridge m n 2;bridge o root 1;device a m;device b m;device c n;"
        + "device d o;device e o;device f root;alias d c;alias e d;");
    held(x, 0, 1, 2, 3);
    held(x, 0, 2, 1, 1);
    held(x, 3, 4, -2, -2);
    held(x, 2, 4, -2, -2);
    held(x, 0, 4, 1, 1);
    held(x, 0, 5, 0, 0);
    // Two ways from a to d: either n and p, or n and q, or .. : of those with as few the least number.
    GatedDevices y = Due.with("bridge n root 1;bridge p root 1;bridge q root 1;device a n;device b n;device c p;"
        + "device d p;device e q;device f q;alias b c;alias a e;alias f d;");
    held(y, 0, 1, 2, 3);
    held(y, 2, 3, 2, 3);
    held(y, 4, 5, 2, 5);
    held(y, 0, 4, -2, -2);
    GatedDevices z = Due.with("bridge n root 1;bridge p root 1;device a n;device b n;device c p;device d p;alias b c;");
    held(z, 0, 3, 1, 1);
    held(z, 2, 3, 1, 2);
    // Two that are nested part them, but one with a greater number does alone.
    GatedDevices w = Due.with("bridge n root 1;bridge m n 1;bridge o root 2;device a m;device b m;device c o;device d o;"
        + "alias b c;");
    held(w, 0, 1, 2, 3);
    held(w, 0, 3, 1, 4);
    // Bridges that part already are none of a set.
    GatedDevices v = Due.with("bridge n root 0;bridge m n 1;bridge o m 0;device a o;device b o;");
    held(v, 0, 1, 1, 2);
  }

  private static void held(GatedDevices x, int one, int other, int many, int set) {
    Due.due("parting(" + one + ", " + other + ")", x.parting(one, other), many);
    Due.due("parting(" + other + ", " + one + ")", x.parting(other, one), many);
    Due.due("partingSet(" + one + ", " + other + ")", x.partingSet(one, other), set);
    Due.due("partingSet(" + other + ", " + one + ")", x.partingSet(other, one), set);
  }

  private static void wrongInputs() {
    GatedDevices x = Due.with("device a root;device b root;");
    for (int d : new int[] {-1, 2, 8, Integer.MAX_VALUE, Integer.MIN_VALUE}) {
      Due.due("group(" + d + ")", x.group(d), -1);
      Due.due("parting(0, " + d + ")", x.parting(0, d), -1);
      Due.due("parting(" + d + ", 0)", x.parting(d, 0), -1);
      Due.due("partingSet(0, " + d + ")", x.partingSet(0, d), -1);
      Due.due("partingSet(" + d + ", 0)", x.partingSet(d, 0), -1);
      Due.due("device(" + d + ", 0)", Due.device(x, d, 0), -101);
    }
    Due.due("one with itself", x.parting(1, 1), -1);
    Due.due("one with itself", x.partingSet(1, 1), -1);
  }
}
