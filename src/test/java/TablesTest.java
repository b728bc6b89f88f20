/** Promises 6, 7, 8, 17, 24, 25, 28, 29: domains, mapping, tables, blocks, gaps. */
public final class TablesTest {
  public static void main(String[] args) {
    domains();
    map();
    mapRefused();
    blocks();
    unmap();
    unmapRefused();
    tidy();
    page();
    shared();
    gap();
    wrongInputs();
    Due.end("TablesTest");
  }

  private static void domains() {
    GatedDevices x = new GatedDevices();
    boolean[] lazy = {true, false, false, true};
    for (int d = 0; d < 4; d++) Due.due("domain " + d, x.domain(lazy[d]), d);
    Due.due("a fifth domain", x.domain(true), -1);
    for (int d = 0; d < 4; d++) Due.due("lazy " + d, x.domainOf(d, 5), lazy[d] ? 1 : 0);
    Due.due("domains", x.count(3), 4);
    Due.due("tables of all", x.count(19), 4);
  }

  private static void map() {
    GatedDevices x = new GatedDevices();
    x.domain(false);
    x.domain(false);
    Due.due("first page", x.map(0, 0, 63, 1, false), 3);
    Due.due("beside it", x.map(0, 3, 63, 2, false), 3);
    Due.due("in the next four", x.map(0, 4, 0, 3, false), 4);
    Due.due("in the next sixteen", x.map(0, 16, 0, 3, false), 6);
    Due.due("a block beside", x.map(0, 20, 40, 3, true), 6);
    Due.due("a block alone", x.map(0, 60, 40, 1, true), 7);
    Due.due("the other domain", x.domainOf(1, 0), 1);
    Due.due("tables of all", x.count(19), 8);
    Due.due("pages mapped", x.domainOf(0, 1), 12);
    Due.due("blocks", x.domainOf(0, 2), 2);
    Due.due("reserved", x.domainOf(0, 4), 0);
    Due.due("frame 63 is mapped twice", x.frame(63, 1), 2);
    Due.due("frame 43 is mapped twice", x.frame(43, 1), 2);
    Due.due("used", x.count(17), 6);
    Due.due("free", x.count(16), 58);
  }

  private static void mapRefused() {
    GatedDevices x = new GatedDevices();
    x.domain(false);
    x.map(0, 6, 20, 1, false);
    x.map(0, 5, 21, 1, false);
    Due.due("mapped", x.map(0, 6, 20, 1, false), -2);
    Due.causes("mapped", x, 1, 6);
    Due.due("the first mapped one", x.map(0, 4, 8, 1, true), -2);
    Due.causes("the first mapped one", x, 1, 5);
    x.unmap(0, 5);
    Due.due("frame 21 is held", x.map(0, 30, 21, 1, false), -2);
    Due.causes("held", x, 2, 21);
    Due.due("block to a held one", x.map(0, 8, 20, 1, true), -2);
    Due.causes("block to a held one", x, 2, 21);
    Due.due("mapped goes ahead of held", x.map(0, 4, 20, 1, true), -2);
    Due.causes("mapped goes ahead of held", x, 1, 6);
    Due.due("a good call", x.map(0, 30, 22, 1, false), 5);
    Due.causes("they stay", x, 1, 6);
    Due.due("a call with no such ones", x.map(0, 64, 22, 1, false), -1);
    Due.causes("they stay", x, 1, 6);
    Due.due("nothing else changed", x.domainOf(0, 1), 2);
  }

  private static void blocks() {
    GatedDevices x = new GatedDevices();
    x.domain(true);
    Due.due("a block", x.map(0, 16, 8, 2, true), 2);
    Due.due("broken", x.unmap(0, 17), 3);
    Due.due("no block", x.domainOf(0, 2), 0);
    Due.due("three pages", x.domainOf(0, 1), 3);
    for (int page : new int[] {16, 18, 19}) {
      Due.due("frame of " + page, x.page(0, page, 0), page - 8);
      Due.due("rights of " + page, x.page(0, page, 1), 2);
      Due.due("in a block " + page, x.page(0, page, 3), 0);
      Due.due("level " + page, x.page(0, page, 4), 3);
    }
    Due.due("frame 9 is held", x.frame(9, 0), 2);
    Due.due("frame 8 is used", x.frame(8, 0), 1);
  }

  private static void unmap() {
    GatedDevices x = new GatedDevices();
    x.domain(false);
    x.map(0, 1, 1, 1, false);
    x.map(0, 2, 2, 1, false);
    x.map(0, 33, 1, 1, false);
    Due.due("one of two", x.unmap(0, 1), 5);
    Due.due("the table goes", x.unmap(0, 2), 3);
    Due.due("not the top one", x.unmap(0, 33), 1);
    Due.due("tables", x.domainOf(0, 0), 1);
    Due.due("not owed", x.domainOf(0, 3), 0);
    Due.due("three in the queue", x.count(4), 3);
    int[] pages = {1, 2, 33};
    for (int k = 0; k < 3; k++) {
      Due.due("sort", x.queued(k, 0), 0);
      Due.due("domain", x.queued(k, 1), 0);
      Due.due("page", x.queued(k, 2), pages[k]);
    }
    x.domain(true);
    x.map(1, 0, 12, 3, true);
    for (int k = 1; k < 4; k++) {
      x.unmap(1, k);
      Due.due("owed", x.domainOf(1, 3), k);
      Due.due("nothing in the queue", x.count(4), 3);
    }
    Due.due("the fourth one", x.unmap(1, 0), 1);
    Due.due("nothing owed", x.domainOf(1, 3), 0);
    Due.due("all", x.queued(3, 0), 1);
    Due.due("of it", x.queued(3, 1), 1);
    Due.due("no page", x.queued(3, 2), -2);
    Due.due("a fence", x.queued(4, 0), 2);
    Due.due("of none", x.queued(4, 1), -2);
    Due.due("its number", x.queued(4, 2), 1);
  }

  private static void unmapRefused() {
    GatedDevices x = Due.with("device a root;span a 20 20;");
    x.domain(true);
    Due.due("level 1", x.unmap(0, 20), -2);
    Due.causes("level 1", x, 7, 1);
    x.attach(0, 0);
    Due.due("level 3", x.unmap(0, 21), -2);
    Due.causes("level 3", x, 7, 3);
    Due.due("level 2", x.unmap(0, 24), -2);
    Due.causes("level 2", x, 7, 2);
    Due.due("reserved", x.unmap(0, 20), -2);
    Due.causes("reserved", x, 3, 20);
    x.map(0, 1, 1, 1, false);
    x.map(0, 2, 2, 1, false);
    for (int k = 0; k < 22; k++) x.fence();
    Due.due("22 are not too many", x.unmap(0, 1), 5);
    x.fence();
    Due.due("23 are, for a lazy one too", x.unmap(0, 2), -2);
    Due.causes("full", x, 6, 23);
    x.fence();
    Due.due("24 are", x.unmap(0, 2), -2);
    Due.causes("full", x, 6, 24);
    Due.due("reserved goes ahead of full", x.unmap(0, 20), -2);
    Due.causes("reserved goes ahead of full", x, 3, 20);
    Due.due("nothing there goes ahead of full", x.unmap(0, 63), -2);
    Due.causes("nothing there goes ahead of full", x, 7, 1);
    Due.due("still mapped", x.page(0, 2, 0), 2);
    Due.due("owed as it was", x.domainOf(0, 3), 1);
  }

  private static void tidy() {
    GatedDevices x = Due.with("device a root;span a 32 35;");
    x.domain(false);
    x.attach(0, 0);
    four(x, 0, 8, 3, 3);
    four(x, 4, 9, 3, 3);
    four(x, 8, 12, 3, 1);
    four(x, 16, 12, 2, 2);
    x.map(0, 40, 40, 3, false);
    x.map(0, 41, 41, 3, false);
    x.map(0, 42, 43, 3, false);
    x.map(0, 43, 42, 3, false);
    x.map(0, 48, 16, 3, false);
    x.map(0, 49, 17, 3, false);
    x.map(0, 50, 18, 3, false);
    x.map(0, 52, 20, 3, true);
    Due.due("tried(3)", x.tried(3), x.count(19) - 2);
    Due.due("two fit", x.tidy(0), 2);
    Due.due("at 0", x.page(0, 3, 3), 1);
    Due.due("not from a multiple of 4 on", x.page(0, 4, 3), 0);
    Due.due("not of rights unlike", x.page(0, 8, 3), 0);
    Due.due("at 16", x.page(0, 16, 3), 1);
    Due.due("not reserved ones", x.page(0, 32, 3), 0);
    Due.due("not out of row", x.page(0, 40, 3), 0);
    Due.due("not three", x.page(0, 48, 3), 0);
    Due.due("blocks", x.domainOf(0, 2), 3);
    Due.due("rights", x.page(0, 17, 1), 2);
    Due.due("frame", x.page(0, 17, 0), 13);
    Due.due("none more", x.tidy(0), 0);
    x.map(0, 51, 19, 3, false);
    Due.due("four now", x.tidy(0), 1);
  }

  private static void four(GatedDevices x, int page, int frame, int rights, int last) {
    for (int k = 0; k < 4; k++) x.map(0, page + k, frame + k, k == 3 ? last : rights, false);
  }

  private static void page() {
    GatedDevices x = Due.with("device a root;span a 5 5;");
    x.domain(false);
    x.attach(0, 0);
    x.map(0, 12, 60, 2, true);
    int[][] want = {{5, 5, 3, 1, 0, 3}, {13, 61, 2, 0, 1, 2}, {4, -2, -2, -2, -2, 3}, {9, -2, -2, -2, -2, 2},
      {63, -2, -2, -2, -2, 1}};
    for (int[] row : want) {
      for (int what = 0; what < 5; what++) {
        Due.due("page(0, " + row[0] + ", " + what + ")", x.page(0, row[0], what), row[what + 1]);
      }
    }
  }

  private static void shared() {
    GatedDevices x = new GatedDevices();
    x.domain(false);
    x.domain(false);
    x.map(0, 1, 63, 1, false);
    x.map(0, 2, 0, 1, false);
    x.map(0, 3, 7, 1, false);
    x.map(1, 9, 63, 2, false);
    x.map(1, 10, 7, 2, false);
    x.map(1, 11, 8, 2, false);
    Due.due("both", x.shared(0, 1), 1L << 63 | 1L << 7);
    Due.due("either way", x.shared(1, 0), 1L << 63 | 1L << 7);
    Due.due("one with itself", x.shared(0, 0), 1L << 63 | 1L << 7 | 1L);
    Due.due("none such", x.shared(0, 2), 0);
    Due.due("none such", x.shared(-1, 0), 0);
  }

  private static void gap() {
    GatedDevices x = new GatedDevices();
    x.domain(false);
    Due.due("all", x.gap(0, 64), 0);
    x.map(0, 2, 2, 1, false);
    x.map(0, 8, 8, 1, true);
    Due.due("1", x.gap(0, 1), 0);
    Due.due("2", x.gap(0, 2), 0);
    Due.due("3", x.gap(0, 3), 3);
    Due.due("5", x.gap(0, 5), 3);
    Due.due("6", x.gap(0, 6), 12);
    Due.due("52", x.gap(0, 52), 12);
    Due.due("53", x.gap(0, 53), -2);
    Due.due("0", x.gap(0, 0), -1);
    Due.due("65", x.gap(0, 65), -1);
    Due.due("no such domain", x.gap(1, 1), -1);
  }

  private static void wrongInputs() {
    GatedDevices x = new GatedDevices();
    x.domain(false);
    x.map(0, 0, 0, 3, false);
    for (int n : new int[] {-1, 64, Integer.MAX_VALUE, Integer.MIN_VALUE}) {
      Due.due("map's domain", x.map(n, 1, 1, 1, false), -1);
      Due.due("map's page", x.map(0, n, 1, 1, false), -1);
      Due.due("map's frame", x.map(0, 1, n, 1, false), -1);
      Due.due("map's rights", x.map(0, 1, 1, n, false), -1);
      Due.due("unmap's domain", x.unmap(n, 0), -1);
      Due.due("unmap's page", x.unmap(0, n), -1);
      Due.due("tidy's domain", x.tidy(n), -1);
      Due.due("page's domain", x.page(n, 0, 0), -1);
      Due.due("page's page", x.page(0, n, 4), -1);
      Due.due("page's what", x.page(0, 0, n), -1);
      Due.due("page's what, nothing mapped", x.page(0, 1, n), -1);
      Due.due("domainOf's domain", x.domainOf(n, 0), -1);
      Due.due("domainOf's what", x.domainOf(0, n), -1);
      Due.due("gap's n", x.gap(0, n == 64 ? 65 : n), -1);
    }
    Due.due("rights 0", x.map(0, 1, 1, 0, false), -1);
    Due.due("rights 4", x.map(0, 1, 1, 4, false), -1);
    Due.due("a domain not made yet", x.map(1, 1, 1, 1, false), -1);
    Due.due("block at 2", x.map(0, 6, 4, 1, true), -1);
    Due.due("block to 2", x.map(0, 4, 6, 1, true), -1);
    Due.due("block from 61", x.map(0, 61, 4, 1, true), -1);
    Due.due("what 5 of a page", x.page(0, 0, 5), -1);
    Due.due("what 7 of a domain", x.domainOf(0, 7), -1);
    Due.due("nothing is mapped by these", x.domainOf(0, 1), 1);
    Due.due("nothing is told by these", x.cause(0), -2);
  }
}
