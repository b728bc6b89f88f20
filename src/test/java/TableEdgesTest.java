/** The edges that the document names of DOMAINS, TABLES and promises 6, 7, 8, 17, 24, 25, 28, 29: one test a sentence. */
public final class TableEdgesTest {
  private static final int[] NO_PAGE = {-1, 64, 65, 1000, Integer.MAX_VALUE, Integer.MIN_VALUE};
  private static final int[] NO_DOMAIN = {-1, 2, 4, Integer.MAX_VALUE, Integer.MIN_VALUE};

  public static void main(String[] args) {
    domain();
    levels();
    tablesGo();
    mapEnds();
    mapBlocks();
    mapRefused();
    unmapBreaks();
    unmapRefused();
    lazily();
    tidy();
    page();
    domainOf();
    shared();
    gap();
    Due.end("TableEdgesTest");
  }

  /** Two domains (the second one lazy), a device of which the first has pages 20 and 21 reserved. */
  private static GatedDevices two() {
    GatedDevices x = Due.with("device a root;span a 20 21;");
    x.domain(false);
    x.domain(true);
    x.attach(0, 0);
    return x;
  }

  private static GatedDevices one() {
    GatedDevices x = new GatedDevices();
    x.domain(false);
    return x;
  }

  // ---- promise 6

  private static void domain() {
    Due.edge(6, "NONE: there are four");
    GatedDevices x = new GatedDevices();
    for (int d = 0; d < 4; d++) Due.due("its number", x.domain(d % 2 == 0), d);
    Due.due("a fifth", x.domain(false), -1);
    Due.due("a fifth", x.domain(true), -1);
    Due.due("four", x.count(3), 4);
    Due.due("no fifth", x.domainOf(4, 0), -1);
    for (int d = 0; d < 4; d++) Due.due("as LAZY as it was", x.domainOf(d, 5), d % 2 == 0 ? 1 : 0);
    Due.due("another TEXT", x.text(0), 0);
    Due.due("from 0 on again", x.domain(false), 0);
    Due.due("not LAZY as the one ahead", x.domainOf(0, 5), 0);
  }

  // ---- terms

  private static void levels() {
    Due.edge(7, "the TOP one (always there; LEVEL 1) by PAGE by 16");
    GatedDevices x = one();
    Due.due("always there", x.domainOf(0, 0), 1);
    Due.due("PAGE 15", x.map(0, 15, 0, 1, false), 3);
    Due.due("PAGE 16", x.map(0, 16, 0, 1, false), 5);
    Due.due("PAGE 31", x.map(0, 31, 0, 1, false), 6);
    Due.due("PAGE 32", x.map(0, 32, 0, 1, false), 8);
    Due.due("PAGE 48", x.map(0, 48, 0, 1, false), 10);
    Due.edge(7, "that by PAGE by 4, modulo 4");
    GatedDevices y = one();
    Due.due("PAGE 3", y.map(0, 3, 0, 1, false), 3);
    Due.due("PAGE 0", y.map(0, 0, 0, 1, false), 3);
    Due.due("PAGE 4", y.map(0, 4, 0, 1, false), 4);
    Due.due("PAGE 7", y.map(0, 7, 0, 1, false), 4);
    Due.due("PAGE 8", y.map(0, 8, 0, 1, false), 5);
    Due.due("PAGE 12", y.map(0, 12, 0, 1, false), 6);
    Due.edge(7, "TABLES come to be when they are needed");
    GatedDevices all = one();
    for (int page = 0; page < 64; page++) {
      int low = page / 4 + 1;
      Due.due("PAGE " + page, all.map(0, page, 0, 1, false), 1 + (page / 16 + 1) + low);
    }
    Due.due("all are mapped", all.domainOf(0, 1), 64);
    Due.due("to the one FRAME", all.frame(0, 1), 64);
  }

  private static void tablesGo() {
    Due.edge(8, "and go when they are empty (not TOP)");
    GatedDevices x = one();
    for (int page : new int[] {0, 1, 4, 16}) x.map(0, page, page, 1, false);
    Due.due("six", x.domainOf(0, 0), 6);
    Due.due("one of two goes", x.unmap(0, 0), 6);
    Due.due("the other, too: LEVEL 3", x.unmap(0, 1), 5);
    Due.due("LEVEL 2 and 3", x.unmap(0, 4), 3);
    Due.due("not TOP", x.unmap(0, 16), 1);
    GatedDevices y = two();
    y.detach(0);
    Due.due("by detach", y.domainOf(0, 0), 1);
    GatedDevices z = one();
    z.map(0, 8, 8, 1, true);
    for (int page = 8; page < 11; page++) Due.due("of a broken BLOCK", z.unmap(0, page), 3);
    Due.due("the last of a BLOCK", z.unmap(0, 11), 1);
  }

  // ---- promise 7

  private static void mapEnds() {
    Due.edge(7, "PAGES 0 .. 63, FRAMES 0 .. 63");
    GatedDevices x = two();
    Due.due("PAGE 0", x.map(1, 0, 0, 1, false), 3);
    Due.due("PAGE 63", x.map(1, 63, 63, 1, false), 5);
    Due.due("FRAME of PAGE 63", x.page(1, 63, 0), 63);
    for (int n : NO_PAGE) {
      Due.due("PAGE " + n, x.map(0, n, 5, 1, false), -1);
      Due.due("FRAME " + n, x.map(0, 5, n, 1, false), -1);
    }
    Due.edge(7, "RIGHTS 1 .. 3");
    for (int rights = 1; rights <= 3; rights++) {
      x.map(1, rights, rights, rights, false);
      Due.due("RIGHTS", x.page(1, rights, 1), rights);
    }
    for (int rights : new int[] {-1, 0, 4, 5, 7, Integer.MAX_VALUE, Integer.MIN_VALUE}) {
      Due.due("RIGHTS " + rights, x.map(1, 9, 9, rights, false), -1);
    }
    Due.edge(7, "NONE: no such ones");
    for (int d : NO_DOMAIN) Due.due("DOMAIN " + d, x.map(d, 9, 9, 1, false), -1);
    Due.due("of none", new GatedDevices().map(0, 0, 0, 1, false), -1);
    Due.due("NONE goes ahead of -2", x.map(1, 0, 64, 1, false), -1);
    Due.due("PAGE 9 is not mapped", x.page(1, 9, 0), -2);
    Due.due("PAGES mapped", x.domainOf(1, 1), 5);
    Due.causes("no CAUSES", x);
  }

  private static void mapBlocks() {
    Due.edge(7, "A PAGE, or a BLOCK from a multiple of 4 on");
    GatedDevices x = one();
    for (int page = 1; page < 64; page++) {
      if (page % 4 != 0) Due.due("a BLOCK at " + page, x.map(0, page, 0, 1, true), -1);
    }
    Due.due("at 0", x.map(0, 0, 0, 1, true), 2);
    Due.due("at 60", x.map(0, 60, 0, 1, true), 3);
    Due.due("at 64", x.map(0, 64, 0, 1, true), -1);
    Due.due("at -4", x.map(0, -4, 0, 1, true), -1);
    Due.due("eight PAGES", x.domainOf(0, 1), 8);
    Due.edge(7, "(BLOCK: to four from a multiple of 4 on)");
    for (int frame = 1; frame < 64; frame++) {
      if (frame % 4 != 0) Due.due("a BLOCK to " + frame, x.map(0, 4, frame, 1, true), -1);
    }
    Due.due("to 64", x.map(0, 4, 64, 1, true), -1);
    Due.due("to -4", x.map(0, 4, -4, 1, true), -1);
    Due.due("to 60", x.map(0, 4, 60, 2, true), 3);
    for (int k = 0; k < 4; k++) {
      Due.due("its FRAMES in a row", x.page(0, 4 + k, 0), 60 + k);
      Due.due("its RIGHTS", x.page(0, 4 + k, 1), 2);
      Due.due("in a BLOCK", x.page(0, 4 + k, 3), 1);
    }
    Due.due("not its neighbour", x.page(0, 8, 0), -2);
    Due.due("no BLOCK: any PAGE and FRAME", x.map(0, 9, 63, 1, false), 4);
    Due.due("alone", x.page(0, 10, 0), -2);
  }

  private static void mapRefused() {
    Due.edge(7, "-2: a PAGE is mapped (the first of them)");
    GatedDevices x = one();
    x.map(0, 7, 1, 1, false);
    Due.due("the last of four", x.map(0, 4, 8, 1, true), -2);
    Due.causes("the last of four", x, 1, 7);
    x.map(0, 5, 1, 1, false);
    Due.due("the first of two", x.map(0, 4, 8, 1, true), -2);
    Due.causes("the first of two", x, 1, 5);
    Due.due("one alone, to the same FRAME", x.map(0, 7, 1, 1, false), -2);
    Due.causes("one alone", x, 1, 7);
    Due.due("beside a mapped one", x.map(0, 6, 1, 1, false), 3);
    x.map(0, 8, 8, 1, true);
    Due.due("in a BLOCK", x.map(0, 11, 11, 1, false), -2);
    Due.causes("in a BLOCK", x, 1, 11);

    Due.edge(7, "else a FRAME is HELD (the first)");
    GatedDevices y = one();
    y.map(0, 0, 19, 1, false);
    y.map(0, 1, 18, 1, false);
    y.unmap(0, 0);
    Due.due("the last of four", y.map(0, 4, 16, 1, true), -2);
    Due.causes("the last of four", y, 2, 19);
    y.unmap(0, 1);
    Due.due("the first of two", y.map(0, 4, 16, 1, true), -2);
    Due.causes("the first of two", y, 2, 18);
    Due.due("one alone", y.map(0, 4, 19, 1, false), -2);
    Due.causes("one alone", y, 2, 19);
    Due.due("a PAGE mapped goes ahead", y.map(0, 7, 3, 1, false), 3);
    Due.due("a PAGE mapped goes ahead", y.map(0, 4, 16, 1, true), -2);
    Due.causes("a PAGE mapped goes ahead", y, 1, 7);
    Due.due("a USED FRAME is none", y.map(0, 20, 3, 1, false), 5);
    Due.due("a USED one that a FENCE didn't free is none", usedOnce().map(0, 2, 9, 1, false), 3);

    Due.edge(7, "A call that is refused changes nothing but CAUSES, RECORDS and what is said of it");
    GatedDevices z = one();
    z.map(0, 7, 1, 1, false);
    z.map(0, 4, 8, 3, true);
    Due.due("PAGES", z.domainOf(0, 1), 1);
    Due.due("BLOCKS", z.domainOf(0, 2), 0);
    Due.due("FRAMES USED", z.count(17), 1);
    Due.due("QUEUE", z.count(4), 0);
  }

  /** Frame 9 was mapped twice and is still mapped once, no fence has passed since. */
  private static GatedDevices usedOnce() {
    GatedDevices x = one();
    x.map(0, 0, 9, 1, false);
    x.map(0, 1, 9, 1, false);
    x.unmap(0, 0);
    return x;
  }

  // ---- promise 8

  private static void unmapBreaks() {
    Due.edge(8, "A BLOCK is BROKEN: a TABLE of LEVEL 3 with its four, RIGHTS alike, in its place");
    for (int gone = 0; gone < 4; gone++) {
      GatedDevices x = one();
      x.map(0, 60, 60, 2, true);
      Due.due("TABLES", x.unmap(0, 60 + gone), 3);
      Due.due("BLOCKS", x.domainOf(0, 2), 0);
      for (int k = 0; k < 4; k++) {
        Due.due("FRAME of " + k, x.page(0, 60 + k, 0), k == gone ? -2 : 60 + k);
        Due.due("RIGHTS of " + k, x.page(0, 60 + k, 1), k == gone ? -2 : 2);
        Due.due("in a BLOCK", x.page(0, 60 + k, 3), k == gone ? -2 : 0);
        Due.due("LEVEL", x.page(0, 60 + k, 4), 3);
      }
    }
    Due.edge(8, "a BLOCK there is BROKEN, the PAGE is mapped no more");
    GatedDevices y = one();
    y.map(0, 4, 4, 1, true);
    y.map(0, 8, 8, 1, true);
    y.unmap(0, 7);
    Due.due("its neighbour is a BLOCK", y.page(0, 8, 3), 1);
    Due.due("seven", y.domainOf(0, 1), 7);
    Due.due("mapped anew", y.map(0, 7, 20, 1, false), 3);
    Due.due("no BLOCK comes of that", y.domainOf(0, 2), 1);
  }

  private static void unmapRefused() {
    GatedDevices x = two();
    Due.edge(8, "-2: nothing is mapped there");
    Due.due("LEVEL 1", x.unmap(0, 15), -2);
    Due.causes("LEVEL 1", x, 7, 1);
    Due.due("LEVEL 2", x.unmap(0, 16), -2);
    Due.causes("LEVEL 2", x, 7, 2);
    Due.due("LEVEL 3", x.unmap(0, 22), -2);
    Due.causes("LEVEL 3", x, 7, 3);
    Due.due("another DOMAIN's", x.unmap(1, 20), -2);
    Due.causes("another DOMAIN's", x, 7, 1);
    Due.edge(8, "else it is RESERVED");
    Due.due("the first one", x.unmap(0, 20), -2);
    Due.causes("the first one", x, 3, 20);
    Due.due("the last one", x.unmap(0, 21), -2);
    Due.causes("the last one", x, 3, 21);
    Due.due("nothing of it", x.domainOf(0, 4), 2);

    Due.edge(8, "else the QUEUE has more than 22");
    for (int d = 0; d < 2; d++) {
      GatedDevices y = two();
      y.map(d, 0, 0, 1, false);
      y.map(d, 1, 1, 1, false);
      for (int k = 0; k < 22; k++) y.fence();
      Due.due("22", y.unmap(d, 0), d == 0 ? 5 : 3);
      if (d == 1) y.fence();
      Due.due("23", y.count(4), 23);
      Due.due("23", y.unmap(d, 1), -2);
      Due.causes("23", y, 6, 23);
      y.fence();
      Due.due("24", y.unmap(d, 1), -2);
      Due.causes("24", y, 6, 24);
      Due.due("it is mapped still", y.page(d, 1, 0), 1);
      Due.due("nothing more in the QUEUE", y.count(4), 24);
      Due.due("OWED", y.domainOf(d, 3), d);
      Due.due("nothing there goes ahead", y.unmap(d, 63), -2);
      Due.causes("nothing there goes ahead", y, 7, 1);
      if (d == 0) {
        y.unmap(0, 20);
        Due.causes("RESERVED goes ahead", y, 3, 20);
      }
      y.work(2);
      Due.due("22 again", y.unmap(d, 1), d == 0 ? 3 : 1);
    }

    Due.edge(8, "NONE: no such ones");
    for (int n : NO_PAGE) Due.due("PAGE " + n, x.unmap(0, n), -1);
    for (int d : NO_DOMAIN) Due.due("DOMAIN " + d, x.unmap(d, 20), -1);
    Due.causes("no CAUSE of these", x, 3, 21);
  }

  private static void lazily() {
    Due.edge(8, "if the DOMAIN isn't LAZY, an INVALIDATION of it comes to the QUEUE");
    GatedDevices x = two();
    for (int d = 0; d < 2; d++) for (int page = 0; page < 12; page += 4) x.map(d, page, 32 * d + page, 1, true);
    for (int page = 0; page < 5; page++) {
      x.unmap(0, page);
      Due.due("how many", x.count(4), page + 1);
      Due.due("of a PAGE", x.queued(page, 0), 0);
      Due.due("its PAGE", x.queued(page, 2), page);
      Due.due("nothing OWED", x.domainOf(0, 3), 0);
    }
    Due.edge(8, "else it is OWED one more; if it is OWED four: FLUSH");
    for (int k = 1; k <= 3; k++) {
      x.unmap(1, k);
      Due.due("OWED", x.domainOf(1, 3), k);
      Due.due("no more in the QUEUE", x.count(4), 5);
    }
    x.unmap(1, 4);
    Due.due("four: ALL", x.queued(5, 0), 1);
    Due.due("of it", x.queued(5, 1), 1);
    Due.due("a FENCE", x.queued(6, 0), 2);
    Due.due("no more", x.count(4), 7);
    Due.edge(8, "Behind each FLUSH nothing is OWED");
    Due.due("behind the fourth", x.domainOf(1, 3), 0);
    x.unmap(1, 8);
    x.unmap(1, 9);
    Due.due("from 0 on", x.domainOf(1, 3), 2);
    x.flush(0);
    Due.due("the other's FLUSH", x.domainOf(1, 3), 2);
    x.flush(1);
    Due.due("behind flush()", x.domainOf(1, 3), 0);
    x.detach(0);
    x.work(24);
    Due.due("attached to the lazy one", x.attach(0, 1), 2);
    x.unmap(1, 10);
    Due.due("one", x.domainOf(1, 3), 1);
    x.detach(0);
    Due.due("behind detach()", x.domainOf(1, 3), 0);
    Due.edge(8, "if it is OWED four: FLUSH");
    for (int k = 0; k < 3; k++) Due.due("not at the third", x.unmap(1, 5 + k), k < 2 ? 5 : 4);
    int ahead = x.count(4);
    x.unmap(1, 11);
    Due.due("at the fourth", x.count(4), ahead + 2);
  }

  // ---- promise 17

  private static GatedDevices withFour(int page, int frame, int[] rights) {
    GatedDevices x = two();
    for (int k = 0; k < 4; k++) x.map(0, page + k, frame + k, rights[k], false);
    return x;
  }

  private static void tidy() {
    int[] alike = {2, 2, 2, 2};
    Due.edge(17, "each TABLE of LEVEL 3 that has four");
    GatedDevices x = withFour(60, 0, alike);
    Due.due("the last four", x.tidy(0), 1);
    Due.due("a BLOCK", x.page(0, 63, 3), 1);
    Due.due("TABLES", x.domainOf(0, 0), 4);
    Due.due("RIGHTS", x.page(0, 63, 1), 2);
    Due.due("none is left", x.tidy(0), 0);
    for (int gone = 0; gone < 4; gone++) {
      GatedDevices y = withFour(0, 0, alike);
      y.unmap(0, gone);
      Due.due("three, without " + gone, y.tidy(0), 0);
    }
    GatedDevices all = one();
    for (int page = 0; page < 64; page++) all.map(0, page, page, 3, false);
    Due.due("sixteen at once", all.tidy(0), 16);
    Due.due("TABLES", all.domainOf(0, 0), 5);

    Due.edge(17, "none RESERVED");
    GatedDevices y = Due.with("device a root;span a 7 7;");
    y.domain(false);
    y.attach(0, 0);
    for (int page = 4; page < 7; page++) y.map(0, page, page, 3, false);
    Due.due("one of four is", y.tidy(0), 0);
    GatedDevices z = Due.with("device a root;span a 4 7;");
    z.domain(false);
    z.attach(0, 0);
    Due.due("all are", z.tidy(0), 0);

    Due.edge(17, "their FRAMES in a row from a multiple of 4 on");
    for (int k = 1; k < 4; k++) Due.due("from " + k, withFour(0, k, alike).tidy(0), 0);
    Due.due("from 60", withFour(0, 60, alike).tidy(0), 1);
    int[][] mixed = {{0, 1, 2, 4}, {3, 2, 1, 0}, {0, 1, 1, 3}, {0, 2, 2, 3}, {4, 1, 2, 3}};
    for (int[] frames : mixed) {
      GatedDevices w = one();
      for (int k = 0; k < 4; k++) w.map(0, k, frames[k], 1, false);
      Due.due("not in a row", w.tidy(0), 0);
    }

    Due.edge(17, "RIGHTS alike");
    for (int k = 0; k < 4; k++) {
      int[] rights = {3, 3, 3, 3};
      rights[k] = 1;
      Due.due("all but " + k, withFour(0, 0, rights).tidy(0), 0);
    }

    Due.edge(17, "NONE: no such DOMAIN");
    for (int d : NO_DOMAIN) Due.due("DOMAIN " + d, x.tidy(d), -1);
    Due.due("another DOMAIN, nothing in it", x.tidy(1), 0);
    GatedDevices other = withFour(0, 0, alike);
    Due.due("of the DOMAIN alone", other.tidy(1), 0);
    Due.due("the first is as it was", other.page(0, 0, 3), 0);
  }

  // ---- promises 24, 25

  private static void page() {
    GatedDevices x = two();
    x.map(0, 63, 0, 2, false);
    x.map(0, 0, 60, 1, true);
    Due.edge(24, "what 0 its FRAME, 1 RIGHTS, 2 whether RESERVED (1, 0), 3 whether in a BLOCK (1, 0)");
    int[][] want = {{63, 0, 2, 0, 0}, {0, 60, 1, 0, 1}, {3, 63, 1, 0, 1}, {20, 20, 3, 1, 0}, {21, 21, 3, 1, 0}};
    for (int[] row : want) {
      for (int what = 0; what < 4; what++) Due.due("PAGE " + row[0] + ", what " + what, x.page(0, row[0], what), row[what + 1]);
    }
    Due.edge(24, "(-2 of 0 .. 3: nothing is mapped)");
    for (int what = 0; what < 4; what++) {
      for (int page : new int[] {4, 19, 22, 62, 32}) {
        Due.due("PAGE " + page + ", what " + what, x.page(0, page, what), -2);
      }
      Due.due("of another DOMAIN", x.page(1, 20, what), -2);
    }
    Due.edge(24, "4 the LEVEL of the last TABLE of a WALK to it");
    int[][] levels = {{0, 2}, {3, 2}, {4, 2}, {15, 2}, {16, 2}, {20, 3}, {22, 3}, {24, 2}, {31, 2}, {32, 1}, {47, 1},
      {48, 2}, {60, 3}, {63, 3}};
    for (int[] row : levels) Due.due("PAGE " + row[0], x.page(0, row[0], 4), row[1]);
    Due.due("of an empty DOMAIN", x.page(1, 0, 4), 1);
    x.map(1, 16, 0, 1, false);
    x.map(1, 48, 0, 1, false);
    int[][] others = {{15, 1}, {16, 3}, {19, 3}, {20, 2}, {31, 2}, {32, 1}, {47, 1}, {48, 3}, {52, 2}, {63, 2}};
    for (int[] row : others) Due.due("of the other DOMAIN, PAGE " + row[0], x.page(1, row[0], 4), row[1]);
    Due.edge(24, "NONE: no such ones");
    for (int d : NO_DOMAIN) for (int what = 0; what < 5; what++) Due.due("DOMAIN " + d, x.page(d, 20, what), -1);
    for (int n : NO_PAGE) for (int what = 0; what < 5; what++) Due.due("PAGE " + n, x.page(0, n, what), -1);
    for (int what : new int[] {-1, 5, Integer.MAX_VALUE, Integer.MIN_VALUE}) {
      Due.due("what " + what, x.page(0, 20, what), -1);
      Due.due("what " + what + ", nothing mapped", x.page(0, 5, what), -1);
    }
  }

  private static void domainOf() {
    Due.edge(25, "what 0 TABLES, 1 PAGES mapped, 2 BLOCKS, 3 OWED, 4 RESERVED PAGES, 5 LAZY (1, 0), 6 GROUPS that have it");
    GatedDevices x = Due.with("device a root;device b root;device c root;device d root;alias a b;span a 20 21;");
    x.domain(true);
    x.domain(false);
    int[] empty = {1, 0, 0, 0, 0, 1, 0};
    for (int what = 0; what < 7; what++) Due.due("at first: what " + what, x.domainOf(0, what), empty[what]);
    x.attach(1, 0);
    x.attach(2, 0);
    x.attach(3, 1);
    x.map(0, 0, 0, 3, true);
    x.map(0, 60, 0, 3, true);
    x.unmap(0, 3);
    int[] want = {6, 9, 1, 1, 2, 1, 2};
    for (int what = 0; what < 7; what++) Due.due("what " + what, x.domainOf(0, what), want[what]);
    int[] other = {1, 0, 0, 0, 0, 0, 1};
    for (int what = 0; what < 7; what++) Due.due("the other: what " + what, x.domainOf(1, what), other[what]);
    Due.edge(25, "NONE: no such ones");
    for (int what : new int[] {-1, 7, Integer.MAX_VALUE, Integer.MIN_VALUE}) Due.due("what " + what, x.domainOf(0, what), -1);
    for (int d : NO_DOMAIN) for (int what = 0; what < 7; what++) Due.due("DOMAIN " + d, x.domainOf(d, what), -1);
  }

  // ---- promises 28, 29

  private static void shared() {
    Due.edge(28, "FRAMES (bits) mapped in both DOMAINS");
    GatedDevices x = two();
    Due.due("none", x.shared(0, 1), 0);
    x.map(0, 0, 0, 1, false);
    x.map(0, 1, 63, 2, false);
    x.map(0, 2, 31, 3, false);
    x.map(1, 60, 60, 2, true);
    x.map(1, 5, 0, 2, false);
    x.map(1, 6, 32, 3, false);
    Due.due("the first, the last one", x.shared(0, 1), 1L | 1L << 63);
    Due.due("either way", x.shared(1, 0), 1L | 1L << 63);
    x.map(1, 7, 31, 1, false);
    x.map(0, 3, 32, 1, false);
    Due.due("31 and 32", x.shared(0, 1), 1L | 1L << 63 | 1L << 31 | 1L << 32);
    x.unmap(0, 1);
    Due.due("mapped no more", x.shared(0, 1), 1L | 1L << 31 | 1L << 32);
    Due.due("a DOMAIN with itself", x.shared(1, 1), 1L | 1L << 31 | 1L << 32 | 15L << 60);
    Due.edge(28, "0: no such ones");
    for (int d : NO_DOMAIN) {
      Due.due("DOMAIN " + d, x.shared(0, d), 0);
      Due.due("DOMAIN " + d, x.shared(d, 0), 0);
      Due.due("DOMAIN " + d, x.shared(d, d), 0);
    }
  }

  private static void gap() {
    Due.edge(29, "The first PAGE from which on n PAGES 1 .. 64 in a row are not mapped");
    GatedDevices x = one();
    for (int n = 1; n <= 64; n++) Due.due("all of " + n, x.gap(0, n), 0);
    x.map(0, 0, 0, 1, false);
    Due.due("63", x.gap(0, 63), 1);
    x.map(0, 3, 0, 1, false);
    x.map(0, 8, 8, 1, true);
    Due.due("1", x.gap(0, 1), 1);
    Due.due("2", x.gap(0, 2), 1);
    Due.due("3", x.gap(0, 3), 4);
    Due.due("4", x.gap(0, 4), 4);
    Due.due("5", x.gap(0, 5), 12);
    Due.due("52, to the end", x.gap(0, 52), 12);
    Due.edge(29, "-2: there is none");
    Due.due("53", x.gap(0, 53), -2);
    Due.due("64", x.gap(0, 64), -2);
    GatedDevices full = one();
    for (int page = 0; page < 64; page += 4) full.map(0, page, page, 1, true);
    Due.due("1 of none", full.gap(0, 1), -2);
    full.unmap(0, 63);
    Due.due("the last one", full.gap(0, 1), 63);
    Due.due("2 at the end", full.gap(0, 2), -2);
    Due.edge(29, "NONE: no such ones");
    for (int n : new int[] {-1, 0, 65, Integer.MAX_VALUE, Integer.MIN_VALUE}) Due.due("n " + n, x.gap(0, n), -1);
    for (int d : new int[] {-1, 1, 4, Integer.MAX_VALUE, Integer.MIN_VALUE}) Due.due("DOMAIN " + d, x.gap(d, 1), -1);
  }
}
