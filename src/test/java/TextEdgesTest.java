/** The edges that the document names of promises 1 to 5 and of a TEXT: one test for each sentence. */
public final class TextEdgesTest {
  private static final int BLANKS = 0x20202020;

  public static void main(String[] args) {
    newObject();
    tape();
    text();
    textThatIsRefused();
    textBeginsAnew();
    textAhead();
    tokens();
    tooMuch();
    tooMany();
    told();
    notTold();
    againstItself();
    whichFault();
    fault();
    named();
    Due.end("TextEdgesTest");
  }

  private static int blanks(GatedDevices x) {
    return x.feed(BLANKS, BLANKS, BLANKS, BLANKS, BLANKS);
  }

  /** Feeds a text behind the tape without reading it. */
  private static void feed(GatedDevices x, String text) {
    int[] n = Due.numbers(text);
    for (int i = 0; i < n.length; i += 5) x.feed(n[i], n[i + 1], n[i + 2], n[i + 3], n[i + 4]);
  }

  // ---- promises 1, 2

  private static void newObject() {
    Due.edge(1, "Neither BRIDGES nor DEVICES");
    GatedDevices x = new GatedDevices();
    Due.due("DEVICES", x.count(0), 0);
    Due.due("BRIDGES", x.count(1), 0);
    Due.due("GROUPS", x.count(2), 0);
    Due.due("group(0)", x.group(0), -1);
    Due.due("device(0, 0)", Due.device(x, 0, 0), -101);
    Due.due("named(0, 0)", x.named(0, 0), -1);
    Due.due("named(1, 0)", x.named(1, 0), -1);
    Due.edge(1, "an empty TAPE");
    Due.due("text(1)", x.text(1), -2);
    Due.due("text(0)", x.text(0), 0);
    Due.due("the first feed", blanks(x), 20);
  }

  private static void tape() {
    Due.edge(2, "Twenty bytes come behind the TAPE, four of each number, the highest first");
    GatedDevices x = new GatedDevices();
    feed(x, "device abc root;room");
    Due.due("how many it has", x.feed(0x20313000, 0xffffffff, 0x80000000, 0x7fffffff, 0), 40);
    Due.due("text(23), no stop yet", x.text(23), -1);
    Due.due("its place", x.fault(1), 23);
    feed(x, "device abc root;room");
    x.feed(0x20313b00, 0xffffffff, 0x80000000, 0x7fffffff, 0);
    Due.due("text(23)", x.text(23), 2);
    Due.due("the first number's", x.named(0, Due.letters("abc")), 0);

    Due.edge(2, "NONE, and none come, if it would have more than 700");
    GatedDevices y = new GatedDevices();
    for (int k = 1; k <= 34; k++) blanks(y);
    feed(y, "             room 2;");
    Due.due("a 36th feed", y.feed(0x3b3b3b3b, 0x3b3b3b3b, 0x3b3b3b3b, 0x3b3b3b3b, 0x3b3b3b3b), -1);
    Due.due("one more", blanks(y), -1);
    Due.due("text(701)", y.text(701), -2);
    Due.due("text(720)", y.text(720), -2);
    Due.due("text(700), as it was", y.text(700), 1);
    GatedDevices z = new GatedDevices();
    for (int k = 1; k <= 35; k++) Due.due("feed " + k, blanks(z), 20 * k);
  }

  // ---- promise 3

  private static void text() {
    Due.edge(3, "The TAPE's first n bytes (it is empty then) are the TEXT");
    GatedDevices x = new GatedDevices();
    feed(x, "room 1; ????????????");
    Due.due("the first 8", x.text(8), 1);
    Due.due("empty then", x.text(1), -2);
    Due.due("empty then", blanks(x), 20);
    feed(x, "????????????????????");
    Due.due("with a FAULT", x.text(40), -1);
    Due.due("empty then, too", blanks(x), 20);
    Due.due("none of its bytes", x.text(0), 0);
    Due.due("empty then, too", blanks(x), 20);

    Due.edge(3, "how many LINES");
    Due.due("none", x.text(20), 0);
    Due.due("one", Due.tell(x, "seed 1;"), 1);
    Due.due("two", Due.tell(x, "seed 1;room 1;"), 2);
    Due.due("of each sort", Due.tell(x, "bridge n root 0;device a n;device b n;alias a b;span a 1 2;stall a;room 1;seed 0;"),
        8);
    StringBuilder most = new StringBuilder();
    for (int k = 0; k < 6; k++) most.append("bridge ").append((char) ('n' + k)).append(" root 0;");
    for (int k = 0; k < 8; k++) most.append("device ").append((char) ('a' + k)).append(" n;");
    for (int k = 0; k < 8; k++) most.append("alias a b;");
    for (int k = 0; k < 6; k++) most.append("span a 0 63;");
    for (int k = 0; k < 8; k++) most.append("stall ").append((char) ('a' + k)).append(";");
    Due.due("as many as can be", Due.tell(x, most + "room 16;seed 99999;"), 38);
  }

  private static void textThatIsRefused() {
    Due.edge(3, "-2, and the TAPE stays: there are not so many, n is below 0");
    GatedDevices x = new GatedDevices();
    Due.due("1 of none", x.text(1), -2);
    feed(x, "room 1;room 2;room 3");
    Due.due("21 of 20", x.text(21), -2);
    Due.due("-1", x.text(-1), -2);
    Due.due("the least number", x.text(Integer.MIN_VALUE), -2);
    Due.due("the greatest", x.text(Integer.MAX_VALUE), -2);
    Due.due("the TAPE stayed", blanks(x), 40);
    Due.due("all of it", x.text(40), -1);
    Due.due("its FAULT", x.fault(1), 7);

    Due.edge(3, "NONE with a FAULT, all else stays");
    GatedDevices y = busy();
    long ahead = sum(y);
    Due.due("a FAULT at the end", Due.tell(y, "bridge z root 0;device y z;stall y;span y 0 5;room 9;seed 7;device x x;"), -1);
    Due.due("all that can be told", sum(y), ahead);
    Due.due("the DEVICE", y.named(0, Due.letters("a")), 0);
    Due.due("no other", y.named(0, Due.letters("y")), -1);
    Due.due("the IMAGE", y.back(), 1);
  }

  /** All has come to be something in it; a few calls alone, since an object has 512. */
  private static GatedDevices busy() {
    GatedDevices x = Due.with("device a root;device b root;stall a;room 1;seed 9;");
    x.domain(true);
    x.attach(0, 0);
    x.map(0, 3, 4, 3, false);
    x.use(0, 3, 1);
    x.use(0, 3, 1);
    x.unmap(0, 3);
    x.use(0, 3, 1);
    x.fence();
    x.flush(0);
    x.work(1);
    x.map(0, 5, 5, 3, false);
    x.use(0, 9, 1);
    x.close(0);
    x.serve(false);
    x.use(0, 11, 1);
    x.close(0);
    x.map(0, 11, 11, 3, false);
    x.serve(true);
    x.use(0, 5, 1);
    x.map(0, 9, 9, 1, false);
    x.use(0, 9, 2);
    x.map(0, 8, 8, 1, false);
    x.unmap(0, 8);
    x.use(0, 8, 1);
    x.close(0);
    x.keep();
    x.use(0, 10, 1);
    x.map(0, 5, 5, 1, false);
    return x;
  }

  /** Counts, and what else a text begins anew, as one number. */
  private static long sum(GatedDevices x) {
    long sum = 0;
    for (int what = 0; what <= 20; what++) sum = sum * 31 + x.count(what);
    for (int k = 0; k < 3; k++) sum = (sum * 31 + x.cause(k)) * 31 + x.about(k);
    for (int what = 0; what < 8; what++) sum = (sum * 31 + Due.device(x, 0, what)) * 31 + x.domainOf(0, what);
    for (int k = 0; k < 9; k++) sum = (sum * 31 + x.record(k, 1)) * 31 + x.queued(k, 2) * 31 + x.cached(k, 1);
    for (int f = 0; f < 12; f++) sum = sum * 31 + x.frame(f, 0);
    return sum * 31 + x.churn(-1, 40);
  }

  private static void textBeginsAnew() {
    String words = "(no DOMAINS, all FRAMES FREE, QUEUE, CACHE, LINE, CAUSES, RECORDS empty, counts 0, no IMAGE)";
    Due.edge(3, words);
    GatedDevices x = busy();
    for (int what = 3; what <= 20; what++) {
      Due.due("ahead: is there some count(" + what + ")", x.count(what) > 0 ? 1 : 0, 1);
    }
    Due.due("another text", Due.tell(x, "device a root;device b root;"), 2);
    Due.due("DOMAINS", x.count(3), 0);
    Due.due("of the first", x.domainOf(0, 0), -1);
    Due.due("of a DEVICE", Due.device(x, 0, 2), -2);
    for (int f = 0; f < 64; f++) Due.due("FRAME " + f, x.frame(f, 0), 0);
    Due.due("FRAMES FREE", x.count(16), 64);
    Due.due("QUEUE", x.count(4), 0);
    Due.due("the first in it", x.queued(0, 0), -1);
    Due.due("CACHE", x.count(7), 0);
    Due.due("the first in it", x.cached(0, 0), -1);
    Due.due("LINE", x.count(15), 0);
    Due.due("REQUESTS that wait", x.count(11), 0);
    Due.due("the open BATCH", Due.device(x, 0, 5), 0);
    Due.due("served", x.serve(true), -2);
    Due.due("CAUSES", x.cause(0), -2);
    Due.due("RECORDS", x.count(20), 0);
    Due.due("the latest", x.record(0, 0), -1);
    for (int what : new int[] {5, 6, 8, 9, 10, 12, 13, 14}) Due.due("count(" + what + ")", x.count(what), 0);
    Due.due("no IMAGE", x.back(), -1);
    Due.due("the first DOMAIN", x.domain(true), 0);
    Due.due("nothing OWED", x.domainOf(0, 3), 0);
    Due.due("TABLES", x.domainOf(0, 0), 1);
    Due.edge(30, "FENCES, numbered from 1 on");
    Due.due("the first FENCE of the new TEXT", x.fence(), 1);

    Due.edge(3, words);
    tablesAnew();
    framesAnew();
    GatedDevices y = busy();
    Due.due("an empty text", y.text(0), 0);
    Due.due("no DEVICES", y.count(0), 0);
    Due.due("no DOMAINS", y.count(3), 0);
    Due.due("no IMAGE", y.back(), -1);
  }

  /** Nothing of a text ahead is left, be the next one shorter or have a fault ahead of it been told. */
  private static void textAhead() {
    Due.edge(3, "The TAPE's first n bytes (it is empty then) are the TEXT");
    GatedDevices x = Due.with("bridge n root 2;bridge m n 1;device a m;device b m;device c n;device d root;alias d a;"
        + "span a 3 9;span b 20 20;stall a;stall b;room 16;seed 5;");
    Due.due("with a FAULT", Due.tell(x, "bridge o root 2;device z o;device y o;stall z;alias z y;?"), -1);
    Due.due("shorter", Due.tell(x, "bridge p root 0;bridge q p 0;device e q;device f q;device g p;"), 5);
    Due.due("DEVICES", x.count(0), 3);
    Due.due("BRIDGES", x.count(1), 2);
    Due.due("GROUPS", x.count(2), 3);
    for (int d = 0; d < 3; d++) {
      Due.due("the GROUP of " + d, x.group(d), 1 << d);
      Due.due("SIGN of " + d, Due.device(x, d, 3), d);
      Due.due("does " + d + " STALL", Due.device(x, d, 4), 0);
    }
    Due.due("a fourth", x.group(3), -1);
    for (String name : "a b c d z y".split(" ")) Due.due("DEVICE " + name, x.named(0, Due.letters(name)), -1);
    for (String name : "n m o".split(" ")) Due.due("BRIDGE " + name, x.named(1, Due.letters(name)), -1);
    x.domain(false);
    for (int d = 0; d < 3; d++) Due.due("no SPANS", x.attach(d, 0), 0);
    Due.due("parting", x.parting(0, 1), 0);
    Due.due("devices alone", Due.tell(x, "device h root;device i root;device j root;"), 3);
    for (int d = 0; d < 3; d++) Due.due("BRIDGES above " + d, Due.device(x, d, 7), 0);
    Due.due("nothing", x.text(0), 0);
    Due.due("none", x.count(0) + x.count(1) + x.count(2), 0);
    Due.due("none such", x.named(0, Due.letters("h")), -1);
  }

  private static void tablesAnew() {
    GatedDevices x = Due.with("device a root;span a 9 9;");
    x.domain(false);
    x.attach(0, 0);
    x.map(0, 4, 4, 3, true);
    Due.tell(x, "device a root;");
    x.domain(false);
    x.attach(0, 0);
    Due.due("no FRAMES by tables", x.reach(0, 1, 0), 0);
    Due.due("nothing there", x.use(0, 4, 1), -2);
    Due.due("nothing there", x.use(0, 9, 1), -2);
    Due.due("no entries", x.count(7), 0);
    x.map(0, 4, 4, 1, false);
    x.map(0, 9, 9, 1, false);
    Due.due("in no BLOCK", x.page(0, 4, 3), 0);
    Due.due("not RESERVED", x.page(0, 9, 2), 0);
    Due.due("BLOCKS", x.domainOf(0, 2), 0);
    Due.due("RESERVED", x.domainOf(0, 4), 0);
    Due.due("TABLES", x.domainOf(0, 0), 4);
    Due.due("not RESERVED", x.unmap(0, 9), 3);
  }

  /** What was unmapped ahead of a text is no matter behind it. */
  private static void framesAnew() {
    for (int d = 0; d < 4; d += 3) {
      GatedDevices x = new GatedDevices();
      for (int k = 0; k < 4; k++) x.domain(true);
      x.map(d, 63 - 21 * d, 21 * d, 1, false);
      x.unmap(d, 63 - 21 * d);
      Due.due("HELD", x.count(18), 1);
      x.text(0);
      x.domain(false);
      x.map(0, 5, 21 * d, 1, false);
      x.unmap(0, 5);
      x.fence();
      x.work(24);
      Due.due("FREE", x.frame(21 * d, 0), 0);
    }
  }

  // ---- a TEXT

  private static void tokens() {
    Due.edge(3, "{ LINE ';' }");
    Due.fault("", 0, -1);
    Due.fault(" ", 0, -1);
    Due.fault("\n \n", 0, -1);
    Due.fault("room 1;", 0, -1);
    Due.fault("room 1;seed 1;", 0, -1);
    Due.fault("room 1", 1, 6);
    Due.fault("room 1 seed 1;", 1, 7);
    Due.fault(";room 1;", 1, 0);

    Due.edge(3, "W: one of 1 .. 6 letters");
    Due.fault("device a root;", 0, -1);
    Due.fault("device abcdef root;", 0, -1);
    Due.fault("device root;", 1, 7);
    Due.fault("device abcdefg root;", 1, 7);

    Due.edge(3, "none of those of the language");
    for (String word : "bridge device alias span stall room seed root".split(" ")) {
      Due.fault("device " + word + " root;", 1, 7);
      Due.fault("bridge " + word + " root 0;", 1, 7);
      Due.fault("stall " + word + ";", 1, 6);
      if (!word.equals("root")) Due.fault("device a " + word + ";", 1, 9);
    }
    Due.fault("device roots root;device roo root;device bridg root;device rooma root;device seeds root;", 0, -1);

    Due.edge(3, "(the second one of bridge, device may be the word root)");
    Due.fault("bridge n root 0;bridge m n 1;device a root;device b m;", 0, -1);
    Due.fault("device a root;alias a root;", 1, 22);

    Due.edge(3, "N: digits");
    Due.fault("room 016;seed 000000000000000000000000000000099999;", 0, -1);
    Due.fault("room -1;", 1, 5);
    Due.fault("room +1;", 1, 5);
    Due.fault("room 1.0;", 1, 6);
    Due.fault("room 1 0;", 1, 7);
    Due.fault("room 0x1;", 2, 5);
    Due.fault("seed 0x1;", 1, 6);

    Due.edge(3, "Blanks 10, 32");
    Due.fault("\n\n room\n1 \n; \n", 0, -1);
    Due.fault("room1;seed2;device a root;span a0 1;", 0, -1);
    for (char sign : new char[] {0, 9, 11, 12, 13, 31, 33, 127, 160, 255}) Due.fault("room" + sign + "1;", 1, 4);

    Due.edge(3, "1 a TOKEN that is none");
    for (char sign : new char[] {'A', 'Z', '`', '{', '/', ':', '<', '_', '-', 128}) Due.fault("room 1;" + sign, 1, 7);
    Due.edge(3, "(a word of more than 6 letters that isn't of the language, too)");
    Due.fault("devices a root;", 1, 0);
    Due.fault("device a root;stall aaaaaaa;", 1, 20);
    Due.fault("device abcdef root;stall abcdefg;", 1, 25);

    Due.edge(3, "or can't stand there");
    Due.fault(";", 1, 0);
    Due.fault("room 1;;", 1, 7);
    Due.fault("1;", 1, 0);
    Due.fault("abc;", 1, 0);
    Due.fault("root;", 1, 0);
    Due.fault("room 1 1;", 1, 7);
    Due.fault("room 1 a;", 1, 7);
    Due.fault("stall 1;", 1, 6);
    Due.fault("device a 1;", 1, 9);
    Due.fault("device a;", 1, 8);
    Due.fault("device a root b;", 1, 14);
    Due.fault("bridge n root;", 1, 13);

    Due.edge(3, "(the length, if more must come)");
    String text = "bridge n root 0;device a n;alias";
    for (int n = 0; n < 20; n++) {
      GatedDevices x = new GatedDevices();
      feed(x, text);
      boolean whole = n == 0 || n == 16;
      Due.due("the first " + n, x.text(n), whole ? n / 16 : -1);
      // A word that is cut is none of the language, where one must be.
      boolean cut = n > 0 && n < 6 || n > 16;
      int place = n < 6 ? 0 : n < 16 ? n : 16;
      // "root" cut to one of its letters is a bridge that isn't told.
      boolean unknown = n > 9 && n < 13;
      if (!whole && !unknown) Due.due("its place of " + n, x.fault(1), cut ? place : n);
      if (!whole) Due.due("its FAULT of " + n, x.fault(0), unknown ? 4 : 1);
    }
    Due.fault("room \n ", 1, 7);
    Due.fault("room", 1, 4);
    GatedDevices y = new GatedDevices();
    feed(y, "room 15;");
    Due.due("within a number", y.text(6), -1);
    Due.due("its place", y.fault(1), 6);
  }

  private static void tooMuch() {
    Due.edge(3, "2 too much (at it): a number beyond what is said");
    Due.fault("bridge n root 3;", 2, 14);
    Due.fault("bridge n root 10;", 2, 14);
    Due.fault("room 99999999999999999999;", 2, 5);
    Due.fault("seed 4294967297;", 2, 5);
    Due.edge(3, "KIND: 0 it PARTS, 1 it LETS, 2 it HIDES");
    Due.fault("bridge n root 0;bridge m root 1;bridge o root 2;", 0, -1);
    Due.fault("bridge n root 3;", 2, 14);
    Due.edge(3, "PAGES from the first N to the second one, 0 .. 63");
    Due.fault("device a root;span a 0 63;span a 63 63;span a 0 0;", 0, -1);
    Due.fault("device a root;span a 64 64;", 2, 21);
    Due.fault("device a root;span a 63 64;", 2, 24);
    Due.fault("device a root;span a 4294967296 63;", 2, 21);
    Due.edge(3, "room: 1 .. 16 entries of the CACHE (4)");
    Due.fault("room 1;", 0, -1);
    Due.fault("room 16;", 0, -1);
    Due.fault("room 0;", 2, 5);
    Due.fault("room 17;", 2, 5);
    Due.due("none is told", entries(""), 4);
    Due.due("1", entries("room 1;"), 1);
    Due.due("5", entries("room 5;"), 5);
    Due.due("16", entries("room 16;"), 16);
    GatedDevices x = Due.with("room 9;");
    Due.due("another text", Due.tell(x, "device a root;"), 1);
    Due.due("4 again", entries(x), 4);
    Due.edge(3, "seed: 0 .. 99999 (0)");
    Due.due("another text has 0", churned("seed 77;", ""), churned("", ""));
    Due.due("or its own", churned("seed 77;", "seed 4711;"), churned("", "seed 4711;"));
    boolean differ = churned("", "") != churned("", "seed 4711;") || churned("", "") != churned("", "seed 77;");
    Due.due("seeds differ", differ ? 1 : 0, 1);
    Due.fault("seed 0;", 0, -1);
    Due.fault("seed 99999;", 0, -1);
    Due.fault("seed 100000;", 2, 5);
  }

  /** Hits from the text's seed on, of an object that was told another text ahead. */
  private static int churned(String ahead, String line) {
    GatedDevices x = Due.with("device a root;" + ahead);
    Due.tell(x, "device a root;room 16;" + line);
    entries(x);
    return 41 * x.churn(-1, 40) + x.churn(-1, 20);
  }

  private static int entries(String line) {
    GatedDevices x = Due.with("device a root;" + line);
    return entries(x);
  }

  private static int entries(GatedDevices x) {
    x.domain(false);
    x.attach(0, 0);
    for (int page = 0; page < 20; page += 4) x.map(0, page, page, 3, true);
    for (int page = 0; page < 20; page++) x.use(0, page, 1);
    return x.count(7);
  }

  private static String lines(String word, int many, String rest) {
    StringBuilder lines = new StringBuilder();
    for (int k = 0; k < many; k++) lines.append(word).append((char) ('a' + k)).append(rest);
    return lines.toString();
  }

  private static void tooMany() {
    Due.edge(3, "a seventh bridge");
    String bridges = lines("bridge n", 6, " root 0;");
    Due.fault(bridges, 0, -1);
    Due.fault(bridges + "bridge ng root 0;", 2, bridges.length());
    Due.edge(3, "a ninth device");
    String devices = lines("device ", 8, " root;");
    Due.fault(devices, 0, -1);
    Due.fault(devices + "device i root;", 2, devices.length());
    Due.edge(3, "a ninth alias");
    String aliases = "device a root;device b root;" + "alias a b;".repeat(8);
    Due.fault(aliases, 0, -1);
    Due.fault(aliases + "alias a b;", 2, aliases.length());
    Due.edge(3, "a seventh span");
    String spans = "device a root;" + "span a 1 2;".repeat(6);
    Due.fault(spans, 0, -1);
    Due.fault(spans + "span a 1 2;", 2, spans.length());
    Due.edge(3, "(at the word of the LINE)");
    Due.fault(bridges + " \n bridge", 2, bridges.length() + 3);
    Due.fault(devices + " device ?", 2, devices.length() + 1);
    Due.fault(aliases + " alias a a;", 2, aliases.length() + 1);
    Due.fault(spans + " span z 64 1;", 2, spans.length() + 1);
  }

  private static void told() {
    Due.edge(3, "3 told already: a name (at W)");
    Due.fault("bridge n root 0;bridge n root 0;", 3, 23);
    Due.fault("device n root;device n root;", 3, 21);
    Due.edge(3, "names of both are unlike");
    Due.fault("bridge n root 0;device n root;", 3, 23);
    Due.fault("device n root;bridge n root 0;", 3, 21);
    Due.fault("device n root;device nn root;device na root;bridge nb root 0;", 0, -1);
    Due.edge(3, "stall of the DEVICE (at W)");
    Due.fault("device a root;device b root;stall a;stall b;", 0, -1);
    Due.fault("device a root;device b root;stall a;stall b;stall a;", 3, 50);
    Due.edge(3, "room, seed (at the word)");
    Due.fault("room 4;room 4;", 3, 7);
    Due.fault("seed 0;seed 0;", 3, 7);
    Due.fault("room 4;seed 4; room", 3, 15);
    Due.fault("seed 4;room 4; seed;", 3, 15);
    GatedDevices x = new GatedDevices();
    Due.due("told in a text", Due.tell(x, "device a root;stall a;room 1;seed 1;"), 4);
    Due.due("not yet in the next one", Due.tell(x, "device a root;stall a;room 1;seed 1;"), 4);
  }

  private static void notTold() {
    Due.edge(3, "4 a BRIDGE (what it is beneath)");
    Due.fault("bridge n m 0;bridge m root 0;", 4, 9);
    Due.fault("bridge n n 0;", 4, 9);
    Due.fault("device a root;bridge n a 0;", 4, 23);
    Due.fault("device a n;", 4, 9);
    Due.fault("device a a;", 4, 9);
    Due.fault("device a root;device b a;", 4, 23);
    Due.edge(3, "a DEVICE (of alias, span, stall) that isn't told ahead (at W)");
    Due.fault("device b root;alias a b;device a root;", 4, 20);
    Due.fault("device b root;alias b a;device a root;", 4, 22);
    Due.fault("span a 1 2;device a root;", 4, 5);
    Due.fault("stall a;device a root;", 4, 6);
    Due.fault("bridge n root 0;device a n;alias n a;", 4, 33);
    Due.fault("bridge n root 0;device a n;alias a n;", 4, 35);
    Due.fault("bridge n root 0;span n 1 2;", 4, 21);
    Due.fault("bridge n root 0;stall n;", 4, 22);
    GatedDevices x = Due.with("bridge n root 0;device a root;");
    Due.due("told in the text ahead", Due.tell(x, "device b n;"), -1);
    Due.due("its FAULT", x.fault(0), 4);
    Due.due("told in the text ahead", Due.tell(x, "stall a;"), -1);
    Due.due("its FAULT", x.fault(0), 4);
  }

  private static void againstItself() {
    Due.edge(3, "5 an alias of a DEVICE to itself (at the second W)");
    Due.fault("device a root;alias a a;", 5, 22);
    Due.fault("device a root;device b root;alias a b;alias b a;", 0, -1);
    Due.edge(3, "a span whose second N is less than the first (at it)");
    Due.fault("device a root;span a 5 5;", 0, -1);
    Due.fault("device a root;span a 5 4;", 5, 23);
    Due.fault("device a root;span a 63 0;", 5, 24);
  }

  private static void whichFault() {
    Due.edge(3, "FAULTS, the first along the text");
    Due.fault("room 17;room 17;?", 2, 5);
    Due.fault("room 1;room 17;?", 3, 7);
    Due.fault("device a root;span a 64 1;", 2, 21);
    Due.fault("device a n root", 4, 9);
    Due.fault("device a root;alias a a ?", 5, 22);
    Due.fault("device a root;span a 5 4 4;", 5, 23);
    Due.fault("room ? 17;room 1;", 1, 5);
    Due.fault("device a root;stall a;stall a b;", 3, 28);
    Due.edge(3, "(of one place the least)");
    Due.fault("stall abcdefg;", 1, 6);
    Due.fault("span root 1 2;", 1, 5);
    Due.fault("alias 99 a;", 1, 6);
    Due.fault("device a bridge;", 1, 9);
  }

  // ---- promises 4, 5

  private static void fault() {
    Due.edge(4, "Of the latest text() that was not -2");
    GatedDevices x = new GatedDevices();
    Due.due("none ahead: its FAULT", x.fault(0), 0);
    Due.due("none ahead: its place", x.fault(1), -1);
    Due.tell(x, "room 1;room 2;");
    Due.due("-2", x.text(9), -2);
    Due.due("its FAULT", x.fault(0), 3);
    Due.due("its place", x.fault(1), 7);
    Due.tell(x, "room 0;");
    Due.due("the later one's FAULT", x.fault(0), 2);
    Due.due("the later one's place", x.fault(1), 5);
    Due.edge(4, "its place (NONE without)");
    Due.tell(x, "?");
    Due.due("the first place", x.fault(1), 0);
    Due.tell(x, "room 1;");
    Due.due("without", x.fault(1), -1);
    Due.due("its FAULT (0)", x.fault(0), 0);
    Due.due("-2", x.text(1), -2);
    Due.due("still without", x.fault(1), -1);
    Due.edge(4, "NONE for another what");
    for (int what : new int[] {-1, 2, 3, Integer.MAX_VALUE, Integer.MIN_VALUE}) {
      Due.due("fault(" + what + ")", x.fault(what), -1);
    }
  }

  private static void named() {
    Due.edge(5, "5 bits each (a is 1; the first one highest of six, 0 behind the last one)");
    GatedDevices x = Due.with("bridge z root 0;bridge abcdef root 0;device az root;device za root;device zzzzzz root;"
        + "device a root;");
    Due.due("az", x.named(0, 1 << 25 | 26 << 20), 0);
    Due.due("za", x.named(0, 26 << 25 | 1 << 20), 1);
    Due.due("zzzzzz", x.named(0, 26 << 25 | 26 << 20 | 26 << 15 | 26 << 10 | 26 << 5 | 26), 2);
    Due.due("a", x.named(0, 1 << 25), 3);
    Due.due("z", x.named(1, 26 << 25), 0);
    Due.due("abcdef", x.named(1, 1 << 25 | 2 << 20 | 3 << 15 | 4 << 10 | 5 << 5 | 6), 1);
    Due.edge(5, "NONE: there is none such");
    Due.due("a, lowest", x.named(0, 1), -1);
    Due.due("a BRIDGE's name", x.named(0, 26 << 25), -1);
    Due.due("a DEVICE's name", x.named(1, 1 << 25), -1);
    Due.due("abcde", x.named(1, 1 << 25 | 2 << 20 | 3 << 15 | 4 << 10 | 5 << 5), -1);
    Due.due("0", x.named(0, 0), -1);
    Due.due("-1", x.named(1, -1), -1);
    Due.due("a and the highest bit", x.named(0, 1 << 25 | 1 << 31), -1);
    Due.due("a and the next one", x.named(0, 1 << 25 | 1 << 30), -1);
    for (int what : new int[] {-1, 2, Integer.MAX_VALUE}) Due.due("what " + what, x.named(what, 1 << 25), -1);
    Due.edge(5, "its number");
    GatedDevices y = Due.with("device a root;bridge n root 0;device b root;bridge m root 0;");
    Due.due("each sort as they come: b", y.named(0, Due.letters("b")), 1);
    Due.due("each sort as they come: n", y.named(1, Due.letters("n")), 0);
    Due.due("each sort as they come: m", y.named(1, Due.letters("m")), 1);
  }
}
