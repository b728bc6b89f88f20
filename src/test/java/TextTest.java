/** Promises 1 to 5: a new object, feed, text, fault, named. */
public final class TextTest {
  private static final int BLANKS = 0x20202020;

  public static void main(String[] args) {
    newObject();
    feed();
    text();
    textBeginsAnew();
    faultsOfTokens();
    faultsOfNumbers();
    faultsOfTooMany();
    faultsOfTelling();
    faultStays();
    named();
    Due.end("TextTest");
  }

  private static void newObject() {
    GatedDevices x = new GatedDevices();
    for (int what = 0; what <= 20; what++) {
      Due.due("new: count(" + what + ")", x.count(what), what == 16 ? 64 : 0);
    }
    Due.due("new: count(-1)", x.count(-1), -1);
    Due.due("new: count(21)", x.count(21), -1);
    Due.due("new: fault(0)", x.fault(0), 0);
    Due.due("new: fault(1)", x.fault(1), -1);
    Due.due("new: text(1), the tape is empty", x.text(1), -2);
    Due.due("new: text(0)", x.text(0), 0);
    Due.due("new: NONE", GatedDevices.NONE, -1);
  }

  private static void feed() {
    GatedDevices x = new GatedDevices();
    for (int k = 1; k <= 35; k++) {
      Due.due("feed " + k, x.feed(BLANKS, BLANKS, BLANKS, BLANKS, BLANKS), 20 * k);
    }
    Due.due("feed beyond 700", x.feed(BLANKS, BLANKS, BLANKS, BLANKS, BLANKS), -1);
    Due.due("text beyond 700", x.text(701), -2);
    Due.due("text of 700 blanks", x.text(700), 0);
    Due.due("feed behind text", x.feed(BLANKS, BLANKS, BLANKS, BLANKS, BLANKS), 20);

    // The highest byte first, a number's sign no matter.
    GatedDevices y = new GatedDevices();
    y.feed(0x64657669, 0x63652061, 0x20726f6f, 0x743b0a20, 0xff808182);
    Due.due("text to the device", y.text(15), 1);
    Due.due("its name", y.named(0, 1 << 25), 0);
    y.feed(BLANKS, 0x20ff2020, BLANKS, BLANKS, BLANKS);
    Due.due("text with 255", y.text(20), -1);
    Due.due("255 is no token", y.fault(0), 1);
    Due.due("its place", y.fault(1), 5);
  }

  private static void text() {
    GatedDevices x = new GatedDevices();
    int[] n = Due.numbers("room 3;seed 4;device");
    x.feed(n[0], n[1], n[2], n[3], n[4]);
    Due.due("text(-1)", x.text(-1), -2);
    Due.due("text(21)", x.text(21), -2);
    Due.due("text(MIN)", x.text(Integer.MIN_VALUE), -2);
    Due.due("text(14), the tape stayed", x.text(14), 2);
    Due.due("the tape is empty", x.text(1), -2);
    Due.fault("", 0, -1);
    Due.fault(" \n ", 0, -1);
    Due.fault("room3;seed00007 ; \nstalls a;", 1, 19);
    Due.fault("bridge n root 0;device a n;alias", 1, 32);
    Due.fault("device a root;device b root;alias a b;alias a b;alias b a;", 0, -1);
    Due.fault("device a root;span a 7 7;span a 0 63;span a 7 7;", 0, -1);
    Due.fault("device a root0", 1, 13);
    Due.fault("bridge n root 2;bridge m n 1;device abcdef m;", 0, -1);
    Due.fault("bridge n root2;", 0, -1);
  }

  private static void textBeginsAnew() {
    GatedDevices x = Due.with("device a root;stall a;room 1;seed 9;");
    x.domain(false);
    x.attach(0, 0);
    x.map(0, 3, 4, 3, false);
    x.use(0, 3, 1);
    x.use(0, 3, 1);
    x.use(0, 9, 1);
    x.close(0);
    x.map(0, 9, 9, 3, false);
    x.serve(true);
    x.use(0, 10, 1);
    x.close(0);
    x.serve(false);
    x.use(0, 10, 1);
    x.close(0);
    x.use(0, 10, 1);
    x.unmap(0, 9);
    x.use(0, 9, 1);
    x.fence();
    x.fence();
    x.work(2);
    x.map(0, 12, 12, 3, false);
    x.use(0, 12, 1);
    x.unmap(0, 12);
    x.keep();
    int[] ahead = {1, 2, 2, 1, 1, 2, 7, 1, 2, 4, 1, 1, 1, 62, 1, 1, 3, 4};
    for (int what = 3; what <= 20; what++) Due.due("ahead: count(" + what + ")", x.count(what), ahead[what - 3]);
    Due.due("a bad text", Due.tell(x, "device a"), -1);
    Due.due("all stays: domains", x.count(3), 1);
    Due.due("all stays: waiting", x.count(11), 2);
    Due.due("all stays: held", x.count(18), 1);
    Due.due("all stays: fences", x.count(5), 2);
    Due.due("all stays: image", x.back(), 1);
    Due.due("all stays: causes", x.cause(0), 10);
    Due.due("a good text", Due.tell(x, "device z root;"), 1);
    for (int what = 3; what <= 20; what++) {
      Due.due("anew: count(" + what + ")", x.count(what), what == 16 ? 64 : 0);
    }
    Due.due("anew: no image", x.back(), -1);
    Due.due("anew: no causes", x.cause(0), -2);
    Due.due("anew: no domain of the device", Due.device(x, 0, 2), -2);
    Due.due("anew: doesn't stall", Due.device(x, 0, 4), 0);
    Due.due("anew: fences from 1 on", x.fence(), 1);
    x.domain(false);
    x.attach(0, 0);
    for (int page = 0; page < 6; page++) {
      x.map(0, page, page, 3, false);
      x.use(0, page, 1);
    }
    Due.due("anew: room is 4", x.count(7), 4);
    Due.due("an empty text", x.text(0), 0);
    Due.due("no devices", x.count(0), 0);
  }

  private static void faultsOfTokens() {
    Due.fault("abcdefg", 1, 0);
    Due.fault("device abcdefg root;", 1, 7);
    Due.fault("device a bridges;", 1, 9);
    Due.fault("Device a root;", 1, 0);
    Due.fault("device a\troot;", 1, 8);
    Due.fault(";", 1, 0);
    Due.fault("room 1;;", 1, 7);
    Due.fault("5;", 1, 0);
    Due.fault("root;", 1, 0);
    Due.fault("a;", 1, 0);
    Due.fault("device root root;", 1, 7);
    Due.fault("device span root;", 1, 7);
    Due.fault("device a seed;", 1, 9);
    Due.fault("device a root;alias root a;", 1, 20);
    Due.fault("device a root;alias a root;", 1, 22);
    Due.fault("device a root;span root 1 2;", 1, 19);
    Due.fault("device a root;stall root;", 1, 20);
    Due.fault("device a root;stall 5;", 1, 20);
    Due.fault("bridge n root x;", 1, 14);
    Due.fault("bridge n root;", 1, 13);
    Due.fault("room x;", 1, 5);
    Due.fault("room 1 2;", 1, 7);
    Due.fault("room 1 room;", 1, 7);
    Due.fault("device a root", 1, 13);
    Due.fault("device a root   ", 1, 16);
    Due.fault("device", 1, 6);
    Due.fault("room 1; seed", 1, 12);
    Due.fault("room 1; ?seed", 1, 8);
  }

  private static void faultsOfNumbers() {
    Due.fault("bridge n root 3;", 2, 14);
    Due.fault("bridge n root 00002;", 0, -1);
    Due.fault("room 0;", 2, 5);
    Due.fault("room 16;", 0, -1);
    Due.fault("room 17;", 2, 5);
    Due.fault("seed 0;", 0, -1);
    Due.fault("seed 99999;", 0, -1);
    Due.fault("seed 100000;", 2, 5);
    Due.fault("seed 4294967296;", 2, 5);
    Due.fault("seed 18446744073709551616;", 2, 5);
    Due.fault("seed 00000000000000000000000000000000007;", 0, -1);
    Due.fault("device a root;span a 63 63;", 0, -1);
    Due.fault("device a root;span a 64 63;", 2, 21);
    Due.fault("device a root;span a 5 64;", 2, 23);
    Due.fault("device a root;span a 5 4;", 5, 23);
    Due.fault("device a root;span a 5;", 1, 22);
    Due.fault("device a root;span a 64;", 2, 21);
    Due.fault("room 17", 2, 5);
  }

  private static void faultsOfTooMany() {
    String six = "";
    for (char n = 'n'; n <= 's'; n++) six += "bridge " + n + " root 1;";
    Due.fault(six, 0, -1);
    Due.fault(six + "bridge n root 1;", 2, six.length());
    Due.fault(six + "bridge", 2, six.length());
    String eight = "";
    for (char d = 'a'; d <= 'h'; d++) eight += "device " + d + " root;";
    Due.fault(eight, 0, -1);
    Due.fault(eight + " device ?", 2, eight.length() + 1);
    String aliases = "device a root;device b root;";
    for (int k = 0; k < 8; k++) aliases += "alias a b;";
    Due.fault(aliases, 0, -1);
    Due.fault(aliases + "alias a b;", 2, aliases.length());
    String spans = "device a root;";
    for (int k = 0; k < 6; k++) spans += "span a 0 1;";
    Due.fault(spans, 0, -1);
    Due.fault(spans + "span a 0 1;", 2, spans.length());
  }

  private static void faultsOfTelling() {
    Due.fault("bridge n root 0;bridge n root 0;", 3, 23);
    Due.fault("bridge n root 0;device n root;", 3, 23);
    Due.fault("device n root;bridge n root 0;", 3, 21);
    Due.fault("device n root;device n root;", 3, 21);
    Due.fault("device a root;stall a;stall a;", 3, 28);
    Due.fault("room 1;room 1;", 3, 7);
    Due.fault("room 1;room 17;", 3, 7);
    Due.fault("seed 1; seed", 3, 8);
    Due.fault("bridge a a 0;", 4, 9);
    Due.fault("bridge n m 0;bridge m root 0;", 4, 9);
    Due.fault("device a root;device b a;", 4, 23);
    Due.fault("device a n 5", 4, 9);
    Due.fault("bridge n root 0;alias n n;", 4, 22);
    Due.fault("device a root;alias b a;", 4, 20);
    Due.fault("device a root;alias a b;", 4, 22);
    Due.fault("device a root;alias a a;", 5, 22);
    Due.fault("bridge n root 0;stall n;", 4, 22);
    Due.fault("span a 70 1;", 4, 5);
  }

  private static void faultStays() {
    GatedDevices x = new GatedDevices();
    Due.tell(x, "room 1;room 2;");
    Due.due("text that is -2", x.text(5), -2);
    Due.due("fault(0) stays", x.fault(0), 3);
    Due.due("fault(1) stays", x.fault(1), 7);
    Due.due("fault(2)", x.fault(2), -1);
    Due.due("fault(-1)", x.fault(-1), -1);
    x.keep();
    Due.tell(x, "room 0;");
    x.back();
    Due.due("an image keeps no fault", x.fault(0), 2);
    Due.tell(x, "room 1;");
    Due.due("fault(0) of a good one", x.fault(0), 0);
    Due.due("fault(1) of a good one", x.fault(1), -1);
  }

  private static void named() {
    GatedDevices x = Due.with("bridge n root 0;bridge abcdef n 0;device z n;device ab n;device bridg n;");
    Due.due("named z", x.named(0, Due.letters("z")), 0);
    Due.due("named ab", x.named(0, Due.letters("ab")), 1);
    Due.due("named ab by its bits", x.named(0, 1 << 25 | 2 << 20), 1);
    Due.due("named bridg", x.named(0, Due.letters("bridg")), 2);
    Due.due("named bridge n", x.named(1, Due.letters("n")), 0);
    Due.due("named abcdef", x.named(1, 1 << 25 | 2 << 20 | 3 << 15 | 4 << 10 | 5 << 5 | 6), 1);
    Due.due("a bridge is no device", x.named(0, Due.letters("n")), -1);
    Due.due("a device is no bridge", x.named(1, Due.letters("z")), -1);
    Due.due("named(2)", x.named(2, Due.letters("z")), -1);
    Due.due("named(-1)", x.named(-1, Due.letters("z")), -1);
    Due.due("low letters", x.named(0, 26), -1);
    Due.due("no letters", x.named(0, 0), -1);
    Due.due("more bits", x.named(0, Due.letters("z") | 1 << 30), -1);
    Due.due("the sign's bit", x.named(0, Due.letters("z") | 1 << 31), -1);
  }
}
