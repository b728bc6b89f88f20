/** Promises 14 (-3, -4), 15, 16, 34 (2), 38 (11 .. 15): requests, batches, the line. */
public final class RequestsTest {
  public static void main(String[] args) {
    close();
    serveWell();
    serveNotWell();
    line();
    tooMany();
    takenIfServed();
    serveLooksInOrder();
    Due.end("RequestsTest");
  }

  private static GatedDevices withThree() {
    GatedDevices x = Due.with("device a root;device b root;device c root;stall a;stall b;room 8;");
    x.domain(false);
    for (int d = 0; d < 3; d++) x.attach(d, 0);
    return x;
  }

  private static void counts(String when, GatedDevices x, int wait, int came, int taken, int failed, int line) {
    int[] want = {wait, came, taken, failed, line};
    for (int k = 0; k < 5; k++) Due.due(when + ": count(" + (11 + k) + ")", x.count(11 + k), want[k]);
  }

  private static void close() {
    GatedDevices x = withThree();
    Due.due("none open", x.close(0), -2);
    Due.due("a request", x.use(0, 1, 1), -3);
    Due.due("a request", x.use(0, 1, 1), -3);
    Due.due("doesn't stall", x.use(2, 1, 1), -2);
    counts("open", x, 2, 2, 0, 0, 0);
    Due.due("closed", x.close(0), 2);
    counts("closed", x, 2, 2, 0, 0, 1);
    Due.due("none open", x.close(0), -2);
    Due.due("of none", x.close(2), -2);
    for (int n : new int[] {-1, 3, Integer.MAX_VALUE}) Due.due("no such device", x.close(n), -1);
  }

  private static void serveWell() {
    GatedDevices x = withThree();
    Due.due("none", x.serve(true), -2);
    Due.due("none", x.serve(false), -2);
    x.use(0, 1, 1);
    x.use(0, 2, 1);
    x.use(0, 3, 2);
    Due.due("none is closed", x.serve(true), -2);
    x.close(0);
    x.map(0, 1, 1, 1, false);
    x.map(0, 3, 3, 1, false);
    int records = x.count(20);
    Due.due("one is taken", x.serve(true), 1);
    counts("served", x, 0, 3, 1, 2, 0);
    Due.due("walks", x.count(9), 6);
    Due.due("an entry came", x.cached(0, 1), 1);
    Due.due("no records", x.count(20), records);
    Due.causes("no causes", x, 10, 0, 7, 1);
    Due.due("none", x.serve(true), -2);
  }

  private static void serveNotWell() {
    GatedDevices x = withThree();
    x.use(0, 1, 1);
    x.use(0, 2, 1);
    x.close(0);
    x.use(0, 2, 1);
    x.map(0, 1, 1, 3, true);
    x.map(0, 4, 4, 3, true);
    Due.due("none is taken", x.serve(false), 0);
    counts("not well", x, 1, 3, 0, 2, 0);
    Due.due("no looks", x.count(9), 3);
  }

  private static void line() {
    GatedDevices x = withThree();
    x.use(0, 1, 1);
    x.use(1, 2, 1);
    x.use(1, 3, 1);
    x.close(1);
    x.close(0);
    x.use(1, 4, 1);
    x.close(1);
    Due.due("batches", x.count(15), 3);
    Due.due("of b", Due.device(x, 1, 6), 2);
    for (int page = 1; page < 5; page++) x.map(0, page, page, 3, false);
    Due.due("b's first", x.serve(true), 2);
    Due.due("a's", x.serve(true), 1);
    Due.due("a has none", Due.device(x, 0, 6), 0);
    Due.due("b's second", x.serve(true), 1);
    Due.due("none", x.serve(true), -2);
    int[] pages = {2, 3, 1, 4};
    for (int k = 0; k < 4; k++) Due.due("as they were served", x.cached(k, 1), pages[k]);
    counts("line", x, 0, 4, 4, 0, 0);
  }

  private static void tooMany() {
    GatedDevices x = withThree();
    for (int k = 0; k < 3; k++) x.use(0, k, 1);
    x.close(0);
    for (int k = 0; k < 2; k++) x.use(0, k, 1);
    for (int k = 0; k < 3; k++) Due.due("up to eight", x.use(1, k, 1), -3);
    counts("eight", x, 8, 8, 0, 0, 1);
    Due.due("a ninth one", x.use(0, 9, 1), -4);
    Due.causes("a ninth one", x, 11, 0, 10, 0, 7, 1);
    counts("its open batch failed", x, 6, 8, 0, 2, 1);
    Due.due("a's open", Due.device(x, 0, 5), 0);
    Due.due("a's closed", Due.device(x, 0, 6), 1);
    Due.due("b's open", Due.device(x, 1, 5), 3);
    x.use(1, 9, 1);
    x.use(1, 9, 1);
    Due.due("none open: none fails", x.use(0, 9, 1), -4);
    counts("none fails", x, 8, 10, 0, 2, 1);
    Due.due("of b: all fail", x.use(1, 9, 1), -4);
    counts("all fail", x, 3, 10, 0, 7, 1);
    Due.due("who doesn't stall is refused", x.use(2, 9, 1), -2);
  }

  private static void takenIfServed() {
    GatedDevices x = withThree();
    Due.due("none", x.tried(2), 0);
    x.use(0, 1, 1);
    x.use(0, 2, 1);
    x.close(0);
    x.use(1, 1, 2);
    x.use(1, 5, 2);
    x.close(1);
    x.use(1, 1, 1);
    x.map(0, 1, 1, 3, false);
    Due.due("two", x.tried(2), 2);
    Due.due("nothing changed", x.count(15), 2);
    Due.due("nothing changed", x.count(7), 0);
    Due.due("one by the first", x.serve(true), 1);
    Due.due("one is left", x.tried(2), 1);
    Due.due("one by the second", x.serve(true), 1);
    Due.due("none is left", x.tried(2), 0);
    Due.due("one waits, open", x.count(11), 1);
  }

  private static void serveLooksInOrder() {
    GatedDevices x = Due.with("device a root;stall a;room 1;");
    x.domain(false);
    x.attach(0, 0);
    x.use(0, 0, 1);
    x.use(0, 1, 1);
    x.use(0, 0, 1);
    x.use(0, 0, 1);
    x.close(0);
    x.map(0, 0, 0, 3, true);
    Due.due("all", x.serve(true), 4);
    Due.due("one hit", x.count(8), 1);
    Due.due("walks", x.count(9), 7);
  }
}
