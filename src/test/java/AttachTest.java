/** Promises 9, 10, 18, 19: attach, detach, the row of causes. */
public final class AttachTest {
  public static void main(String[] args) {
    attach();
    attachRefused();
    orderOfSpans();
    detach();
    detachKeepsOthers();
    detachRefused();
    causes();
    wrongInputs();
    Due.end("AttachTest");
  }

  private static void attach() {
    GatedDevices x = Due.with("device a root;device b root;device c root;alias a b;"
        + "span a 4 6;span b 6 8;span c 8 9;");
    x.domain(false);
    Due.due("a's group, page 6 once", x.attach(1, 0), 5);
    Due.due("a has it", Due.device(x, 0, 2), 0);
    Due.due("b has it", Due.device(x, 1, 2), 0);
    Due.due("c hasn't", Due.device(x, 2, 2), -2);
    for (int page = 4; page <= 8; page++) {
      Due.due("frame", x.page(0, page, 0), page);
      Due.due("rights", x.page(0, page, 1), 3);
      Due.due("reserved", x.page(0, page, 2), 1);
    }
    Due.due("groups", x.domainOf(0, 6), 1);
    Due.due("c: page 8 is so already", x.attach(2, 0), 1);
    Due.due("groups", x.domainOf(0, 6), 2);
    Due.due("reserved", x.domainOf(0, 4), 6);
    Due.due("tables", x.domainOf(0, 0), 4);
    x.domain(false);
    GatedDevices y = Due.with("device a root;");
    y.domain(false);
    Due.due("no spans", y.attach(0, 0), 0);
    Due.due("it has it", Due.device(y, 0, 2), 0);
  }

  private static void attachRefused() {
    GatedDevices x = Due.with("device a root;device b root;device c root;alias c b;span c 10 12;span a 30 30;");
    x.domain(false);
    x.domain(false);
    x.map(0, 12, 12, 3, false);
    Due.due("mapped, but not reserved", x.attach(1, 0), -2);
    Due.causes("mapped", x, 5, 1, 4, 2, 1, 12);
    Due.due("no domain", Due.device(x, 1, 2), -2);
    Due.due("page 10 stays", x.page(0, 10, 0), -2);
    x.unmap(0, 12);
    Due.due("its frame is held", x.attach(2, 0), -2);
    Due.causes("held", x, 5, 2, 4, 2, 2, 12);
    Due.due("in the other domain, too", x.attach(2, 1), -2);
    Due.causes("held", x, 5, 2, 4, 2, 2, 12);
    x.map(0, 11, 5, 3, false);
    Due.due("mapped comes ahead along the span", x.attach(2, 0), -2);
    Due.causes("along the span", x, 5, 2, 4, 2, 1, 11);
    x.fence();
    x.work(24);
    Due.due("in the other domain", x.attach(2, 1), 3);
    Due.due("twice", x.attach(2, 1), -2);
    Due.causes("twice", x, 9, 1);
    Due.due("to another", x.attach(1, 0), -2);
    Due.causes("to another", x, 9, 1);
    x.map(0, 40, 30, 1, false);
    x.unmap(0, 40);
    x.map(0, 30, 5, 1, false);
    Due.due("mapped goes ahead of held", x.attach(0, 0), -2);
    Due.causes("mapped goes ahead of held", x, 5, 0, 4, 0, 1, 30);
  }

  private static void orderOfSpans() {
    GatedDevices x = Due.with("device a root;device b root;alias a b;span b 1 1;span a 40 41;span a 20 21;");
    x.domain(false);
    x.map(0, 1, 1, 3, false);
    x.map(0, 20, 1, 3, false);
    x.map(0, 41, 1, 3, false);
    Due.due("refused", x.attach(1, 0), -2);
    Due.causes("a ahead of b, spans as told", x, 5, 1, 4, 0, 1, 41);
    x.unmap(0, 41);
    x.attach(1, 0);
    Due.causes("then the second span", x, 5, 1, 4, 0, 1, 20);
    x.unmap(0, 20);
    x.attach(0, 0);
    Due.causes("then b", x, 5, 0, 4, 1, 1, 1);
  }

  private static void detach() {
    GatedDevices x = Due.with("device a root;device b root;alias a b;stall a;stall b;span a 4 5;span b 5 6;room 8;");
    x.domain(true);
    x.attach(0, 0);
    x.map(0, 7, 7, 3, false);
    x.use(0, 4, 1);
    x.use(0, 20, 1);
    x.use(1, 20, 1);
    x.close(1);
    x.use(1, 21, 1);
    x.close(0);
    x.use(0, 22, 1);
    Due.due("four wait", x.count(11), 4);
    x.map(0, 30, 30, 1, false);
    x.unmap(0, 30);
    Due.due("the fence's number", x.detach(1), 1);
    Due.due("none waits", x.count(11), 0);
    Due.due("none in the line", x.count(15), 0);
    Due.due("all failed", x.count(14), 4);
    Due.due("a has none", Due.device(x, 0, 2), -2);
    Due.due("b has none", Due.device(x, 1, 2), -2);
    Due.due("page 7 stays", x.domainOf(0, 1), 1);
    Due.due("none reserved", x.domainOf(0, 4), 0);
    Due.due("no groups", x.domainOf(0, 6), 0);
    Due.due("nothing owed", x.domainOf(0, 3), 0);
    Due.due("all, a fence", x.count(4), 2);
    Due.due("all", x.queued(0, 0), 1);
    Due.due("of it", x.queued(0, 1), 0);
    Due.due("held", x.count(18), 4);
    Due.due("stale", x.cached(0, 4), 1);
    x.work(24);
    Due.due("free", x.count(18), 0);
    Due.due("again", x.attach(0, 0), 3);
    Due.due("the next fence", x.detach(0), 2);
  }

  private static void detachKeepsOthers() {
    GatedDevices x = Due.with("device a root;device b root;device c root;stall c;span a 4 6;span b 6 8;span c 4 4;");
    x.domain(false);
    x.domain(false);
    x.attach(0, 0);
    x.attach(1, 0);
    x.attach(2, 1);
    x.use(2, 9, 1);
    x.detach(0);
    Due.due("page 4", x.page(0, 4, 0), -2);
    Due.due("page 6 is b's, too", x.page(0, 6, 2), 1);
    Due.due("page 4 of the other domain", x.page(1, 4, 2), 1);
    Due.due("c's request waits", x.count(11), 1);
    Due.due("frame 4 is used", x.frame(4, 0), 1);
    Due.due("frame 5 is held", x.frame(5, 0), 2);
    x.detach(1);
    Due.due("all gone", x.domainOf(0, 0), 1);
    x.work(24);
    Due.due("free but 4", x.count(16), 63);
  }

  private static void detachRefused() {
    GatedDevices x = Due.with("device a root;device b root;alias b a;span a 1 1;");
    x.domain(false);
    Due.due("no domain", x.detach(1), -2);
    Due.causes("no domain", x, 9, 0);
    x.attach(0, 0);
    for (int k = 0; k < 23; k++) x.fence();
    Due.due("full", x.detach(1), -2);
    Due.causes("full", x, 6, 23);
    Due.due("it has it still", Due.device(x, 0, 2), 0);
    Due.due("reserved still", x.domainOf(0, 4), 1);
    x.work(1);
    Due.due("22 are not too many", x.detach(1), 24);
    x.fence();
    Due.due("no domain goes ahead of full", x.detach(1), -2);
    Due.causes("no domain goes ahead of full", x, 9, 0);
  }

  private static void causes() {
    GatedDevices x = Due.with("device a root;device b root;stall a;");
    Due.due("cause(0)", x.cause(0), -2);
    Due.due("about(0)", x.about(0), -2);
    Due.due("cause(-1)", x.cause(-1), -1);
    Due.due("about(-1)", x.about(-1), -1);
    x.domain(false);
    x.use(0, 1, 1);
    Due.causes("no domain", x, 10, 0, 9, 0);
    x.use(1, 1, 1);
    Due.causes("no domain", x, 10, 1, 9, 1);
    x.attach(0, 0);
    x.attach(1, 0);
    Due.causes("they stay", x, 10, 1, 9, 1);
    Due.due("a request", x.use(0, 1, 1), -3);
    Due.causes("a request", x, 10, 0, 7, 1);
    x.map(0, 1, 1, 1, false);
    Due.due("a request", x.use(0, 1, 2), -3);
    Due.causes("no right", x, 10, 0, 8, 1);
    Due.due("nothing at 5", x.use(1, 5, 2), -2);
    Due.causes("nothing at 5", x, 10, 1, 7, 2);
    Due.due("nothing at 2", x.use(1, 2, 2), -2);
    Due.causes("nothing at 2", x, 10, 1, 7, 3);
    x.close(0);
    x.close(0);
    x.tidy(9);
    x.serve(true);
    x.serve(true);
    Due.due("refused by others", x.serve(true), -2);
    Due.causes("they stay", x, 10, 1, 7, 3);
    for (int k = 0; k < 9; k++) x.use(0, 1, 2);
    Due.causes("too many", x, 11, 0, 10, 0, 8, 1);
    Due.due("far behind", x.cause(Integer.MAX_VALUE), -2);
    Due.due("far ahead", x.about(Integer.MIN_VALUE), -1);
  }

  private static void wrongInputs() {
    GatedDevices x = Due.with("device a root;");
    x.domain(false);
    for (int n : new int[] {-1, 1, 8, Integer.MAX_VALUE, Integer.MIN_VALUE}) {
      Due.due("attach's device", x.attach(n, 0), -1);
      Due.due("attach's domain", x.attach(0, n), -1);
      Due.due("detach", x.detach(n), -1);
    }
    Due.due("no cause of these", x.cause(0), -2);
    Due.due("no domain by these", Due.device(x, 0, 2), -2);
  }
}
