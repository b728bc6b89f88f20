import java.util.NoSuchElementException;

/** Devices beneath bridges that reach memory by domains' tables alone. */
public final class GatedDevices {
  public static final int NONE = -1;

  // Answers below NONE.
  private static final int REFUSED = -2;
  private static final int WAITS = -3;
  private static final int TOO_MANY = -4;

  private static final int PAGES = 64;
  private static final int FRAMES = 64;
  private static final int BLOCK_PAGES = 4;
  private static final int BLOCKS = 16;
  private static final int MOST_DOMAINS = 4;
  private static final int MOST_BRIDGES = 6;
  private static final int MOST_DEVICES = 8;
  private static final int MOST_ALIASES = 8;
  private static final int MOST_SPANS = 6;
  private static final int MOST_ROOM = 16;
  private static final int MOST_SEED = 99999;
  private static final int MOST_QUEUED = 24;
  private static final int MOST_WAITING = 8;
  private static final int MOST_RECORDS = 8;
  private static final int MOST_CAUSES = 3;
  private static final int MOST_BYTES = 700;
  private static final int MOST_CHURN = 40;
  private static final int OWED_TILL_FLUSH = 4;
  private static final int FIRST_ROOM = 4;

  // What a bridge does.
  private static final int PARTS = 0;
  private static final int HIDES = 2;

  // What a frame is.
  private static final int FREE = 0;
  private static final int USED = 1;
  private static final int HELD = 2;

  // What stands in the queue.
  private static final int ONE_PAGE = 0;
  private static final int ALL_PAGES = 1;
  private static final int FENCE = 2;

  // Causes, by their numbers.
  private static final int PAGE_MAPPED = 1;
  private static final int FRAME_HELD = 2;
  private static final int PAGE_RESERVED = 3;
  private static final int SPAN_CANNOT = 4;
  private static final int GROUP_CANNOT = 5;
  private static final int QUEUE_FULL = 6;
  private static final int NOTHING_MAPPED = 7;
  private static final int NO_RIGHT = 8;
  private static final int DOMAIN_WRONG = 9;
  private static final int FAULTED = 10;
  private static final int TOO_MANY_WAIT = 11;

  private final Reader reader = new Reader();
  private final State now = new State();
  private final State image = new State();
  // What calls that only ask work on; made once, since all calls share one room.
  private final State trial = new State();
  private boolean imaged;

  public GatedDevices() {
  }

  public int feed(int a, int b, int c, int d, int e) {
    if (reader.taped > MOST_BYTES - 20) {
      return NONE;
    }
    reader.addFour(a);
    reader.addFour(b);
    reader.addFour(c);
    reader.addFour(d);
    reader.addFour(e);
    return reader.taped;
  }

  public int text(int n) {
    if (n < 0 || n > reader.taped) {
      return REFUSED;
    }
    if (!reader.read(n)) {
      return NONE;
    }
    now.startWith(reader.tree);
    imaged = false;
    return reader.lines;
  }

  public int fault(int what) {
    if (what == 0) {
      return reader.faultSort;
    }
    return what == 1 ? reader.faultPlace : NONE;
  }

  public int named(int what, int letters) {
    if (what == 0) {
      return now.tree.deviceNamed(letters);
    }
    return what == 1 ? now.tree.bridgeNamed(letters) : NONE;
  }

  public int domain(boolean lazy) {
    return now.tables.addDomain(lazy);
  }

  public int map(int domain, int page, int frame, int rights, boolean block) {
    if (!isDomain(domain) || !isPage(page) || !isFrame(frame) || rights < 1 || rights > 3) {
      return NONE;
    }
    if (block && (page % BLOCK_PAGES != 0 || frame % BLOCK_PAGES != 0)) {
      return NONE;
    }
    return now.mapPages(domain, page, frame, rights, block);
  }

  public int unmap(int domain, int page) {
    return isDomain(domain) && isPage(page) ? now.unmapPage(domain, page) : NONE;
  }

  public int attach(int device, int domain) {
    return isDevice(device) && isDomain(domain) ? now.attachGroup(device, domain) : NONE;
  }

  public int detach(int device) {
    return isDevice(device) ? now.detachGroup(device) : NONE;
  }

  public int flush(int domain) {
    return isDomain(domain) ? now.flushByCall(domain) : NONE;
  }

  public int fence() {
    return now.queue.length < MOST_QUEUED ? now.queue.addFence() : NONE;
  }

  public int work(int n) {
    return n < 0 || n > MOST_QUEUED ? NONE : now.workSteps(n);
  }

  public int use(int device, int page, int right) {
    return isDevice(device) && isPage(page) && isRight(right) ? now.useBy(device, page, right) : NONE;
  }

  public int close(int device) {
    return isDevice(device) ? now.requests.closeBatch(device) : NONE;
  }

  public int serve(boolean well) {
    return now.serveFirst(well);
  }

  public int tidy(int domain) {
    return isDomain(domain) ? now.tables.tidyDomain(domain) : NONE;
  }

  public int cause(int k) {
    return k < 0 ? NONE : now.log.causeAt(k);
  }

  public int about(int k) {
    return k < 0 ? NONE : now.log.aboutAt(k);
  }

  public int device(int device, int what) throws IndexOutOfBoundsException, NoSuchElementException {
    if (!isDevice(device)) {
      throw new IndexOutOfBoundsException("no such device");
    }
    switch (what) {
      case 0: return at(now.tree.lowest, device);
      case 1: return Integer.bitCount(now.tree.groupBits(device));
      case 2: return now.domainOr(device, REFUSED);
      case 3: return now.tree.signOf(device);
      case 4: return at(now.tree.stalls, device);
      case 5: return now.requests.openOf(device);
      case 6: return now.requests.batchesOf(device);
      case 7: return Integer.bitCount(at(now.tree.above, device));
      default: throw new NoSuchElementException("no such what");
    }
  }

  public int group(int device) {
    return isDevice(device) ? now.tree.groupBits(device) : NONE;
  }

  public int parting(int one, int other) {
    int bits = partingSet(one, other);
    return bits < 0 ? bits : Integer.bitCount(bits);
  }

  public int partingSet(int one, int other) {
    return isDevice(one) && isDevice(other) && one != other ? now.tree.fewestParting(one, other) : NONE;
  }

  public int page(int domain, int page, int what) {
    if (!isDomain(domain) || !isPage(page) || what < 0 || what > 4) {
      return NONE;
    }
    return now.tables.tellPage(domain, page, what);
  }

  public int domainOf(int domain, int what) {
    if (!isDomain(domain)) {
      return NONE;
    }
    switch (what) {
      case 0: return now.tables.tablesOf(domain);
      case 1: return now.tables.mappedOf(domain);
      case 2: return now.tables.blocksOf(domain);
      case 3: return at(now.tables.owed, domain);
      case 4: return now.tables.reservedOf(domain);
      case 5: return at(now.tables.lazy, domain);
      case 6: return now.groupsOf(domain);
      default: return NONE;
    }
  }

  public int frame(int frame, int what) {
    if (!isFrame(frame)) {
      return NONE;
    }
    switch (what) {
      case 0: return now.frames.stateOf(frame);
      case 1: return at(now.frames.uses, frame);
      case 2: return now.cache.entriesOf(frame);
      case 3: return now.staleEntriesOf(frame);
      default: return NONE;
    }
  }

  public long reach(int device, int right, int what) {
    if (!isDevice(device) || !isRight(right) || what < 0 || what > 2) {
      return 0L;
    }
    int domain = now.domainOr(device, NONE);
    if (domain == NONE) {
      return 0L;
    }
    return what == 0 ? now.tables.framesOf(domain, right) : now.hitFrames(domain, right, what == 2);
  }

  public long shared(int one, int other) {
    if (!isDomain(one) || !isDomain(other)) {
      return 0L;
    }
    return now.tables.framesOf(one, 3) & now.tables.framesOf(other, 3);
  }

  public int gap(int domain, int n) {
    return isDomain(domain) && n >= 1 && n <= PAGES ? now.tables.firstGap(domain, n) : NONE;
  }

  public int queued(int k, int what) {
    return now.queue.tell(k, what);
  }

  public int cached(int k, int what) {
    return what == 4 ? now.entryStale(k) : now.cache.tell(k, what);
  }

  public int record(int k, int what) {
    return now.log.tellRecord(k, what);
  }

  public int freeing(int frame) {
    return isFrame(frame) ? now.stepsTillFree(frame) : NONE;
  }

  public int tried(int what) {
    if (what < 0 || what > 3) {
      return NONE;
    }
    trial.copyFrom(now);
    switch (what) {
      case 0: return trial.freeIfFlushed();
      case 1: return trial.entriesIfWorked();
      case 2: return trial.takenIfServed();
      default: return trial.tablesIfTidied();
    }
  }

  public int churn(int seed, int n) {
    if (seed < -1 || n < 1 || n > MOST_CHURN) {
      return NONE;
    }
    if (now.tree.devices == 0) {
      return REFUSED;
    }
    trial.copyFrom(now);
    return trial.hitsIfChurned(seed == -1 ? now.tree.seed : seed, n);
  }

  public int keep() {
    image.copyFrom(now);
    imaged = true;
    return now.tables.domains;
  }

  public int back() {
    if (!imaged) {
      return NONE;
    }
    now.copyFrom(image);
    return now.tables.domains;
  }

  public int count(int what) {
    switch (what) {
      case 0: return now.tree.devices;
      case 1: return now.tree.bridges;
      case 2: return now.tree.groups();
      case 3: return now.tables.domains;
      case 4: return now.queue.length;
      case 5: return now.queue.fencesCame;
      case 6: return now.queue.fencesPassed;
      case 7: return now.cache.length;
      case 8: return now.log.hits;
      case 9: return now.log.walks;
      case 10: return now.log.staleHits;
      case 11: return now.requests.length;
      case 12: return now.requests.came;
      case 13: return now.requests.taken;
      case 14: return now.requests.failed;
      case 15: return now.requests.batches();
      case 16: return now.frames.howMany(FREE);
      case 17: return now.frames.howMany(USED);
      case 18: return now.frames.howMany(HELD);
      case 19: return now.tables.tablesOfAll();
      case 20: return now.log.records;
      default: return NONE;
    }
  }

  private boolean isDevice(int device) {
    return device >= 0 && device < now.tree.devices;
  }

  private boolean isDomain(int domain) {
    return domain >= 0 && domain < now.tables.domains;
  }

  private static boolean isPage(int page) {
    return page >= 0 && page < PAGES;
  }

  private static boolean isFrame(int frame) {
    return frame >= 0 && frame < FRAMES;
  }

  private static boolean isRight(int right) {
    return right == 1 || right == 2;
  }

  // Rows are read and written by these where the index is no counter of the row's own length,
  // so that no call can leave a row, whatever the state.

  private static int at(int[] row, int i) {
    return i >= 0 && i < row.length ? row[i] : NONE;
  }

  private static void put(int[] row, int i, int value) {
    if (i >= 0 && i < row.length) {
      row[i] = value;
    }
  }

  private static void copyRow(int[] from, int[] to) {
    for (int i = 0; i < to.length; i++) {
      to[i] = at(from, i);
    }
  }

  private static void fillRow(int[] row, int value) {
    for (int i = 0; i < row.length; i++) {
      row[i] = value;
    }
  }

  /** Takes the i-th out of the first n of a row; those behind it move up. */
  private static void takeOut(int[] row, int i, int n) {
    if (i < 0 || i >= n || n > row.length) {
      return;
    }
    for (int k = i + 1; k < n; k++) {
      row[k - 1] = row[k];
    }
  }

  /** What a text tells: bridges, devices, aliases, spans, room and seed. */
  private static final class Tree {
    private int bridges;
    private final int[] bridgeName = new int[MOST_BRIDGES];
    private final int[] bridgeKind = new int[MOST_BRIDGES];
    // Bits: the bridge itself and those above it. What is above is told ahead,
    // so the lowest number is the nearest to root.
    private final int[] upFrom = new int[MOST_BRIDGES];
    private int devices;
    private final int[] deviceName = new int[MOST_DEVICES];
    private final int[] above = new int[MOST_DEVICES];
    private final int[] stalls = new int[MOST_DEVICES];
    private int aliases;
    private final int[] aliasOne = new int[MOST_ALIASES];
    private final int[] aliasOther = new int[MOST_ALIASES];
    private int spans;
    private final int[] spanDevice = new int[MOST_SPANS];
    private final int[] spanFirst = new int[MOST_SPANS];
    private final int[] spanLast = new int[MOST_SPANS];
    private int room = FIRST_ROOM;
    private int seed;
    // Of each device the lowest one of its group.
    private final int[] lowest = new int[MOST_DEVICES];
    private final int[] lowestTried = new int[MOST_DEVICES];

    void clear() {
      bridges = 0;
      devices = 0;
      aliases = 0;
      spans = 0;
      room = FIRST_ROOM;
      seed = 0;
      fillRow(stalls, 0);
    }

    void copyFrom(Tree other) {
      bridges = other.bridges;
      copyRow(other.bridgeName, bridgeName);
      copyRow(other.bridgeKind, bridgeKind);
      copyRow(other.upFrom, upFrom);
      devices = other.devices;
      copyRow(other.deviceName, deviceName);
      copyRow(other.above, above);
      copyRow(other.stalls, stalls);
      aliases = other.aliases;
      copyRow(other.aliasOne, aliasOne);
      copyRow(other.aliasOther, aliasOther);
      spans = other.spans;
      copyRow(other.spanDevice, spanDevice);
      copyRow(other.spanFirst, spanFirst);
      copyRow(other.spanLast, spanLast);
      room = other.room;
      seed = other.seed;
      copyRow(other.lowest, lowest);
    }

    void addBridge(int name, int beneath, int kind) {
      put(bridgeName, bridges, name);
      put(bridgeKind, bridges, kind);
      put(upFrom, bridges, 1 << bridges | bitsUpFrom(beneath));
      bridges++;
    }

    void addDevice(int name, int beneath) {
      put(deviceName, devices, name);
      put(above, devices, bitsUpFrom(beneath));
      devices++;
    }

    private int bitsUpFrom(int bridge) {
      return bridge == NONE ? 0 : at(upFrom, bridge);
    }

    void addAlias(int one, int other) {
      put(aliasOne, aliases, one);
      put(aliasOther, aliases, other);
      aliases++;
    }

    void addSpan(int device, int first, int last) {
      put(spanDevice, spans, device);
      put(spanFirst, spans, first);
      put(spanLast, spans, last);
      spans++;
    }

    int bridgeNamed(int letters) {
      return placeOf(bridgeName, bridges, letters);
    }

    int deviceNamed(int letters) {
      return placeOf(deviceName, devices, letters);
    }

    private static int placeOf(int[] names, int n, int letters) {
      for (int k = 0; k < n; k++) {
        if (at(names, k) == letters) {
          return k;
        }
      }
      return NONE;
    }

    /** Fills a row with the lowest device of each group, were the bridges of these bits to part, too. */
    void join(int parted, int[] low) {
      for (int d = 0; d < low.length; d++) {
        low[d] = d;
      }
      for (int b = 0; b < bridges; b++) {
        if (at(bridgeKind, b) != PARTS && (parted >> b & 1) == 0) {
          joinBeneath(b, low);
        }
      }
      for (int k = 0; k < aliases; k++) {
        merge(low, at(aliasOne, k), at(aliasOther, k));
      }
    }

    private void joinBeneath(int bridge, int[] low) {
      int first = NONE;
      for (int d = 0; d < devices; d++) {
        if ((at(above, d) >> bridge & 1) == 0) {
          continue;
        }
        if (first == NONE) {
          first = d;
        } else {
          merge(low, first, d);
        }
      }
    }

    private static void merge(int[] low, int one, int other) {
      int kept = Math.min(at(low, one), at(low, other));
      int gone = Math.max(at(low, one), at(low, other));
      for (int d = 0; d < low.length; d++) {
        if (low[d] == gone) {
          low[d] = kept;
        }
      }
    }

    int groupBits(int device) {
      int bits = 0;
      for (int d = 0; d < devices; d++) {
        if (areOne(device, d)) {
          bits |= 1 << d;
        }
      }
      return bits;
    }

    boolean areOne(int device, int other) {
      return at(lowest, device) == at(lowest, other);
    }

    int groups() {
      int many = 0;
      for (int d = 0; d < devices; d++) {
        if (at(lowest, d) == d) {
          many++;
        }
      }
      return many;
    }

    int signOf(int device) {
      int bits = at(above, device);
      for (int b = 0; b < bridges; b++) {
        if ((bits >> b & 1) != 0 && at(bridgeKind, b) == HIDES) {
          return MOST_DEVICES + b;
        }
      }
      return device;
    }

    /** The smallest set of bridges that parts the two: by how many, then by its number. */
    int fewestParting(int one, int other) {
      int best = REFUSED;
      for (int bits = 0; bits < 1 << bridges; bits++) {
        if (best >= 0 && Integer.bitCount(bits) >= Integer.bitCount(best)) {
          continue;
        }
        join(bits, lowestTried);
        if (at(lowestTried, one) != at(lowestTried, other)) {
          best = bits;
        }
      }
      return best;
    }

    boolean inSpan(int span, int page) {
      return page >= at(spanFirst, span) && page <= at(spanLast, span);
    }

    /** Whether a page is in a span of a device of the group. */
    boolean spansPage(int device, int page) {
      for (int k = 0; k < spans; k++) {
        if (areOne(device, at(spanDevice, k)) && inSpan(k, page)) {
          return true;
        }
      }
      return false;
    }
  }

  /** Reads a text off the tape into a tree, up to its end or its first fault. */
  private static final class Reader {
    private static final int THE_END = 0;
    private static final int WORD = 1;
    private static final int NUMBER = 2;
    private static final int STOP = 3;
    private static final int NO_TOKEN = 4;

    // The words of the language, written as named() has letters: 5 bits each, the first one highest of six.
    private static final int BRIDGE = 2 << 25 | 18 << 20 | 9 << 15 | 4 << 10 | 7 << 5 | 5;
    private static final int DEVICE = 4 << 25 | 5 << 20 | 22 << 15 | 9 << 10 | 3 << 5 | 5;
    private static final int ALIAS = 1 << 25 | 12 << 20 | 9 << 15 | 1 << 10 | 19 << 5;
    private static final int SPAN = 19 << 25 | 16 << 20 | 1 << 15 | 14 << 10;
    private static final int STALL = 19 << 25 | 20 << 20 | 1 << 15 | 12 << 10 | 12 << 5;
    private static final int ROOM = 18 << 25 | 15 << 20 | 15 << 15 | 13 << 10;
    private static final int SEED = 19 << 25 | 5 << 20 | 5 << 15 | 4 << 10;
    private static final int ROOT = 18 << 25 | 15 << 20 | 15 << 15 | 20 << 10;

    private static final int LONGEST_WORD = 6;
    // Above each number that may be told, and far from the end of the ints.
    private static final int BEYOND = 1000000;

    private final int[] tape = new int[MOST_BYTES];
    private int taped;
    // A draft: a text with a fault must leave the tree in use as it is.
    private final Tree tree = new Tree();
    private int end;
    private int next;
    private int place;
    private int sort;
    // Of a number what it tells, of a word its letters.
    private int value;
    private boolean roomTold;
    private boolean seedTold;
    private int lines;
    private int faultSort;
    private int faultPlace = NONE;

    void addFour(int four) {
      for (int shift = 24; shift >= 0; shift -= 8) {
        put(tape, taped, four >>> shift & 255);
        taped++;
      }
    }

    /** Whether the tape's first n bytes are a text without a fault; the tape is empty then. */
    boolean read(int n) {
      tree.clear();
      taped = 0;
      end = n;
      next = 0;
      lines = 0;
      roomTold = false;
      seedTold = false;
      faultSort = 0;
      faultPlace = NONE;
      advance();
      for (int k = 0; k <= MOST_BYTES && sort != THE_END; k++) {
        if (!readLine()) {
          return false;
        }
        lines++;
        advance();
      }
      return true;
    }

    private boolean readLine() {
      if (sort != WORD) {
        return refuse(1);
      }
      switch (value) {
        case BRIDGE: return readBridge();
        case DEVICE: return readDevice();
        case ALIAS: return readAlias();
        case SPAN: return readSpan();
        case STALL: return readStall();
        case ROOM: return readRoom();
        case SEED: return readSeed();
        default: return refuse(1);
      }
    }

    private boolean readBridge() {
      if (tree.bridges >= MOST_BRIDGES) {
        return refuse(2);
      }
      if (!readNewName()) {
        return false;
      }
      int name = value;
      int beneath = readBeneath();
      if (beneath == REFUSED || !readNumber(0, 2)) {
        return false;
      }
      tree.addBridge(name, beneath, value);
      return readStop();
    }

    private boolean readDevice() {
      if (tree.devices >= MOST_DEVICES) {
        return refuse(2);
      }
      if (!readNewName()) {
        return false;
      }
      int name = value;
      int beneath = readBeneath();
      if (beneath == REFUSED) {
        return false;
      }
      tree.addDevice(name, beneath);
      return readStop();
    }

    private boolean readAlias() {
      if (tree.aliases >= MOST_ALIASES) {
        return refuse(2);
      }
      int one = readToldDevice();
      if (one == REFUSED) {
        return false;
      }
      int other = readToldDevice();
      if (other == REFUSED) {
        return false;
      }
      if (one == other) {
        return refuse(5);
      }
      tree.addAlias(one, other);
      return readStop();
    }

    private boolean readSpan() {
      if (tree.spans >= MOST_SPANS) {
        return refuse(2);
      }
      int device = readToldDevice();
      if (device == REFUSED || !readNumber(0, PAGES - 1)) {
        return false;
      }
      int first = value;
      if (!readNumber(0, PAGES - 1)) {
        return false;
      }
      if (value < first) {
        return refuse(5);
      }
      tree.addSpan(device, first, value);
      return readStop();
    }

    private boolean readStall() {
      int device = readToldDevice();
      if (device == REFUSED) {
        return false;
      }
      if (at(tree.stalls, device) == 1) {
        return refuse(3);
      }
      put(tree.stalls, device, 1);
      return readStop();
    }

    private boolean readRoom() {
      if (roomTold) {
        return refuse(3);
      }
      if (!readNumber(1, MOST_ROOM)) {
        return false;
      }
      roomTold = true;
      tree.room = value;
      return readStop();
    }

    private boolean readSeed() {
      if (seedTold) {
        return refuse(3);
      }
      if (!readNumber(0, MOST_SEED)) {
        return false;
      }
      seedTold = true;
      tree.seed = value;
      return readStop();
    }

    private boolean readNewName() {
      advance();
      if (!isName()) {
        return refuse(1);
      }
      if (tree.bridgeNamed(value) != NONE || tree.deviceNamed(value) != NONE) {
        return refuse(3);
      }
      return true;
    }

    /** The bridge that comes, NONE for root, or REFUSED. */
    private int readBeneath() {
      advance();
      if (sort == WORD && value == ROOT) {
        return NONE;
      }
      return isName() ? told(tree.bridgeNamed(value)) : refusedHere(1);
    }

    private int readToldDevice() {
      advance();
      return isName() ? told(tree.deviceNamed(value)) : refusedHere(1);
    }

    private int told(int number) {
      return number == NONE ? refusedHere(4) : number;
    }

    private boolean readNumber(int least, int most) {
      advance();
      if (sort != NUMBER) {
        return refuse(1);
      }
      return value >= least && value <= most || refuse(2);
    }

    private boolean readStop() {
      advance();
      return sort == STOP || refuse(1);
    }

    private boolean refuse(int fault) {
      faultSort = fault;
      faultPlace = place;
      return false;
    }

    private int refusedHere(int fault) {
      refuse(fault);
      return REFUSED;
    }

    /** The next token comes to place, sort and value. */
    private void advance() {
      while (next < end && (at(tape, next) == 10 || at(tape, next) == 32)) {
        next++;
      }
      place = next;
      if (next >= end) {
        sort = THE_END;
      } else if (isLetter(at(tape, next))) {
        takeWord();
      } else if (isDigit(at(tape, next))) {
        takeNumber();
      } else {
        sort = at(tape, next) == ';' ? STOP : NO_TOKEN;
        next++;
      }
    }

    private void takeWord() {
      value = 0;
      int shift = 5 * (LONGEST_WORD - 1);
      while (next < end && isLetter(at(tape, next))) {
        if (shift >= 0) {
          value |= at(tape, next) - 'a' + 1 << shift;
        }
        shift -= 5;
        next++;
      }
      sort = next - place > LONGEST_WORD ? NO_TOKEN : WORD;
    }

    private void takeNumber() {
      value = 0;
      while (next < end && isDigit(at(tape, next))) {
        value = Math.min(value * 10 + at(tape, next) - '0', BEYOND);
        next++;
      }
      sort = NUMBER;
    }

    private boolean isName() {
      if (sort != WORD) {
        return false;
      }
      switch (value) {
        case BRIDGE:
        case DEVICE:
        case ALIAS:
        case SPAN:
        case STALL:
        case ROOM:
        case SEED:
        case ROOT: return false;
        default: return true;
      }
    }

    private static boolean isLetter(int sign) {
      return sign >= 'a' && sign <= 'z';
    }

    private static boolean isDigit(int sign) {
      return sign >= '0' && sign <= '9';
    }
  }

  /** The domains and their tables. Which tables there are follows from what is mapped. */
  private static final class Tables {
    private int domains;
    private final int[] lazy = new int[MOST_DOMAINS];
    private final int[] owed = new int[MOST_DOMAINS];
    // By domain and page; NONE where nothing is mapped.
    private final int[] frameAt = new int[MOST_DOMAINS * PAGES];
    private final int[] rightsAt = new int[MOST_DOMAINS * PAGES];
    private final int[] reservedAt = new int[MOST_DOMAINS * PAGES];
    // By domain and page by four: 1 where a block is.
    private final int[] blockAt = new int[MOST_DOMAINS * BLOCKS];

    Tables() {
      for (int i = 0; i < frameAt.length; i++) {
        frameAt[i] = NONE;
      }
    }

    void clear() {
      domains = 0;
      fillRow(frameAt, NONE);
      fillRow(rightsAt, 0);
      fillRow(reservedAt, 0);
      fillRow(blockAt, 0);
    }

    void copyFrom(Tables other) {
      domains = other.domains;
      copyRow(other.lazy, lazy);
      copyRow(other.owed, owed);
      copyRow(other.frameAt, frameAt);
      copyRow(other.rightsAt, rightsAt);
      copyRow(other.reservedAt, reservedAt);
      copyRow(other.blockAt, blockAt);
    }

    int addDomain(boolean isLazy) {
      if (domains >= MOST_DOMAINS) {
        return NONE;
      }
      put(lazy, domains, isLazy ? 1 : 0);
      put(owed, domains, 0);
      domains++;
      return domains - 1;
    }

    private static int slot(int domain, int page) {
      return domain * PAGES + page;
    }

    private static int blockSlot(int domain, int page) {
      return domain * BLOCKS + page / BLOCK_PAGES;
    }

    int frameOf(int domain, int page) {
      return at(frameAt, slot(domain, page));
    }

    /** The rights at a page; 0 where nothing is mapped. */
    int rightsOf(int domain, int page) {
      return at(rightsAt, slot(domain, page));
    }

    boolean isMapped(int domain, int page) {
      return frameOf(domain, page) != NONE;
    }

    boolean isReserved(int domain, int page) {
      return at(reservedAt, slot(domain, page)) == 1;
    }

    private boolean inBlock(int domain, int page) {
      return at(blockAt, blockSlot(domain, page)) == 1;
    }

    void enter(int domain, int page, int frame, int rights) {
      put(frameAt, slot(domain, page), frame);
      put(rightsAt, slot(domain, page), rights);
    }

    void reserve(int domain, int page) {
      put(reservedAt, slot(domain, page), 1);
    }

    void makeBlock(int domain, int page) {
      put(blockAt, blockSlot(domain, page), 1);
    }

    /** Unmaps a page; a block there is broken. */
    void leave(int domain, int page) {
      put(blockAt, blockSlot(domain, page), 0);
      put(frameAt, slot(domain, page), NONE);
      put(rightsAt, slot(domain, page), 0);
      put(reservedAt, slot(domain, page), 0);
    }

    private int mappedFrom(int domain, int first, int many) {
      int mapped = 0;
      for (int k = 0; k < many; k++) {
        if (frameOf(domain, first + k) != NONE) {
          mapped++;
        }
      }
      return mapped;
    }

    /** Whether there is a table of level 3 for a page. */
    private boolean hasLowTable(int domain, int page) {
      int first = page - page % BLOCK_PAGES;
      return !inBlock(domain, page) && mappedFrom(domain, first, BLOCK_PAGES) > 0;
    }

    /** The level of the last table of a walk to a page. */
    int levelOf(int domain, int page) {
      if (hasLowTable(domain, page)) {
        return 3;
      }
      return mappedFrom(domain, page - page % 16, 16) > 0 ? 2 : 1;
    }

    int tablesOf(int domain) {
      int tables = 1;
      for (int page = 0; page < PAGES; page += 16) {
        if (mappedFrom(domain, page, 16) > 0) {
          tables++;
        }
      }
      for (int page = 0; page < PAGES; page += BLOCK_PAGES) {
        if (hasLowTable(domain, page)) {
          tables++;
        }
      }
      return tables;
    }

    int tablesOfAll() {
      int tables = 0;
      for (int d = 0; d < domains; d++) {
        tables += tablesOf(d);
      }
      return tables;
    }

    int mappedOf(int domain) {
      return mappedFrom(domain, 0, PAGES);
    }

    int blocksOf(int domain) {
      int blocks = 0;
      for (int page = 0; page < PAGES; page += BLOCK_PAGES) {
        if (inBlock(domain, page)) {
          blocks++;
        }
      }
      return blocks;
    }

    int reservedOf(int domain) {
      int reserved = 0;
      for (int page = 0; page < PAGES; page++) {
        if (isReserved(domain, page)) {
          reserved++;
        }
      }
      return reserved;
    }

    int tellPage(int domain, int page, int what) {
      if (what == 4) {
        return levelOf(domain, page);
      }
      if (!isMapped(domain, page)) {
        return REFUSED;
      }
      switch (what) {
        case 0: return frameOf(domain, page);
        case 1: return rightsOf(domain, page);
        case 2: return isReserved(domain, page) ? 1 : 0;
        default: return inBlock(domain, page) ? 1 : 0;
      }
    }

    /** Frames (bits) mapped with some one of these rights. */
    long framesOf(int domain, int rights) {
      long bits = 0L;
      for (int page = 0; page < PAGES; page++) {
        if ((rightsOf(domain, page) & rights) != 0) {
          bits |= 1L << frameOf(domain, page);
        }
      }
      return bits;
    }

    int firstGap(int domain, int n) {
      int inRow = 0;
      for (int page = 0; page < PAGES; page++) {
        inRow = isMapped(domain, page) ? 0 : inRow + 1;
        if (inRow == n) {
          return page - n + 1;
        }
      }
      return REFUSED;
    }

    int tidyDomain(int domain) {
      int made = 0;
      for (int page = 0; page < PAGES; page += BLOCK_PAGES) {
        if (!inBlock(domain, page) && couldBeBlock(domain, page)) {
          makeBlock(domain, page);
          made++;
        }
      }
      return made;
    }

    private boolean couldBeBlock(int domain, int first) {
      int frame = frameOf(domain, first);
      if (frame == NONE || frame % BLOCK_PAGES != 0) {
        return false;
      }
      for (int k = 0; k < BLOCK_PAGES; k++) {
        if (frameOf(domain, first + k) != frame + k || isReserved(domain, first + k)
            || rightsOf(domain, first + k) != rightsOf(domain, first)) {
          return false;
        }
      }
      return true;
    }
  }

  /** How often frames are mapped, and what each unmapped one waits for till it is free. */
  private static final class Frames {
    private final int[] uses = new int[FRAMES];
    // 1: was unmapped, and no fence has freed it since.
    private final int[] left = new int[FRAMES];
    // By frame and domain, bits: pages unmapped for which no invalidation has come yet.
    private final long[] uncovered = new long[FRAMES * MOST_DOMAINS];
    // The arrival of the last invalidation that a fence must be behind.
    private final int[] coveredAt = new int[FRAMES];

    void clear() {
      fillRow(uses, 0);
      fillRow(left, 0);
      fillRow(coveredAt, 0);
      for (int i = 0; i < uncovered.length; i++) {
        uncovered[i] = 0L;
      }
    }

    void copyFrom(Frames other) {
      copyRow(other.uses, uses);
      copyRow(other.left, left);
      copyRow(other.coveredAt, coveredAt);
      for (int i = 0; i < uncovered.length && i < other.uncovered.length; i++) {
        uncovered[i] = other.uncovered[i];
      }
    }

    int stateOf(int frame) {
      if (at(uses, frame) > 0) {
        return USED;
      }
      return at(left, frame) == 1 ? HELD : FREE;
    }

    int howMany(int state) {
      int many = 0;
      for (int f = 0; f < FRAMES; f++) {
        if (stateOf(f) == state) {
          many++;
        }
      }
      return many;
    }

    void enter(int frame) {
      put(uses, frame, at(uses, frame) + 1);
    }

    void leave(int frame, int domain, int page) {
      put(uses, frame, at(uses, frame) - 1);
      put(left, frame, 1);
      int i = frame * MOST_DOMAINS + domain;
      if (i >= 0 && i < uncovered.length) {
        uncovered[i] |= 1L << page;
      }
    }

    /** An invalidation of these pages (bits) has come to the queue. */
    void cover(int domain, long pages, int arrival) {
      for (int f = 0; f < FRAMES; f++) {
        int i = f * MOST_DOMAINS + domain;
        if (i >= 0 && i < uncovered.length && (uncovered[i] & pages) != 0L) {
          uncovered[i] &= ~pages;
          put(coveredAt, f, arrival);
        }
      }
    }

    /** Whether a fence that arrived then frees a frame when it passes. */
    boolean freedBy(int frame, int arrival) {
      return stateOf(frame) == HELD && allCovered(frame) && at(coveredAt, frame) < arrival;
    }

    private boolean allCovered(int frame) {
      long open = 0L;
      for (int d = 0; d < MOST_DOMAINS; d++) {
        int i = frame * MOST_DOMAINS + d;
        if (i >= 0 && i < uncovered.length) {
          open |= uncovered[i];
        }
      }
      return open == 0L;
    }

    void pass(int arrival) {
      for (int f = 0; f < FRAMES; f++) {
        if (freedBy(f, arrival)) {
          put(left, f, 0);
        }
      }
    }
  }

  /** Invalidations and fences, the first to be worked first. */
  private static final class Queue {
    // A trial flushes each domain, be there room or not.
    private static final int MOST = MOST_QUEUED + 2 * MOST_DOMAINS;

    private int length;
    private final int[] sort = new int[MOST];
    private final int[] domain = new int[MOST];
    private final int[] number = new int[MOST];
    private final int[] arrival = new int[MOST];
    private int arrivals;
    private int fencesCame;
    private int fencesPassed;

    void clear() {
      length = 0;
      arrivals = 0;
      fencesCame = 0;
      fencesPassed = 0;
    }

    void copyFrom(Queue other) {
      length = other.length;
      copyRow(other.sort, sort);
      copyRow(other.domain, domain);
      copyRow(other.number, number);
      copyRow(other.arrival, arrival);
      arrivals = other.arrivals;
      fencesCame = other.fencesCame;
      fencesPassed = other.fencesPassed;
    }

    /** Room for a flush: two more. */
    boolean takesTwo() {
      return length <= MOST_QUEUED - 2;
    }

    private void add(int newSort, int newDomain, int newNumber) {
      if (length >= MOST) {
        return;
      }
      arrivals++;
      put(sort, length, newSort);
      put(domain, length, newDomain);
      put(number, length, newNumber);
      put(arrival, length, arrivals);
      length++;
    }

    /** The arrival of the invalidation. */
    int addPage(int ofDomain, int page) {
      add(ONE_PAGE, ofDomain, page);
      return arrivals;
    }

    int addAll(int ofDomain) {
      add(ALL_PAGES, ofDomain, REFUSED);
      return arrivals;
    }

    /** The number of the fence. */
    int addFence() {
      fencesCame++;
      add(FENCE, REFUSED, fencesCame);
      return fencesCame;
    }

    void takeFirst() {
      takeOut(sort, 0, length);
      takeOut(domain, 0, length);
      takeOut(number, 0, length);
      takeOut(arrival, 0, length);
      length--;
    }

    int tell(int k, int what) {
      if (k < 0 || k >= length) {
        return NONE;
      }
      switch (what) {
        case 0: return at(sort, k);
        case 1: return at(domain, k);
        case 2: return at(number, k);
        default: return NONE;
      }
    }
  }

  /** Entries of pages looked at, the least lately used first. */
  private static final class Cache {
    private int length;
    private final int[] domain = new int[MOST_ROOM];
    private final int[] page = new int[MOST_ROOM];
    private final int[] frame = new int[MOST_ROOM];
    private final int[] rights = new int[MOST_ROOM];

    void clear() {
      length = 0;
    }

    void copyFrom(Cache other) {
      length = other.length;
      copyRow(other.domain, domain);
      copyRow(other.page, page);
      copyRow(other.frame, frame);
      copyRow(other.rights, rights);
    }

    /** The entry of a page, or NONE. */
    private int entryOf(int ofDomain, int ofPage) {
      for (int k = 0; k < length; k++) {
        if (at(domain, k) == ofDomain && at(page, k) == ofPage) {
          return k;
        }
      }
      return NONE;
    }

    /** The entry of a page that has the right, or NONE. */
    int entryFor(int ofDomain, int ofPage, int right) {
      int k = entryOf(ofDomain, ofPage);
      return k != NONE && (at(rights, k) & right) != 0 ? k : NONE;
    }

    void makeLatest(int k) {
      int ofDomain = at(domain, k);
      int ofPage = at(page, k);
      int ofFrame = at(frame, k);
      int ofRights = at(rights, k);
      remove(k);
      add(ofDomain, ofPage, ofFrame, ofRights);
    }

    void enter(int ofDomain, int ofPage, int ofFrame, int ofRights, int room) {
      int old = entryOf(ofDomain, ofPage);
      if (old != NONE) {
        remove(old);
      } else if (length >= room) {
        remove(0);
      }
      add(ofDomain, ofPage, ofFrame, ofRights);
    }

    private void add(int ofDomain, int ofPage, int ofFrame, int ofRights) {
      if (length >= MOST_ROOM) {
        return;
      }
      put(domain, length, ofDomain);
      put(page, length, ofPage);
      put(frame, length, ofFrame);
      put(rights, length, ofRights);
      length++;
    }

    private void remove(int k) {
      if (k < 0 || k >= length) {
        return;
      }
      takeOut(domain, k, length);
      takeOut(page, k, length);
      takeOut(frame, k, length);
      takeOut(rights, k, length);
      length--;
    }

    void dropPage(int ofDomain, int ofPage) {
      remove(entryOf(ofDomain, ofPage));
    }

    void dropAll(int ofDomain) {
      for (int k = length - 1; k >= 0; k--) {
        if (at(domain, k) == ofDomain) {
          remove(k);
        }
      }
    }

    int entriesOf(int ofFrame) {
      int many = 0;
      for (int k = 0; k < length; k++) {
        if (at(frame, k) == ofFrame) {
          many++;
        }
      }
      return many;
    }

    int tell(int k, int what) {
      if (k < 0 || k >= length) {
        return NONE;
      }
      switch (what) {
        case 0: return at(domain, k);
        case 1: return at(page, k);
        case 2: return at(frame, k);
        case 3: return at(rights, k);
        default: return NONE;
      }
    }
  }

  /** Requests that wait, as they came, each in an open batch or in one of the line. */
  private static final class Requests {
    private static final int OPEN = 0;

    private int length;
    private final int[] device = new int[MOST_WAITING];
    private final int[] page = new int[MOST_WAITING];
    private final int[] right = new int[MOST_WAITING];
    // OPEN, or the number of the batch: the least one is the first in the line.
    private final int[] batch = new int[MOST_WAITING];
    private int closed;
    private int came;
    private int taken;
    private int failed;

    void clear() {
      length = 0;
      closed = 0;
      came = 0;
      taken = 0;
      failed = 0;
    }

    void copyFrom(Requests other) {
      length = other.length;
      copyRow(other.device, device);
      copyRow(other.page, page);
      copyRow(other.right, right);
      copyRow(other.batch, batch);
      closed = other.closed;
      came = other.came;
      taken = other.taken;
      failed = other.failed;
    }

    void add(int ofDevice, int ofPage, int ofRight) {
      put(device, length, ofDevice);
      put(page, length, ofPage);
      put(right, length, ofRight);
      put(batch, length, OPEN);
      length++;
      came++;
    }

    private void remove(int k) {
      takeOut(device, k, length);
      takeOut(page, k, length);
      takeOut(right, k, length);
      takeOut(batch, k, length);
      length--;
    }

    int openOf(int ofDevice) {
      int many = 0;
      for (int k = 0; k < length; k++) {
        if (at(device, k) == ofDevice && at(batch, k) == OPEN) {
          many++;
        }
      }
      return many;
    }

    void failOpen(int ofDevice) {
      for (int k = length - 1; k >= 0; k--) {
        if (at(device, k) == ofDevice && at(batch, k) == OPEN) {
          remove(k);
          failed++;
        }
      }
    }

    void failAll(int ofDevice) {
      for (int k = length - 1; k >= 0; k--) {
        if (at(device, k) == ofDevice) {
          remove(k);
          failed++;
        }
      }
    }

    int closeBatch(int ofDevice) {
      int many = openOf(ofDevice);
      if (many == 0) {
        return REFUSED;
      }
      closed++;
      for (int k = 0; k < length; k++) {
        if (at(device, k) == ofDevice && at(batch, k) == OPEN) {
          put(batch, k, closed);
        }
      }
      return many;
    }

    /** The number of the first batch in the line; OPEN: there is none. */
    int firstBatch() {
      int first = OPEN;
      for (int k = 0; k < length; k++) {
        int number = at(batch, k);
        if (number != OPEN && (first == OPEN || number < first)) {
          first = number;
        }
      }
      return first;
    }

    void removeBatch(int number) {
      for (int k = length - 1; k >= 0; k--) {
        if (at(batch, k) == number) {
          remove(k);
        }
      }
    }

    int batches() {
      int many = 0;
      for (int d = 0; d < MOST_DEVICES; d++) {
        many += batchesOf(d);
      }
      return many;
    }

    int batchesOf(int ofDevice) {
      int many = 0;
      for (int k = 0; k < length; k++) {
        if (at(device, k) == ofDevice && at(batch, k) != OPEN && isFirstOfBatch(k)) {
          many++;
        }
      }
      return many;
    }

    private boolean isFirstOfBatch(int k) {
      for (int i = 0; i < k; i++) {
        if (at(batch, i) == at(batch, k)) {
          return false;
        }
      }
      return true;
    }
  }

  /** Causes of the latest refusal, records of faults, and what looks came to. */
  private static final class Log {
    private int causes;
    private final int[] cause = new int[MOST_CAUSES];
    private final int[] about = new int[MOST_CAUSES];
    private int records;
    // The latest first.
    private final int[] sign = new int[MOST_RECORDS];
    private final int[] page = new int[MOST_RECORDS];
    private final int[] right = new int[MOST_RECORDS];
    private final int[] innermost = new int[MOST_RECORDS];
    private int hits;
    private int walks;
    private int staleHits;

    void clear() {
      causes = 0;
      records = 0;
      hits = 0;
      walks = 0;
      staleHits = 0;
    }

    void copyFrom(Log other) {
      causes = other.causes;
      copyRow(other.cause, cause);
      copyRow(other.about, about);
      records = other.records;
      copyRow(other.sign, sign);
      copyRow(other.page, page);
      copyRow(other.right, right);
      copyRow(other.innermost, innermost);
      hits = other.hits;
      walks = other.walks;
      staleHits = other.staleHits;
    }

    /** The outermost cause of a new row. */
    int refuse(int number, int brackets) {
      causes = 0;
      return because(number, brackets);
    }

    /** The next one behind it. */
    int because(int number, int brackets) {
      if (causes < MOST_CAUSES) {
        put(cause, causes, number);
        put(about, causes, brackets);
        causes++;
      }
      return REFUSED;
    }

    int causeAt(int k) {
      return k < 0 || k >= causes ? REFUSED : at(cause, k);
    }

    int aboutAt(int k) {
      return k < 0 || k >= causes ? REFUSED : at(about, k);
    }

    void addRecord(int ofSign, int ofPage, int ofRight, int ofCause) {
      putFirst(sign, ofSign);
      putFirst(page, ofPage);
      putFirst(right, ofRight);
      putFirst(innermost, ofCause);
      records = Math.min(records + 1, MOST_RECORDS);
    }

    private static void putFirst(int[] row, int value) {
      for (int k = row.length - 1; k > 0; k--) {
        row[k] = row[k - 1];
      }
      put(row, 0, value);
    }

    int tellRecord(int k, int what) {
      if (k < 0 || k >= records) {
        return NONE;
      }
      switch (what) {
        case 0: return at(sign, k);
        case 1: return at(page, k);
        case 2: return at(right, k);
        case 3: return at(innermost, k);
        default: return NONE;
      }
    }
  }

  /** All that calls change, and that an image keeps. */
  private static final class State {
    private final Tree tree = new Tree();
    private final Tables tables = new Tables();
    private final Frames frames = new Frames();
    private final Queue queue = new Queue();
    private final Cache cache = new Cache();
    private final Requests requests = new Requests();
    private final Log log = new Log();
    // By device, alike for all of a group; NONE: none.
    private final int[] domainBy = new int[MOST_DEVICES];

    State() {
      for (int d = 0; d < domainBy.length; d++) {
        domainBy[d] = NONE;
      }
    }

    /** All as new beneath another tree. */
    void startWith(Tree other) {
      tree.copyFrom(other);
      tree.join(0, tree.lowest);
      tables.clear();
      frames.clear();
      queue.clear();
      cache.clear();
      requests.clear();
      log.clear();
      fillRow(domainBy, NONE);
    }

    void copyFrom(State other) {
      tree.copyFrom(other.tree);
      tables.copyFrom(other.tables);
      frames.copyFrom(other.frames);
      queue.copyFrom(other.queue);
      cache.copyFrom(other.cache);
      requests.copyFrom(other.requests);
      log.copyFrom(other.log);
      copyRow(other.domainBy, domainBy);
    }

    int domainOr(int device, int none) {
      int domain = at(domainBy, device);
      return domain == NONE ? none : domain;
    }

    int groupsOf(int domain) {
      int many = 0;
      for (int d = 0; d < tree.devices; d++) {
        if (at(domainBy, d) == domain && at(tree.lowest, d) == d) {
          many++;
        }
      }
      return many;
    }

    private void giveGroup(int device, int domain) {
      for (int d = 0; d < tree.devices; d++) {
        if (tree.areOne(device, d)) {
          put(domainBy, d, domain);
        }
      }
    }

    // ---- mapping

    private void enter(int domain, int page, int frame, int rights) {
      tables.enter(domain, page, frame, rights);
      frames.enter(frame);
    }

    private void leave(int domain, int page) {
      frames.leave(tables.frameOf(domain, page), domain, page);
      tables.leave(domain, page);
    }

    int mapPages(int domain, int page, int frame, int rights, boolean block) {
      int many = block ? BLOCK_PAGES : 1;
      for (int k = 0; k < many; k++) {
        if (tables.isMapped(domain, page + k)) {
          return log.refuse(PAGE_MAPPED, page + k);
        }
      }
      for (int k = 0; k < many; k++) {
        if (frames.stateOf(frame + k) == HELD) {
          return log.refuse(FRAME_HELD, frame + k);
        }
      }
      for (int k = 0; k < many; k++) {
        enter(domain, page + k, frame + k, rights);
      }
      if (block) {
        tables.makeBlock(domain, page);
      }
      return tables.tablesOf(domain);
    }

    int unmapPage(int domain, int page) {
      if (!tables.isMapped(domain, page)) {
        return log.refuse(NOTHING_MAPPED, tables.levelOf(domain, page));
      }
      if (tables.isReserved(domain, page)) {
        return log.refuse(PAGE_RESERVED, page);
      }
      if (!queue.takesTwo()) {
        return log.refuse(QUEUE_FULL, queue.length);
      }
      leave(domain, page);
      if (at(tables.lazy, domain) == 1) {
        oweOne(domain);
      } else {
        frames.cover(domain, 1L << page, queue.addPage(domain, page));
      }
      return tables.tablesOf(domain);
    }

    private void oweOne(int domain) {
      int owed = at(tables.owed, domain) + 1;
      put(tables.owed, domain, owed);
      if (owed >= OWED_TILL_FLUSH) {
        flushOf(domain);
      }
    }

    /** A flush: the number of its fence. */
    private int flushOf(int domain) {
      frames.cover(domain, -1L, queue.addAll(domain));
      put(tables.owed, domain, 0);
      return queue.addFence();
    }

    int flushByCall(int domain) {
      return queue.takesTwo() ? flushOf(domain) : log.refuse(QUEUE_FULL, queue.length);
    }

    // ---- groups and domains

    int attachGroup(int device, int domain) {
      if (at(domainBy, device) != NONE) {
        return log.refuse(DOMAIN_WRONG, at(tree.lowest, device));
      }
      for (int d = 0; d < tree.devices; d++) {
        if (tree.areOne(device, d) && !spansCanBe(device, d, domain)) {
          return REFUSED;
        }
      }
      int reserved = 0;
      for (int page = 0; page < PAGES; page++) {
        if (tree.spansPage(device, page) && !tables.isMapped(domain, page)) {
          enter(domain, page, page, 3);
          tables.reserve(domain, page);
          reserved++;
        }
      }
      giveGroup(device, domain);
      return reserved;
    }

    /** Whether the spans of one device can be; if not, the causes are told. */
    private boolean spansCanBe(int called, int device, int domain) {
      for (int k = 0; k < tree.spans; k++) {
        if (at(tree.spanDevice, k) != device) {
          continue;
        }
        for (int page = 0; page < PAGES; page++) {
          int cause = tree.inSpan(k, page) ? whyNotReserved(domain, page) : 0;
          if (cause != 0) {
            log.refuse(GROUP_CANNOT, called);
            log.because(SPAN_CANNOT, device);
            log.because(cause, page);
            return false;
          }
        }
      }
      return true;
    }

    /** 0, or the cause why a page can't be reserved to the frame of its own number. */
    private int whyNotReserved(int domain, int page) {
      if (tables.isMapped(domain, page)) {
        boolean soAlready = tables.isReserved(domain, page) && tables.frameOf(domain, page) == page
            && tables.rightsOf(domain, page) == 3;
        return soAlready ? 0 : PAGE_MAPPED;
      }
      return frames.stateOf(page) == HELD ? FRAME_HELD : 0;
    }

    int detachGroup(int device) {
      int domain = at(domainBy, device);
      if (domain == NONE) {
        return log.refuse(DOMAIN_WRONG, at(tree.lowest, device));
      }
      if (!queue.takesTwo()) {
        return log.refuse(QUEUE_FULL, queue.length);
      }
      for (int d = 0; d < tree.devices; d++) {
        if (tree.areOne(device, d)) {
          requests.failAll(d);
        }
      }
      giveGroup(device, NONE);
      for (int page = 0; page < PAGES; page++) {
        if (tree.spansPage(device, page) && tables.isMapped(domain, page) && !isSpannedIn(domain, page)) {
          leave(domain, page);
        }
      }
      return flushOf(domain);
    }

    /** Whether a group that has the domain has a span with this page. */
    private boolean isSpannedIn(int domain, int page) {
      for (int d = 0; d < tree.devices; d++) {
        if (at(domainBy, d) == domain && tree.spansPage(d, page)) {
          return true;
        }
      }
      return false;
    }

    // ---- the queue

    int workSteps(int n) {
      int steps = Math.min(n, queue.length);
      for (int k = 0; k < steps; k++) {
        workOne();
      }
      return steps;
    }

    private void workOne() {
      int sort = at(queue.sort, 0);
      if (sort == ONE_PAGE) {
        cache.dropPage(at(queue.domain, 0), at(queue.number, 0));
      } else if (sort == ALL_PAGES) {
        cache.dropAll(at(queue.domain, 0));
      } else {
        frames.pass(at(queue.arrival, 0));
        queue.fencesPassed++;
      }
      queue.takeFirst();
    }

    int stepsTillFree(int frame) {
      if (frames.stateOf(frame) == FREE) {
        return 0;
      }
      for (int k = 0; k < queue.length; k++) {
        if (at(queue.sort, k) == FENCE && frames.freedBy(frame, at(queue.arrival, k))) {
          return k + 1;
        }
      }
      return REFUSED;
    }

    // ---- looks

    /** A look by a domain's tables: the frame; NONE: it faults, or there is no domain. */
    private int look(int domain, int page, int right) {
      if (domain == NONE) {
        return NONE;
      }
      int k = cache.entryFor(domain, page, right);
      if (k != NONE) {
        return hit(k, right);
      }
      log.walks++;
      if ((tables.rightsOf(domain, page) & right) == 0) {
        return NONE;
      }
      int frame = tables.frameOf(domain, page);
      cache.enter(domain, page, frame, tables.rightsOf(domain, page), tree.room);
      return frame;
    }

    private int hit(int k, int right) {
      log.hits++;
      if (staleFor(k, right)) {
        log.staleHits++;
      }
      int frame = at(cache.frame, k);
      cache.makeLatest(k);
      return frame;
    }

    /** Whether the tables have no longer the entry's frame with all of these rights. */
    private boolean staleFor(int k, int rights) {
      int domain = at(cache.domain, k);
      int page = at(cache.page, k);
      return tables.frameOf(domain, page) != at(cache.frame, k)
          || (tables.rightsOf(domain, page) & rights) != rights;
    }

    private boolean isStale(int k) {
      return staleFor(k, at(cache.rights, k));
    }

    int entryStale(int k) {
      if (k < 0 || k >= cache.length) {
        return NONE;
      }
      return isStale(k) ? 1 : 0;
    }

    int staleEntriesOf(int frame) {
      int many = 0;
      for (int k = 0; k < cache.length; k++) {
        if (at(cache.frame, k) == frame && isStale(k)) {
          many++;
        }
      }
      return many;
    }

    /** Frames (bits) of entries that give the right; of those alone whose hit is stale, if asked so. */
    long hitFrames(int domain, int right, boolean staleAlone) {
      long bits = 0L;
      for (int k = 0; k < cache.length; k++) {
        boolean gives = at(cache.domain, k) == domain && (at(cache.rights, k) & right) != 0;
        if (gives && (!staleAlone || staleFor(k, right))) {
          bits |= 1L << at(cache.frame, k);
        }
      }
      return bits;
    }

    int useBy(int device, int page, int right) {
      int domain = at(domainBy, device);
      int frame = look(domain, page, right);
      if (frame != NONE) {
        return frame;
      }
      int cause = NO_RIGHT;
      int about = page;
      if (domain == NONE) {
        cause = DOMAIN_WRONG;
        about = at(tree.lowest, device);
      } else if (!tables.isMapped(domain, page)) {
        cause = NOTHING_MAPPED;
        about = tables.levelOf(domain, page);
      }
      log.addRecord(tree.signOf(device), page, right, cause);
      int answer = domain == NONE ? REFUSED : stallOrRefuse(device, page, right);
      if (answer == TOO_MANY) {
        log.refuse(TOO_MANY_WAIT, device);
        log.because(FAULTED, device);
      } else {
        log.refuse(FAULTED, device);
      }
      log.because(cause, about);
      return answer;
    }

    private int stallOrRefuse(int device, int page, int right) {
      if (at(tree.stalls, device) != 1) {
        return REFUSED;
      }
      if (requests.length >= MOST_WAITING) {
        requests.failOpen(device);
        return TOO_MANY;
      }
      requests.add(device, page, right);
      return WAITS;
    }

    int serveFirst(boolean well) {
      int first = requests.firstBatch();
      if (first == Requests.OPEN) {
        return REFUSED;
      }
      int taken = 0;
      int failed = 0;
      for (int k = 0; k < requests.length; k++) {
        if (at(requests.batch, k) != first) {
          continue;
        }
        int domain = at(domainBy, at(requests.device, k));
        if (well && look(domain, at(requests.page, k), at(requests.right, k)) != NONE) {
          taken++;
        } else {
          failed++;
        }
      }
      requests.removeBatch(first);
      requests.taken += taken;
      requests.failed += failed;
      return taken;
    }

    // ---- what would be; these change the state, so they are for a trial's alone

    int freeIfFlushed() {
      for (int d = 0; d < tables.domains; d++) {
        if (at(tables.owed, d) > 0) {
          flushOf(d);
        }
      }
      workSteps(queue.length);
      return frames.howMany(FREE);
    }

    int entriesIfWorked() {
      workSteps(queue.length);
      return cache.length;
    }

    int takenIfServed() {
      int taken = 0;
      int batches = requests.batches();
      for (int k = 0; k < batches; k++) {
        taken += Math.max(serveFirst(true), 0);
      }
      return taken;
    }

    int tablesIfTidied() {
      for (int d = 0; d < tables.domains; d++) {
        tables.tidyDomain(d);
      }
      return tables.tablesOfAll();
    }

    int hitsIfChurned(int seed, int n) {
      int hitsAhead = log.hits;
      int drawn = seed;
      for (int k = 0; k < n; k++) {
        drawn = draw(drawn);
        int device = (drawn >> 16) % Math.max(tree.devices, 1);
        drawn = draw(drawn);
        int page = (drawn >> 16) % PAGES;
        drawn = draw(drawn);
        int right = 1 + (drawn >> 16) % 2;
        look(at(domainBy, device), page, right);
      }
      return log.hits - hitsAhead;
    }

    private static int draw(int last) {
      return last * 1103515245 + 12345 & 0x7fffffff;
    }
  }
}
