/** Nodes on one wire, bit time by bit time. What each call does stands in the document, promise by promise. */
public final class StrongBus {
  private static final int STRONG = 0;
  private static final int WEAK = 1;

  private static final int IDLE = 0;
  private static final int SENDING = 1;
  private static final int HEARING = 2;
  private static final int FLAG = 3;
  private static final int AFTER = 4;
  private static final int PAUSE = 5;
  private static final int SUSPENDED = 6;
  private static final int OFF = 7;

  // What can come of one bit time at one node, numbered as total() asks for it.
  private static final int NOTHING = 0;
  private static final int BIT_TIMES = 0;
  private static final int SENT = 1;
  private static final int BIT_ERROR = 2;
  private static final int PAD_ERROR = 3;
  private static final int SHAPE_ERROR = 4;
  private static final int CHECK_ERROR = 5;
  private static final int ANSWER_ERROR = 6;
  private static final int OVERLOAD = 7;
  private static final int TOTALS = 8;

  private static final int FEWEST_NODES = 2;
  private static final int MOST_NODES = 4;
  private static final int HIGHEST_ID = 2047;
  private static final int MOST_BYTES = 2;
  private static final int MOST_FRAMES = 4;
  private static final int FARTHEST = 200;
  private static final int KEPT_LEVELS = 64;

  private final Node[] nodes;
  private final int[] levels = new int[KEPT_LEVELS];
  private final int[] totals = new int[TOTALS];

  public StrongBus(int nodes) {
    // The document names no exception here, so its bounds are kept by taking the nearest number.
    this.nodes = new Node[Math.max(FEWEST_NODES, Math.min(MOST_NODES, nodes))];
    for (int i = 0; i < this.nodes.length; i++) {
      this.nodes[i] = new Node();
    }
  }

  public int request(int node, int id, int bytes, int data) throws IllegalArgumentException, IllegalStateException {
    Node asked = nodeOf(node);
    if (!isEleven(id) || bytes < 0 || bytes > MOST_BYTES || data < 0 || data >= 1 << 8 * bytes) {
      throw new IllegalArgumentException("no such frame");
    }
    if (asked.state == OFF || asked.waiting.isFull()) {
      throw new IllegalStateException("the node is off, or 4 frames wait");
    }
    asked.waiting.add(Frames.packed(id, bytes, data));
    return asked.waiting.size;
  }

  public void filter(int node, int mask, int value) throws IllegalArgumentException {
    Node asked = nodeOf(node);
    if (!isEleven(mask) || !isEleven(value)) {
      throw new IllegalArgumentException("mask or value is not 0 .. 2047");
    }
    asked.mask = mask;
    asked.value = value;
  }

  public void disturb(int node, int n) throws IllegalArgumentException {
    Node asked = nodeOf(node);
    checkBitTimes(n);
    asked.disturbances.mark(n);
  }

  public int pass(int n) throws IllegalArgumentException {
    checkBitTimes(n);
    int before = totals[SENT];
    for (int i = 0; i < n; i++) {
      passOne();
    }
    return totals[SENT] - before;
  }

  public int level(int i) {
    if (i < 0 || i >= KEPT_LEVELS || i >= totals[BIT_TIMES]) {
      return -1;
    }
    return levels[(totals[BIT_TIMES] - 1 - i) % KEPT_LEVELS];
  }

  public int state(int node) throws IllegalArgumentException {
    return nodeOf(node).state;
  }

  public int count(int node, int which) throws IllegalArgumentException {
    Node asked = nodeOf(node);
    switch (which) {
      case 0:
        return asked.sendErrors;
      case 1:
        return asked.hearErrors;
      case 2:
        return asked.waiting.size;
      case 3:
        return asked.inbox.size;
      case 4:
        return asked.lost;
      default:
        throw new IllegalArgumentException("no such number of a node");
    }
  }

  public int take(int node) throws IllegalArgumentException, IllegalStateException {
    Node asked = nodeOf(node);
    if (asked.inbox.size == 0) {
      throw new IllegalStateException("the inbox is empty");
    }
    return asked.inbox.remove(0);
  }

  public int total(int which) throws IllegalArgumentException {
    if (which < 0 || which >= TOTALS) {
      throw new IllegalArgumentException("no such total");
    }
    return totals[which];
  }

  private Node nodeOf(int node) {
    if (node < 0 || node >= nodes.length) {
      throw new IllegalArgumentException("no such node");
    }
    return nodes[node];
  }

  private static boolean isEleven(int bits) {
    return bits >= 0 && bits <= HIGHEST_ID;
  }

  private static void checkBitTimes(int n) {
    if (n < 1 || n > FARTHEST) {
      throw new IllegalArgumentException("not 1 .. 200 bit times");
    }
  }

  private void passOne() {
    // All drive before one sees: the wire's level hangs on every node.
    int wire = WEAK;
    for (int i = 0; i < nodes.length; i++) {
      wire &= nodes[i].drive();
    }
    for (int i = 0; i < nodes.length; i++) {
      int outcome = nodes[i].see(wire);
      if (outcome != NOTHING) {
        totals[outcome]++;
      }
    }
    levels[Math.floorMod(totals[BIT_TIMES], KEPT_LEVELS)] = wire;
    totals[BIT_TIMES]++;
  }

  /** At most 4 frames in the order in which they came, each packed as take() answers it. */
  private static final class Frames {
    final int[] row = new int[MOST_FRAMES];
    int size = 0;

    static int packed(int id, int bytes, int data) {
      return id + 2048 * bytes + 8192 * data;
    }

    static int idOf(int frame) {
      return frame & HIGHEST_ID;
    }

    static int bytesOf(int frame) {
      return frame >> 11 & 3;
    }

    static int dataOf(int frame) {
      return frame >> 13;
    }

    boolean isFull() {
      return size >= MOST_FRAMES;
    }

    void add(int frame) {
      if (!isFull()) {
        row[size] = frame;
        size++;
      }
    }

    int at(int place) {
      return place >= 0 && place < size ? row[place] : 0;
    }

    int placeOfLeastId() {
      int least = 0;
      for (int i = 1; i < size; i++) {
        if (idOf(row[i]) < idOf(row[least])) {
          least = i;
        }
      }
      return least;
    }

    int remove(int place) {
      int gone = at(place);
      if (place >= 0 && place < size) {
        size--;
        for (int i = place; i < size; i++) {
          row[i] = row[i + 1];
        }
      }
      return gone;
    }
  }

  /** In which of the coming bit times a node is disturbed: a ring, one longer than the farthest that can be asked. */
  private static final class Disturbances {
    final boolean[] ring = new boolean[FARTHEST + 1];
    int latest = 0;

    void mark(int n) {
      ring[Math.floorMod(latest + n, ring.length)] = true;
    }

    boolean next() {
      latest = (latest + 1) % ring.length;
      boolean disturbed = ring[latest];
      ring[latest] = false;
      return disturbed;
    }
  }

  /** The core's bits of the frame that a node sends, without pads. */
  private static final class Core {
    static final int HEAD = 19;
    static final int CHECK = 15;
    static final int LONGEST = HEAD + 8 * MOST_BYTES + CHECK;
    static final int DIVISOR = 17817;
    static final int REGISTER = 32767;

    final int[] bits = new int[LONGEST];
    int length = 0;
    int register = 0;

    static int lengthFor(int bytes) {
      return HEAD + 8 * bytes + CHECK;
    }

    static int registerBehind(int register, int bit) {
      int twice = register << 1 & REGISTER;
      return bit != (register >> CHECK - 1 & 1) ? twice ^ DIVISOR : twice;
    }

    void write(int frame) {
      int data = Frames.dataOf(frame);
      int bytes = Frames.bytesOf(frame);
      length = 0;
      register = 0;
      append(STRONG, 1);
      append(Frames.idOf(frame), 11);
      append(0, 3);
      append(bytes, 4);
      for (int i = 0; i < bytes && i < MOST_BYTES; i++) {
        append(data >> 8 * i, 8);
      }
      append(register, CHECK);
    }

    void append(int number, int width) {
      for (int i = width - 1; i >= 0; i--) {
        int bit = number >> i & 1;
        if (length < LONGEST) {
          bits[length] = bit;
          length++;
        }
        register = registerBehind(register, bit);
      }
    }

    int bitAt(int place) {
      return place >= 0 && place < length ? bits[place] : WEAK;
    }
  }

  /** What a sending or hearing node has read of a frame, and where in the frame the next bit stands. */
  private static final class Reader {
    static final int EQUAL_BEFORE_PAD = 5;
    static final int ID_END = 12;
    static final int ZEROS_END = 15;
    static final int ANSWER = 1;
    static final int GAP = 2;
    static final int TAIL_LAST = 9;

    // Counted over core bits alone, and on behind the core; pads have no place.
    int place = 0;
    int coreLength = Core.LONGEST;
    int latest = WEAK;
    int equal = 0;
    int register = 0;
    int id = 0;
    int bytes = 0;
    int data = 0;

    void begin() {
      place = 0;
      coreLength = Core.LONGEST;
      latest = WEAK;
      equal = 0;
      register = 0;
      id = 0;
      bytes = 0;
      data = 0;
    }

    boolean padIsDue() {
      return equal == EQUAL_BEFORE_PAD;
    }

    boolean isBehindCore() {
      return place >= coreLength && !padIsDue();
    }

    boolean isInId() {
      return place >= 1 && place < ID_END && !padIsDue();
    }

    boolean isAtAnswer() {
      return isBehindCore() && place - coreLength == ANSWER;
    }

    boolean isAtEnd() {
      return place - coreLength > TAIL_LAST;
    }

    boolean isRight() {
      return register == 0;
    }

    int frame() {
      return Frames.packed(id, bytes, data);
    }

    void read(int bit) {
      if (padIsDue()) {
        latest = bit;
        equal = 1;
      } else if (isBehindCore()) {
        place++;
      } else {
        readCore(bit);
      }
    }

    void readCore(int bit) {
      equal = bit == latest && place > 0 ? equal + 1 : 1;
      latest = bit;
      register = Core.registerBehind(register, bit);
      if (place >= 1 && place < ID_END) {
        id = id << 1 | bit;
      } else if (place >= ZEROS_END && place < Core.HEAD) {
        bytes = bytes << 1 | bit;
      } else if (place >= Core.HEAD && place < Core.HEAD + 8 * bytes) {
        readData(bit);
      }
      place++;
      if (place == Core.HEAD) {
        coreLength = Core.lengthFor(bytes);
      }
    }

    void readData(int bit) {
      int inData = place - Core.HEAD;
      int weight = 8 * (inData / 8) + 7 - inData % 8;
      data |= bit << weight;
    }

    /** The error that this bit is for a hearing node, or NOTHING. */
    int errorOf(int bit) {
      if (padIsDue()) {
        return bit == latest ? PAD_ERROR : NOTHING;
      }
      if (isBehindCore()) {
        return errorBehindCore(place - coreLength, bit);
      }
      boolean notZero = place >= ID_END && place < ZEROS_END && bit != 0;
      boolean tooLong = place == Core.HEAD - 1 && (bytes << 1 | bit) > MOST_BYTES;
      return notZero || tooLong ? SHAPE_ERROR : NOTHING;
    }

    int errorBehindCore(int step, int bit) {
      if (step == GAP && !isRight()) {
        return CHECK_ERROR;
      }
      boolean free = step == ANSWER || step >= TAIL_LAST;
      return bit == STRONG && !free ? SHAPE_ERROR : NOTHING;
    }
  }

  /** One node: what it drives, and what becomes of it by what it sees. */
  private static final class Node {
    static final int NONE = 0;
    static final int HIGHEST_ACTIVE = 127;
    static final int HIGHEST_ON = 255;
    static final int HEAVY = 8;
    static final int FLAG_LENGTH = 6;
    static final int AFTER_LENGTH = 8;
    static final int ROW_OF_ZEROS = 8;
    static final int PAUSE_LENGTH = 3;
    static final int SUSPENSION = 8;
    static final int ROW_OF_ONES = 11;
    static final int ROWS_TO_RETURN = 8;

    final Frames waiting = new Frames();
    final Frames inbox = new Frames();
    final Disturbances disturbances = new Disturbances();
    final Core core = new Core();
    final Reader reader = new Reader();
    int state = IDLE;
    // SENDING or HEARING, whichever it was last; NONE from an overload on.
    int was = NONE;
    int sendErrors = 0;
    int hearErrors = 0;
    int lost = 0;
    int mask = 0;
    int value = 0;
    int sendingPlace = 0;
    int driven = WEAK;
    boolean passiveFlag = false;
    // Bit times in a flag or a pause, and the 0 that open an after.
    int steps = 0;
    // The 1 seen in an after, a suspension, or side by side while off.
    int ones = 0;
    int rowsOfOnes = 0;

    boolean isPassive() {
      return sendErrors > HIGHEST_ACTIVE || hearErrors > HIGHEST_ACTIVE;
    }

    int drive() {
      if (state == IDLE && waiting.size > 0) {
        beginToSend();
      }
      driven = levelToDrive();
      return driven;
    }

    int levelToDrive() {
      switch (state) {
        case SENDING:
          return nextBit();
        case HEARING:
          return reader.isAtAnswer() && reader.isRight() ? STRONG : WEAK;
        case FLAG:
          return passiveFlag ? WEAK : STRONG;
        default:
          return WEAK;
      }
    }

    int nextBit() {
      return reader.padIsDue() ? 1 - reader.latest : core.bitAt(reader.place);
    }

    int see(int wire) {
      int seen = disturbances.next() ? 1 - wire : wire;
      switch (state) {
        case SENDING:
          return seeSending(seen);
        case HEARING:
          return seeHearing(seen);
        case FLAG:
          return seeInFlag(seen);
        case AFTER:
          return seeAfter(seen);
        case PAUSE:
          return seeInPause(seen);
        case SUSPENDED:
          return seeSuspended(seen);
        case OFF:
          return seeOff(seen);
        default:
          return seen == STRONG ? beginToHear() : NOTHING;
      }
    }

    void beginToSend() {
      // Only sending or going off takes a frame out of the row, so this place stays that frame's.
      sendingPlace = waiting.placeOfLeastId();
      core.write(waiting.at(sendingPlace));
      reader.begin();
      state = SENDING;
      was = SENDING;
    }

    int beginToHear() {
      reader.begin();
      reader.read(STRONG);
      state = HEARING;
      was = HEARING;
      return NOTHING;
    }

    int seeSending(int seen) {
      if (reader.isAtAnswer()) {
        if (seen == WEAK) {
          return err(ANSWER_ERROR);
        }
      } else if (seen != driven) {
        if (driven == STRONG || !reader.isInId()) {
          return err(BIT_ERROR);
        }
        state = HEARING;
        was = HEARING;
      }
      reader.read(seen);
      return reader.isAtEnd() ? endSending() : NOTHING;
    }

    int endSending() {
      waiting.remove(sendingPlace);
      if (sendErrors > 0) {
        sendErrors--;
      }
      beginPause();
      return SENT;
    }

    int seeHearing(int seen) {
      int error = reader.errorOf(seen);
      if (error != NOTHING) {
        return err(error);
      }
      reader.read(seen);
      return reader.isAtEnd() ? endHearing(seen) : NOTHING;
    }

    int endHearing(int seen) {
      if (hearErrors > 0) {
        hearErrors = Math.min(hearErrors - 1, HIGHEST_ACTIVE);
      }
      if ((reader.id & mask) == value) {
        keep(reader.frame());
      }
      if (seen == STRONG) {
        return overload();
      }
      beginPause();
      return NOTHING;
    }

    void keep(int frame) {
      if (inbox.isFull()) {
        lost++;
      } else {
        inbox.add(frame);
      }
    }

    int err(int error) {
      boolean counted = error != ANSWER_ERROR || !isPassive();
      if (was == HEARING) {
        hearErrors++;
      } else if (counted) {
        sendErrors += HEAVY;
      }
      beginFlag(isPassive());
      goOffIfTooMany();
      return counted ? error : NOTHING;
    }

    int overload() {
      was = NONE;
      beginFlag(false);
      return OVERLOAD;
    }

    void beginFlag(boolean passive) {
      passiveFlag = passive;
      state = FLAG;
      steps = 0;
    }

    int seeInFlag(int seen) {
      steps++;
      if (steps >= FLAG_LENGTH) {
        state = AFTER;
        steps = 0;
        ones = 0;
      }
      if (driven == STRONG && seen == WEAK) {
        countHeavily();
      }
      return NOTHING;
    }

    void countHeavily() {
      if (was == SENDING) {
        sendErrors += HEAVY;
      } else if (was == HEARING) {
        hearErrors += HEAVY;
      }
      goOffIfTooMany();
    }

    int seeAfter(int seen) {
      if (seen == WEAK) {
        ones++;
        if (ones >= AFTER_LENGTH) {
          beginPause();
        }
        return NOTHING;
      }
      if (ones > 0) {
        return was == NONE ? overload() : err(SHAPE_ERROR);
      }
      steps++;
      if (steps == 1 && was == HEARING) {
        hearErrors += HEAVY;
      }
      if (steps % ROW_OF_ZEROS == 0) {
        countHeavily();
      }
      return NOTHING;
    }

    void beginPause() {
      state = PAUSE;
      steps = 0;
    }

    int seeInPause(int seen) {
      steps++;
      if (seen == STRONG) {
        return steps < PAUSE_LENGTH ? overload() : beginToHear();
      }
      if (steps >= PAUSE_LENGTH) {
        state = isPassive() && was == SENDING ? SUSPENDED : IDLE;
        ones = 0;
      }
      return NOTHING;
    }

    int seeSuspended(int seen) {
      if (seen == STRONG) {
        return beginToHear();
      }
      ones++;
      if (ones >= SUSPENSION) {
        state = IDLE;
      }
      return NOTHING;
    }

    void goOffIfTooMany() {
      if (sendErrors > HIGHEST_ON) {
        state = OFF;
        waiting.size = 0;
        ones = 0;
        rowsOfOnes = 0;
      }
    }

    int seeOff(int seen) {
      ones = seen == WEAK ? ones + 1 : 0;
      if (ones >= ROW_OF_ONES) {
        ones = 0;
        rowsOfOnes++;
      }
      if (rowsOfOnes >= ROWS_TO_RETURN) {
        sendErrors = 0;
        hearErrors = 0;
        state = IDLE;
      }
      return NOTHING;
    }
  }
}
