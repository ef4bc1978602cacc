import java.lang.reflect.InvocationTargetException;
import java.lang.reflect.Method;
import java.util.ArrayList;
import java.util.Comparator;
import java.util.List;

// One test for each sentence of the document that names a boundary: the last
// input that is allowed and the first that is not, on each side. A test bears
// the number of its promise; the ranges of "Terms" I stand with the promise by
// which they are told, the cases of "Terms" II, ROUNDS and ROUTES with the
// promise by which they are seen. No object is used for more than 512 calls.
public final class BoundaryTests {
  private static final int NONE = VeneerYard.NONE;
  private static final long NOWHERE = VeneerYard.NOWHERE;
  private static final int LOW = Integer.MIN_VALUE;
  private static final int HIGH = Integer.MAX_VALUE;
  private static final int[] STEPS = {1, 2, 4, 8};

  private static int wrong = 0;
  private static int seen = 0;
  private static String test = "";

  private static void due(String call, long got, long want) {
    seen++;
    if (got == want) return;
    wrong++;
    System.out.println(test + ": " + call + " answered " + got + ", due is " + want);
  }

  private static void due(String call, boolean got, boolean want) {
    due(call, got ? 1L : 0L, want ? 1L : 0L);
  }

  public static void main(String[] args) throws IllegalAccessException {
    List<Method> tests = new ArrayList<>();
    for (Method m : BoundaryTests.class.getDeclaredMethods()) {
      if (m.getName().matches("promise\\d\\d[A-Z]\\w*")) tests.add(m);
    }
    tests.sort(Comparator.comparing(Method::getName));
    for (Method m : tests) run(m);
    for (int promise = 1; promise <= 18; promise++) {
      String name = String.format("promise%02d", promise);
      test = name;
      due("a test", tests.stream().anyMatch(m -> m.getName().startsWith(name)), true);
    }
    System.out.println(tests.size() + " tests, " + seen + " answers, " + wrong + " not as due");
    if (wrong != 0) System.exit(1);
  }

  // A call that throws is a wrong answer like any other: the next tests still run.
  private static void run(Method m) throws IllegalAccessException {
    test = m.getName();
    try {
      m.invoke(null);
    } catch (InvocationTargetException e) {
      wrong++;
      System.out.println(test + ": threw " + e.getCause());
    }
  }

  // Yards that several tests share.

  // One section of that size, a label at its start, kind 0.
  private static VeneerYard oneSection(int size) {
    VeneerYard x = new VeneerYard();
    x.section(size, 0, false);
    x.label(0, 0);
    x.kind(0, 1, 8);
    return x;
  }

  private static VeneerYard sections(int n, int size) {
    VeneerYard x = new VeneerYard();
    for (int s = 0; s < n; s++) x.section(size, 0, false);
    return x;
  }

  // Branch 0 in section 0 (kind 0, 7 bytes ahead at most), a pool behind that
  // section, label 0 at the end of section 1, which only thunks of 1 byte reach.
  private static VeneerYard ahead(int sizeOf0, int sizeOf1, int thunkBits) {
    VeneerYard x = new VeneerYard();
    x.kind(0, 1, 4);
    x.kind(7, 1, thunkBits);
    x.thunks(1, 0, 7);
    x.section(sizeOf0, 0, true);
    x.section(sizeOf1, 0, false);
    x.label(1, sizeOf1);
    x.branch(0, 0, 0, 0);
    return x;
  }

  // Pools behind section 0 (10 bytes) and section 1, label 0 at the end of
  // section 2 (200 bytes); thunks of 4 bytes. Branch 0 reaches pool 1 alone,
  // branch 1 pool 0 alone, so that thunk 0 is in the upper pool, thunk 1 (at
  // 10) in the lower one; branch 2, in between, reaches both.
  private static VeneerYard between(int sizeOf1, int offset) {
    VeneerYard x = new VeneerYard();
    x.kind(0, 1, 4);
    x.kind(1, 1, 8);
    x.kind(7, 1, 12);
    x.thunks(4, 0, 7);
    x.section(10, 0, true);
    x.section(sizeOf1, 0, true);
    x.section(200, 0, false);
    x.label(2, 200);
    x.branch(1, sizeOf1 - 3, 0, 0);
    x.branch(0, 5, 0, 0);
    x.branch(1, offset, 1, 0);
    return x;
  }

  // Base 5, section 0 at 8 (10 bytes, pool), thunks of 5 bytes at 20, 28 and
  // 36, section 1 at 48 (20 bytes), 68 the end; branches 0 and 1 go by thunks 0
  // and 2, 2 and 3 are direct, 4 is refused.
  private static VeneerYard padded() {
    VeneerYard x = new VeneerYard();
    x.kind(0, 4, 4);
    x.kind(1, 1, 4);
    x.kind(3, 4, 6);
    x.thunks(5, 2, 3);
    x.base(5);
    x.section(10, 3, true);
    x.section(20, 4, false);
    x.label(1, 0);
    x.label(1, 20);
    x.label(0, 4);
    x.branch(0, 4, 0, 1);
    x.branch(0, 0, 0, 0);
    x.branch(0, 9, 1, 2);
    x.branch(1, 1, 1, 0);
    x.branch(1, 0, 1, 2);
    return x;
  }

  // 40 sections of 10 bytes, 60 labels at their end, 200 branches in the first
  // half of them, none of which reaches its label, all the pool next to them.
  private static VeneerYard full(boolean pools) {
    VeneerYard x = new VeneerYard();
    x.kind(0, 1, 4);
    x.kind(7, 1, 20);
    x.thunks(1, 0, 7);
    for (int s = 0; s < 40; s++) x.section(10, 0, pools);
    for (int l = 0; l < 60; l++) x.label(39, 10);
    for (int b = 0; b < 200; b++) x.branch(b % 20, 9, 0, b % 60);
    return x;
  }

  // Promise 1

  private static void promise01NothingIsTold() {
    VeneerYard x = new VeneerYard();
    for (int what = 10; what <= 14; what++) due("count(" + what + ")", x.count(what), 0);
    due("no section for a label", x.label(0, 0), NONE);
    due("no section to resize", x.resize(0, 0), false);
    due("no branch to retarget", x.retarget(0, 0), false);
    for (int k = 0; k < 8; k++) due("kind " + k + " for thunks", x.thunks(1, 0, k), false);
    x.section(1, 0, false);
    x.label(0, 0);
    for (int k = 0; k < 8; k++) due("kind " + k + " for a branch", x.branch(0, 0, k, 0), NONE);
    due("far", x.far(), 0);
  }

  private static void promise01NothingIsLaidOut() {
    VeneerYard x = new VeneerYard();
    for (int what = 0; what <= 7; what++) due("count(" + what + ")", x.count(what), 0);
    for (int what = 0; what <= 4; what++) due("address(" + what + ", 0)", x.address(what, 0), NOWHERE);
    for (int what = 0; what <= 1; what++) due("route(0, " + what + ")", x.route(0, what), NONE);
    for (int what = 0; what <= 5; what++) due("thunk(0, " + what + ")", x.thunk(0, what), NONE);
    for (int which = 0; which <= 1; which++) due("encoded(" + which + ", 0)", x.encoded(which, 0), NONE);
    for (int address = -1; address <= 1; address++) due("at(" + address + ")", x.at(address), NONE);
    due("walk(0)", x.walk(0), NOWHERE);
  }

  private static void promise01TheBaseIs0AtFirst() {
    VeneerYard x = new VeneerYard();
    x.section(1, 12, false);
    x.lay();
    due("section 0", x.address(0, 0), 0);
    due("bytes ahead of it", x.count(6), 0);
    due("at(0)", x.at(0), 1000);
    due("at(-1)", x.at(-1), NONE);
  }

  private static void promise01TheConstants() {
    due("NONE", VeneerYard.NONE, -1);
    due("NOWHERE", VeneerYard.NOWHERE, -9223372036854775808L);
  }

  // Promise 2

  private static void promise02SizeFrom0To1000000() {
    VeneerYard x = new VeneerYard();
    due("-1", x.section(-1, 0, true), NONE);
    due("0", x.section(0, 0, true), 0);
    due("1000000", x.section(1_000_000, 0, true), 1);
    due("1000001", x.section(1_000_001, 0, true), NONE);
    due("least", x.section(LOW, 0, true), NONE);
    due("greatest", x.section(HIGH, 0, true), NONE);
    x.section(1, 0, true);
    x.lay();
    due("behind 0 bytes", x.address(0, 1), 0);
    due("behind 1000000 bytes", x.address(0, 2), 1_000_000);
  }

  private static void promise02AlignFrom2To0To2To12() {
    for (int align = 0; align <= 12; align++) {
      VeneerYard x = new VeneerYard();
      due("align " + align, x.section(1, align, false), 0);
      x.base(1);
      x.lay();
      due("address at align " + align, x.address(0, 0), 1L << align);
    }
    // A shift by 32 and more starts anew at 2^0: these must not slip through.
    int[] none = {-1, 13, 31, 32, 33, 44, 64, -32, -20, LOW, HIGH};
    VeneerYard x = new VeneerYard();
    for (int align : none) due("align " + align, x.section(1, align, false), NONE);
    due("none was told", x.count(10), 0);
  }

  private static void promise02UpTo40() {
    for (boolean pool : new boolean[] {false, true}) {
      VeneerYard x = new VeneerYard();
      for (int s = 0; s <= 39; s++) due("section " + s, x.section(0, 0, pool), s);
      due("one more", x.section(0, 0, pool), NONE);
      due("one more with a pool", x.section(0, 0, true), NONE);
      due("sections", x.count(10), 40);
      due("pools", x.count(13), pool ? 40 : 0);
    }
  }

  private static void promise02ARefusedOneTakesNoNumber() {
    VeneerYard x = new VeneerYard();
    due("first", x.section(1, 0, true), 0);
    due("refused", x.section(1, 13, true), NONE);
    due("next", x.section(1, 0, true), 1);
    due("pools", x.count(13), 2);
  }

  private static void promise02PerhapsAPool() {
    VeneerYard x = new VeneerYard();
    x.section(3, 0, false);
    due("without", x.count(13), 0);
    x.section(3, 0, true);
    due("with", x.count(13), 1);
    x.lay();
    due("no pool's end", x.address(4, 0), NOWHERE);
    due("a pool's end", x.address(4, 1), 6);
  }

  // Promise 3

  private static void promise03SectionMustBeTold() {
    VeneerYard x = new VeneerYard();
    due("none is told", x.label(0, 0), NONE);
    x.section(5, 0, false);
    due("-1", x.label(-1, 0), NONE);
    due("0", x.label(0, 0), 0);
    due("1", x.label(1, 0), NONE);
    due("least", x.label(LOW, 0), NONE);
    due("greatest", x.label(HIGH, 0), NONE);
    VeneerYard all = sections(40, 1);
    due("39", all.label(39, 0), 0);
    due("40", all.label(40, 0), NONE);
  }

  private static void promise03OffsetFrom0ToTheSize() {
    VeneerYard x = new VeneerYard();
    x.section(10, 0, false);
    x.section(0, 0, false);
    x.section(1_000_000, 0, false);
    due("-1", x.label(0, -1), NONE);
    due("0", x.label(0, 0), 0);
    due("10 of 10", x.label(0, 10), 1);
    due("11 of 10", x.label(0, 11), NONE);
    due("-1 of 0", x.label(1, -1), NONE);
    due("0 of 0", x.label(1, 0), 2);
    due("1 of 0", x.label(1, 1), NONE);
    due("1000000 of 1000000", x.label(2, 1_000_000), 3);
    due("1000001 of 1000000", x.label(2, 1_000_001), NONE);
    due("least", x.label(0, LOW), NONE);
    due("greatest", x.label(0, HIGH), NONE);
    x.lay();
    due("label 1", x.address(1, 1), 10);
    due("label 2", x.address(1, 2), 10);
    due("label 3", x.address(1, 3), 1_000_010);
  }

  private static void promise03OffsetUpToTheSizeAsItIsNow() {
    VeneerYard x = sections(1, 10);
    x.resize(0, 4);
    due("5 of 4", x.label(0, 5), NONE);
    due("4 of 4", x.label(0, 4), 0);
    x.resize(0, 12);
    due("13 of 12", x.label(0, 13), NONE);
    due("12 of 12", x.label(0, 12), 1);
  }

  private static void promise03UpTo60() {
    VeneerYard x = sections(1, 3);
    for (int l = 0; l <= 59; l++) due("label " + l, x.label(0, l % 4), l);
    due("one more", x.label(0, 0), NONE);
    due("labels", x.count(11), 60);
  }

  private static void promise03ARefusedOneTakesNoNumber() {
    VeneerYard x = sections(1, 3);
    due("first", x.label(0, 0), 0);
    due("refused", x.label(0, 4), NONE);
    due("next", x.label(0, 0), 1);
  }

  // Promise 4

  private static void promise04KindFrom0To7() {
    VeneerYard x = new VeneerYard();
    due("-1", x.kind(-1, 1, 4), false);
    due("0", x.kind(0, 1, 4), true);
    due("7", x.kind(7, 1, 4), true);
    due("8", x.kind(8, 1, 4), false);
    due("least", x.kind(LOW, 1, 4), false);
    due("greatest", x.kind(HIGH, 1, 4), false);
  }

  private static void promise04StepIs1Or2Or4Or8() {
    VeneerYard x = new VeneerYard();
    for (int step = -9; step <= 33; step++) {
      due("step " + step, x.kind(0, step, 4), step == 1 || step == 2 || step == 4 || step == 8);
    }
    due("least", x.kind(0, LOW, 4), false);
    due("greatest", x.kind(0, HIGH, 4), false);
  }

  private static void promise04BitsFrom4To30() {
    VeneerYard x = new VeneerYard();
    for (int bits = -1; bits <= 70; bits++) {
      due(bits + " bits", x.kind(0, 1, bits), bits >= 4 && bits <= 30);
    }
    due("least", x.kind(0, 1, LOW), false);
    due("greatest", x.kind(0, 1, HIGH), false);
  }

  private static void promise04NotToldByARefusal() {
    VeneerYard x = sections(1, 5);
    x.label(0, 0);
    x.kind(0, 3, 4);
    x.kind(0, 1, 3);
    x.kind(0, 1, 31);
    due("branch", x.branch(0, 0, 0, 0), NONE);
    due("thunks", x.thunks(1, 0, 0), false);
    x.kind(0, 1, 4);
    due("branch of a told kind", x.branch(0, 0, 0, 0), 0);
  }

  private static void promise04ToldAnewForBranchesThereAre() {
    VeneerYard x = sections(1, 20);
    x.label(0, 9);
    x.kind(0, 1, 4);
    x.branch(0, 0, 0, 0);
    due("9 ahead with 4 bits", x.far(), 1);
    due("5 bits", x.kind(0, 1, 5), true);
    due("9 ahead with 5 bits", x.far(), 0);
    due("4 bits again", x.kind(0, 1, 4), true);
    due("9 ahead with 4 bits again", x.far(), 1);
    due("the same anew", x.kind(0, 1, 4), true);
    due("steps of 2", x.kind(0, 2, 30), true);
    due("9 is no multiple of 2", x.far(), 1);
  }

  // Whether a branch reaches a label that is so many bytes ahead of it (or behind
  // it, if below 0): far(), lay() and route() have to be of one mind.
  private static boolean reached(int step, int bits, int way) {
    VeneerYard x = sections(40, 1_000_000);
    int from = way < 0 ? 39_999_999 : 1;
    int to = from + way;
    x.kind(5, step, bits);
    x.label(to / 1_000_000, to % 1_000_000);
    x.branch(from / 1_000_000, from % 1_000_000, 5, 0);
    boolean near = x.far() == 0;
    due("lay with " + way, x.lay(), near ? 0 : 1);
    due("route with " + way, x.route(0, 0), near ? 0 : 2);
    return near;
  }

  private static void dueReach(int step, int bits, long way, boolean want) {
    if (way < -39_999_999 || way > 39_999_998) return;
    due("reach of " + bits + " bits in steps of " + step + ", way " + way,
        reached(step, bits, (int) way), want);
  }

  private static void promise04ReachesBackTo2ToBitsLess1Steps() {
    for (int step : STEPS) {
      for (int bits = 4; bits <= 30; bits++) {
        long last = -(1L << (bits - 1)) * step;
        dueReach(step, bits, last, true);
        dueReach(step, bits, last - 1, false);
        dueReach(step, bits, last - step, false);
        dueReach(step, bits, -step, true);
      }
    }
  }

  private static void promise04ReachesAheadTo1LessThanThat() {
    for (int step : STEPS) {
      for (int bits = 4; bits <= 30; bits++) {
        long last = ((1L << (bits - 1)) - 1) * step;
        dueReach(step, bits, last, true);
        dueReach(step, bits, last + 1, false);
        dueReach(step, bits, last + step, false);
        dueReach(step, bits, 0, true);
      }
    }
  }

  private static void promise04ReachesMultiplesOfTheStepAlone() {
    for (int step : STEPS) {
      for (int way = -17; way <= 17; way++) dueReach(step, 8, way, way % step == 0);
    }
  }

  private static void promise04WithMostBitsAllOfAYardIsReached() {
    for (int step : STEPS) {
      dueReach(step, 30, 39_999_992, true);
      dueReach(step, 30, -39_999_992, true);
      dueReach(step, 30, 39_999_993, step == 1);
      dueReach(step, 30, -39_999_993, step == 1);
    }
  }

  // Promise 5

  private static void promise05SectionMustBeTold() {
    VeneerYard x = oneSection(5);
    due("-1", x.branch(-1, 0, 0, 0), NONE);
    due("0", x.branch(0, 0, 0, 0), 0);
    due("1", x.branch(1, 0, 0, 0), NONE);
    due("least", x.branch(LOW, 0, 0, 0), NONE);
    due("greatest", x.branch(HIGH, 0, 0, 0), NONE);
    VeneerYard all = sections(40, 1);
    all.label(0, 0);
    all.kind(0, 1, 8);
    due("39", all.branch(39, 0, 0, 0), 0);
    due("40", all.branch(40, 0, 0, 0), NONE);
  }

  private static void promise05OffsetFrom0ToTheSizeLess1() {
    VeneerYard x = oneSection(10);
    x.section(0, 0, false);
    x.section(1_000_000, 0, false);
    x.section(1, 0, false);
    due("-1", x.branch(0, -1, 0, 0), NONE);
    due("0", x.branch(0, 0, 0, 0), 0);
    due("9 of 10", x.branch(0, 9, 0, 0), 1);
    due("10 of 10", x.branch(0, 10, 0, 0), NONE);
    due("-1 of 0", x.branch(1, -1, 0, 0), NONE);
    due("0 of 0", x.branch(1, 0, 0, 0), NONE);
    due("0 of 1", x.branch(3, 0, 0, 0), 2);
    due("1 of 1", x.branch(3, 1, 0, 0), NONE);
    due("999999 of 1000000", x.branch(2, 999_999, 0, 0), 3);
    due("1000000 of 1000000", x.branch(2, 1_000_000, 0, 0), NONE);
    due("least", x.branch(0, LOW, 0, 0), NONE);
    due("greatest", x.branch(0, HIGH, 0, 0), NONE);
    x.lay();
    due("branch 1", x.address(2, 1), 9);
    due("branch 3", x.address(2, 3), 1_000_009);
  }

  private static void promise05OffsetBelowTheSizeAsItIsNow() {
    VeneerYard x = oneSection(10);
    x.resize(0, 4);
    due("4 of 4", x.branch(0, 4, 0, 0), NONE);
    due("3 of 4", x.branch(0, 3, 0, 0), 0);
    x.resize(0, 12);
    due("12 of 12", x.branch(0, 12, 0, 0), NONE);
    due("11 of 12", x.branch(0, 11, 0, 0), 1);
  }

  private static void promise05KindMustBeTold() {
    VeneerYard x = sections(1, 5);
    x.label(0, 0);
    x.kind(0, 1, 4);
    x.kind(7, 1, 4);
    due("-1", x.branch(0, 0, -1, 0), NONE);
    due("0", x.branch(0, 0, 0, 0), 0);
    for (int k = 1; k <= 6; k++) due(k + " is not told", x.branch(0, 0, k, 0), NONE);
    due("7", x.branch(0, 0, 7, 0), 1);
    due("8", x.branch(0, 0, 8, 0), NONE);
    due("least", x.branch(0, 0, LOW, 0), NONE);
    due("greatest", x.branch(0, 0, HIGH, 0), NONE);
  }

  private static void promise05LabelMustBeTold() {
    VeneerYard x = sections(1, 5);
    x.kind(0, 1, 4);
    due("none is told", x.branch(0, 0, 0, 0), NONE);
    x.label(0, 0);
    due("-1", x.branch(0, 0, 0, -1), NONE);
    due("0", x.branch(0, 0, 0, 0), 0);
    due("1", x.branch(0, 0, 0, 1), NONE);
    for (int l = 1; l <= 59; l++) x.label(0, 0);
    due("59", x.branch(0, 0, 0, 59), 1);
    due("60", x.branch(0, 0, 0, 60), NONE);
    due("least", x.branch(0, 0, 0, LOW), NONE);
    due("greatest", x.branch(0, 0, 0, HIGH), NONE);
  }

  private static void promise05UpTo200() {
    VeneerYard x = oneSection(5);
    for (int b = 0; b <= 199; b++) due("branch " + b, x.branch(0, b % 5, 0, 0), b);
    due("one more", x.branch(0, 0, 0, 0), NONE);
    due("branches", x.count(12), 200);
  }

  private static void promise05ARefusedOneTakesNoNumber() {
    VeneerYard x = oneSection(5);
    due("first", x.branch(0, 0, 0, 0), 0);
    due("refused", x.branch(0, 5, 0, 0), NONE);
    due("next", x.branch(0, 0, 0, 0), 1);
  }

  // Promise 6

  // Two thunks in the pool behind 7 bytes, for labels 0 and 1 in section 1.
  private static VeneerYard twoThunks(int size, int align) {
    VeneerYard x = new VeneerYard();
    x.kind(0, 1, 9);
    x.kind(7, 1, 20);
    due("thunks(" + size + ", " + align + ", 7)", x.thunks(size, align, 7), true);
    x.section(7, 0, true);
    x.section(1000, 0, false);
    x.label(1, 1000);
    x.label(1, 999);
    x.branch(0, 0, 0, 0);
    x.branch(0, 0, 0, 1);
    due("lay", x.lay(), 0);
    return x;
  }

  private static void promise06SizeFrom1To64() {
    VeneerYard x = new VeneerYard();
    x.kind(0, 1, 8);
    due("0", x.thunks(0, 0, 0), false);
    due("-1", x.thunks(-1, 0, 0), false);
    due("65", x.thunks(65, 0, 0), false);
    due("least", x.thunks(LOW, 0, 0), false);
    due("greatest", x.thunks(HIGH, 0, 0), false);
    due("thunks of 1 byte", twoThunks(1, 0).address(3, 1), 8);
    due("thunks of 64 bytes", twoThunks(64, 0).address(3, 1), 71);
  }

  private static void promise06AlignFrom2To0To2To6() {
    VeneerYard x = new VeneerYard();
    x.kind(0, 1, 8);
    int[] none = {-1, 7, 31, 32, 33, 38, 64, -32, LOW, HIGH};
    for (int align : none) due("align " + align, x.thunks(4, align, 0), false);
    long[] first = {7, 8, 8, 8, 16, 32, 64};
    for (int align = 0; align <= 6; align++) {
      VeneerYard y = twoThunks(1, align);
      due("thunk 0, align " + align, y.address(3, 0), first[align]);
      due("thunk 1, align " + align, y.address(3, 1), first[align] + (1 << align));
      due("end, align " + align, y.address(4, 0), first[align] + 2 * (1 << align));
    }
  }

  private static void promise06KindMustBeTold() {
    VeneerYard x = new VeneerYard();
    for (int k = -1; k <= 8; k++) due("kind " + k + " of none", x.thunks(4, 0, k), false);
    x.kind(0, 1, 8);
    x.kind(7, 1, 8);
    due("-1", x.thunks(4, 0, -1), false);
    due("0", x.thunks(4, 0, 0), true);
    for (int k = 1; k <= 6; k++) due(k + " is not told", x.thunks(4, 0, k), false);
    due("7", x.thunks(4, 0, 7), true);
    due("8", x.thunks(4, 0, 8), false);
    due("least", x.thunks(4, 0, LOW), false);
    due("greatest", x.thunks(4, 0, HIGH), false);
  }

  private static void promise06ToldAnew() {
    VeneerYard x = twoThunks(1, 0);
    due("thunk 1", x.address(3, 1), 8);
    due("anew", x.thunks(3, 2, 7), true);
    x.lay();
    due("thunk 0 anew", x.address(3, 0), 8);
    due("thunk 1 anew", x.address(3, 1), 12);
    due("a kind that doesn't reach", x.kind(5, 1, 4) && x.thunks(3, 2, 5), true);
    due("lay", x.lay(), 2);
    due("no thunks", x.count(1), 0);
  }

  private static void promise06ReachByTheirKindAsItIsNow() {
    VeneerYard x = twoThunks(1, 0);
    x.kind(7, 1, 10);
    due("992 ahead with 10 bits", x.lay(), 2);
    x.kind(7, 1, 11);
    due("992 ahead with 11 bits", x.lay(), 0);
  }

  // Promise 7

  private static void promise07From0To2To31Less1() {
    VeneerYard x = sections(1, 1);
    due("-1", x.base(-1), false);
    due("least", x.base(LOW), false);
    due("0", x.base(0), true);
    x.lay();
    due("section 0 at 0", x.address(0, 0), 0);
    due("2^31 - 1", x.base(HIGH), true);
    x.lay();
    due("section 0 at 2^31 - 1", x.address(0, 0), 2147483647L);
    due("-1 again", x.base(-1), false);
    x.lay();
    due("section 0 still there", x.address(0, 0), 2147483647L);
  }

  private static void promise07NoWrapAroundAt2To31() {
    VeneerYard x = new VeneerYard();
    x.kind(0, 1, 9);
    x.kind(7, 1, 20);
    x.thunks(8, 3, 7);
    x.section(3, 0, true);
    x.section(300, 12, false);
    x.label(1, 300);
    x.branch(0, 0, 0, 0);
    x.base(HIGH);
    due("lay", x.lay(), 0);
    due("thunk", x.address(3, 0), 2147483656L);
    due("end of the pool", x.address(4, 0), 2147483664L);
    due("section 1", x.address(0, 1), 2147487744L);
    due("label", x.address(1, 0), 2147488044L);
    due("walk", x.walk(0), 2147488044L);
    due("bytes", x.count(7), 4397);
    due("bytes between", x.count(6), 4397 - 3 - 8 - 300);
    due("at the base", x.at(2147483647L), 1000);
    due("ahead of it", x.at(2147483646L), NONE);
    due("the same as a negative int", x.at(LOW), NONE);
  }

  // Promise 8

  private static void promise08SizeFrom0To1000000() {
    VeneerYard x = sections(2, 5);
    due("-1", x.resize(0, -1), false);
    due("0", x.resize(0, 0), true);
    x.lay();
    due("behind 0 bytes", x.address(0, 1), 0);
    due("1000000", x.resize(0, 1_000_000), true);
    due("1000001", x.resize(0, 1_000_001), false);
    due("least", x.resize(0, LOW), false);
    due("greatest", x.resize(0, HIGH), false);
    x.lay();
    due("behind 1000000 bytes", x.address(0, 1), 1_000_000);
  }

  private static void promise08SectionMustBeTold() {
    VeneerYard x = new VeneerYard();
    due("none is told", x.resize(0, 5), false);
    x.section(1, 0, false);
    due("-1", x.resize(-1, 5), false);
    due("0", x.resize(0, 5), true);
    due("1", x.resize(1, 5), false);
    due("least", x.resize(LOW, 5), false);
    due("greatest", x.resize(HIGH, 5), false);
    VeneerYard all = sections(40, 1);
    due("39", all.resize(39, 5), true);
    due("40", all.resize(40, 5), false);
  }

  private static void promise08NoLabelBeyond() {
    VeneerYard x = sections(3, 20);
    x.label(1, 7);
    x.label(1, 12);
    x.label(1, 3);
    due("11", x.resize(1, 11), false);
    due("12", x.resize(1, 12), true);
    due("11 again", x.resize(1, 11), false);
    due("section 0 has none", x.resize(0, 0), true);
    due("section 2 has none", x.resize(2, 0), true);
    x.label(0, 0);
    due("a label at 0 of 0", x.resize(0, 0), true);
  }

  private static void promise08NoBranchBeyond() {
    VeneerYard x = sections(3, 20);
    x.label(0, 0);
    x.kind(0, 1, 8);
    x.branch(1, 7, 0, 0);
    x.branch(1, 12, 0, 0);
    x.branch(1, 3, 0, 0);
    due("12", x.resize(1, 12), false);
    due("13", x.resize(1, 13), true);
    due("12 again", x.resize(1, 12), false);
    due("section 2 has none", x.resize(2, 0), true);
    due("the label's section has none", x.resize(0, 0), true);
    x.resize(2, 1);
    x.branch(2, 0, 0, 0);
    due("a branch at 0 of 0", x.resize(2, 0), false);
    due("a branch at 0 of 1", x.resize(2, 1), true);
  }

  private static void promise08LabelAndBranchTogether() {
    VeneerYard x = oneSection(20);
    x.label(0, 9);
    x.branch(0, 9, 0, 0);
    due("label fits, branch does not", x.resize(0, 9), false);
    due("both fit", x.resize(0, 10), true);
    x.label(0, 10);
    x.branch(0, 4, 0, 0);
    due("branches fit, label does not", x.resize(0, 9), false);
    due("all fit", x.resize(0, 10), true);
    x.lay();
    due("size", x.count(7), 10);
  }

  // The one that is highest is the first told, or the last that can be told.
  private static void promise08FirstAndLastOfThem() {
    for (int highest : new int[] {0, 59}) {
      VeneerYard x = sections(1, 20);
      for (int l = 0; l < 60; l++) x.label(0, l == highest ? 12 : 3);
      due("beyond is label " + highest, x.resize(0, 11), false);
      due("at the end is label " + highest, x.resize(0, 12), true);
    }
    for (int highest : new int[] {0, 199}) {
      VeneerYard x = oneSection(20);
      for (int b = 0; b < 200; b++) x.branch(0, b == highest ? 12 : 3, 0, 0);
      due("beyond is branch " + highest, x.resize(0, 12), false);
      due("the last byte is branch " + highest, x.resize(0, 13), true);
    }
  }

  // Promise 9

  private static void promise09BranchMustBeTold() {
    VeneerYard x = oneSection(5);
    due("none is told", x.retarget(0, 0), false);
    x.branch(0, 0, 0, 0);
    due("-1", x.retarget(-1, 0), false);
    due("0", x.retarget(0, 0), true);
    due("1", x.retarget(1, 0), false);
    for (int b = 1; b <= 199; b++) x.branch(0, 0, 0, 0);
    due("199", x.retarget(199, 0), true);
    due("200", x.retarget(200, 0), false);
    due("least", x.retarget(LOW, 0), false);
    due("greatest", x.retarget(HIGH, 0), false);
  }

  private static void promise09LabelMustBeTold() {
    VeneerYard x = oneSection(5);
    x.branch(0, 0, 0, 0);
    due("-1", x.retarget(0, -1), false);
    due("0", x.retarget(0, 0), true);
    due("1", x.retarget(0, 1), false);
    for (int l = 1; l <= 59; l++) x.label(0, 0);
    due("59", x.retarget(0, 59), true);
    due("60", x.retarget(0, 60), false);
    due("least", x.retarget(0, LOW), false);
    due("greatest", x.retarget(0, HIGH), false);
  }

  private static void promise09OneBranchAlone() {
    VeneerYard x = oneSection(5);
    x.label(0, 5);
    for (int b = 0; b < 3; b++) x.branch(0, 0, 0, 0);
    x.retarget(1, 1);
    x.lay();
    due("walk(0)", x.walk(0), 0);
    due("walk(1)", x.walk(1), 5);
    due("walk(2)", x.walk(2), 0);
  }

  // Promise 10

  private static void promise10NothingToLay() {
    VeneerYard x = new VeneerYard();
    x.base(77);
    due("lay", x.lay(), 0);
    due("rounds", x.count(0), 1);
    for (int what = 1; what <= 7; what++) due("count(" + what + ")", x.count(what), 0);
    due("at the base", x.at(77), NONE);
  }

  private static void promise10From0To200Refused() {
    VeneerYard none = full(false);
    due("without pools", none.lay(), 200);
    due("refused ones", none.count(4), 200);
    VeneerYard x = full(false);
    x.kind(0, 1, 20);
    due("with a long reach", x.lay(), 0);
    due("direct ones", x.count(2), 200);
  }

  private static void promise10WithoutToldThunksNoneAreWanted() {
    VeneerYard x = new VeneerYard();
    x.kind(0, 1, 4);
    x.kind(7, 1, 9);
    x.section(5, 0, true);
    x.section(100, 0, false);
    x.label(1, 100);
    x.branch(0, 0, 0, 0);
    due("lay", x.lay(), 1);
    due("rounds", x.count(0), 1);
    due("thunks", x.count(1), 0);
    x.thunks(1, 0, 7);
    due("lay with thunks", x.lay(), 0);
    due("thunks", x.count(1), 1);
  }

  private static void promise10NoneIsWantedByOneThatReaches() {
    VeneerYard x = ahead(5, 3, 9);
    x.retarget(0, x.label(1, 2));
    due("7 ahead", x.lay(), 0);
    due("rounds", x.count(0), 1);
    due("thunks", x.count(1), 0);
    x.retarget(0, x.label(1, 3));
    due("8 ahead", x.lay(), 0);
    due("rounds", x.count(0), 2);
    due("thunks", x.count(1), 1);
  }

  private static void promise10PoolsEndAtTheLastItReachesAhead() {
    VeneerYard last = ahead(7, 100, 9);
    due("end 7 ahead", last.lay(), 0);
    due("thunks", last.count(1), 1);
    VeneerYard beyond = ahead(8, 100, 9);
    due("end 8 ahead", beyond.lay(), 1);
    due("rounds", beyond.count(0), 1);
    due("no thunks", beyond.count(1), 0);
  }

  // The thunk in pool 0 moves the branch behind it by a byte: 7 away becomes 8.
  private static void promise10PoolsEndAtTheLastItReachesBack() {
    int[] refused = {0, 1, 1};
    int[] rounds = {2, 2, 1};
    int[] thunks = {1, 1, 0};
    for (int i = 0; i < 3; i++) {
      VeneerYard x = ahead(1, 100, 9);
      x.retarget(0, x.label(0, 0));
      x.branch(1, 7 + i, 0, 0);
      due("end " + (7 + i) + " back", x.lay(), refused[i]);
      due("rounds", x.count(0), rounds[i]);
      due("thunks", x.count(1), thunks[i]);
    }
  }

  // Likewise the label is moved by the thunk: 14 ahead becomes 15, 15 becomes 16.
  private static void promise10LabelAtTheLastThatThunksReachAhead() {
    int[] refused = {0, 1, 1};
    int[] rounds = {2, 2, 1};
    int[] thunks = {1, 1, 0};
    for (int i = 0; i < 3; i++) {
      VeneerYard x = ahead(4, 14 + i, 5);
      due("label " + (14 + i) + " ahead of the end", x.lay(), refused[i]);
      due("rounds", x.count(0), rounds[i]);
      due("thunks", x.count(1), thunks[i]);
    }
  }

  private static void promise10LabelAtTheLastThatThunksReachBack() {
    for (int size = 12; size <= 13; size++) {
      VeneerYard x = new VeneerYard();
      x.kind(0, 1, 4);
      x.kind(7, 1, 5);
      x.thunks(1, 0, 7);
      x.section(size, 0, false);
      x.section(4, 0, true);
      x.label(0, 0);
      x.branch(1, 3, 0, 0);
      due("label " + (size + 4) + " back of the end", x.lay(), size - 12);
      due("thunks", x.count(1), 13 - size);
    }
  }

  private static void promise10NoSecondThunkForALabelInAPool() {
    VeneerYard x = ahead(1, 100, 9);
    x.retarget(0, x.label(0, 0));
    x.branch(1, 8, 0, 0);
    due("lay", x.lay(), 1);
    due("one thunk", x.count(1), 1);
    due("by which none goes", x.count(5), 1);
    due("its wanter is refused", x.route(x.thunk(0, 3), 0), 2);
  }

  private static void promise10WantedAlreadyForOneOfItsPools() {
    VeneerYard x = between(20, 10);
    due("lay", x.lay(), 0);
    due("branch 2 wants none of its own", x.count(1), 2);
    VeneerYard low = between(20, 18);
    low.retarget(0, low.label(1, 17));
    due("lay", low.lay(), 0);
    due("branch 2, nearer to pool 1, is content with pool 0", low.count(1), 1);
    due("pool", low.thunk(0, 0), 0);
    due("wanter", low.thunk(0, 3), 1);
    due("users", low.thunk(0, 4), 2);
  }

  private static void promise10WantedAlreadyForOtherPoolsAlone() {
    VeneerYard x = between(100, 48);
    due("lay", x.lay(), 0);
    due("rounds", x.count(0), 2);
    due("thunks", x.count(1), 2);
    for (int t = 0; t < 2; t++) {
      due("pool of thunk " + t, x.thunk(t, 0), 1 - t);
      due("round of thunk " + t, x.thunk(t, 2), 1);
      due("wanter of thunk " + t, x.thunk(t, 3), t);
    }
  }

  // Sections of 10 bytes with pools at 0 and 10: their ends are at 10 and 20.
  private static VeneerYard twoPools(int offset) {
    VeneerYard x = new VeneerYard();
    x.kind(0, 1, 6);
    x.kind(7, 1, 9);
    x.thunks(1, 0, 7);
    x.section(10, 0, true);
    x.section(10, 0, true);
    x.section(100, 0, false);
    x.label(2, 100);
    x.branch(1, offset, 0, 0);
    due("lay", x.lay(), 0);
    due("thunks", x.count(1), 1);
    return x;
  }

  private static void promise10OfTwoPoolsEquallyNearTheLowerOne() {
    due("4 and 6 away", twoPools(4).thunk(0, 0), 0);
    due("5 and 5 away", twoPools(5).thunk(0, 0), 0);
    due("6 and 4 away", twoPools(6).thunk(0, 0), 1);
  }

  private static void promise10OfTwoPoolsAtOneAddressTheLowerOne() {
    VeneerYard x = new VeneerYard();
    x.kind(0, 1, 4);
    x.kind(7, 1, 9);
    x.thunks(1, 0, 7);
    x.section(5, 0, false);
    x.section(0, 0, true);
    x.section(0, 0, true);
    x.section(100, 0, false);
    x.label(3, 100);
    x.branch(0, 0, 0, 0);
    due("lay", x.lay(), 0);
    due("pool", x.thunk(0, 0), 1);
    due("thunks", x.count(1), 1);
  }

  // Both want a thunk at the end as it was found, at 7; the second one gets its
  // own at 8, beyond its reach, and none else.
  private static void promise10EndsAsTheAddressesWereFound() {
    VeneerYard x = ahead(7, 100, 9);
    x.branch(0, 0, 0, x.label(1, 99));
    due("lay", x.lay(), 1);
    due("rounds", x.count(0), 2);
    due("thunks", x.count(1), 2);
    due("round of thunk 1", x.thunk(1, 2), 1);
    due("its address", x.address(3, 1), 8);
    due("its users", x.thunk(1, 4), 0);
    due("its wanter", x.route(1, 0), 2);
  }

  private static void promise10MadeInTheOrderOfTheirBranches() {
    VeneerYard x = twoThunks(1, 0);
    due("label of thunk 0", x.thunk(0, 1), 0);
    due("label of thunk 1", x.thunk(1, 1), 1);
    x.retarget(0, 1);
    x.retarget(1, 0);
    x.lay();
    due("label of thunk 0 anew", x.thunk(0, 1), 1);
    due("label of thunk 1 anew", x.thunk(1, 1), 0);
  }

  private static void promise10AtFirstThereAreNoThunks() {
    VeneerYard x = ahead(7, 100, 9);
    x.lay();
    due("again", x.lay(), 0);
    due("rounds", x.count(0), 2);
    due("thunks", x.count(1), 1);
    due("users", x.thunk(0, 4), 1);
    x.kind(0, 1, 9);
    due("with a long reach", x.lay(), 0);
    due("rounds", x.count(0), 1);
    due("thunks", x.count(1), 0);
    due("section 1", x.address(0, 1), 7);
  }

  // Promise 11

  private static void promise11WhatIs0To7And10To14() {
    VeneerYard x = padded();
    x.lay();
    int[] want = {NONE, 4, 3, 2, 2, 1, 1, 18, 63, NONE, NONE, 2, 3, 5, 1, 0, NONE, NONE};
    for (int what = -1; what <= 16; what++) due("count(" + what + ")", x.count(what), want[what + 1]);
    due("least", x.count(LOW), NONE);
    due("greatest", x.count(HIGH), NONE);
  }

  private static void promise11All0AheadOfAnyLay() {
    VeneerYard x = padded();
    for (int what = 0; what <= 7; what++) due("count(" + what + ")", x.count(what), 0);
    due("sections", x.count(10), 2);
    due("labels", x.count(11), 3);
    due("branches", x.count(12), 5);
    due("pools", x.count(13), 1);
    due("told", x.count(14), 1);
  }

  private static void promise11OfTheLatestLay() {
    VeneerYard x = padded();
    x.lay();
    x.base(0);
    x.resize(1, 100);
    x.section(9, 5, true);
    x.retarget(0, 2);
    int[] want = {4, 3, 2, 2, 1, 1, 18, 63};
    for (int what = 0; what <= 7; what++) due("count(" + what + ")", x.count(what), want[what]);
    due("sections", x.count(10), 3);
    due("pools", x.count(13), 2);
  }

  private static void promise11CountedAnewByEachLay() {
    VeneerYard x = padded();
    for (int i = 0; i < 3; i++) {
      x.lay();
      due("direct ones", x.count(2), 2);
      due("those by a thunk", x.count(3), 2);
      due("refused ones", x.count(4), 1);
      due("thunks by which none goes", x.count(5), 1);
    }
    x.kind(0, 4, 30);
    x.kind(1, 1, 30);
    x.lay();
    int[] want = {1, 0, 5, 0, 0, 0};
    for (int what = 0; what <= 5; what++) due("count(" + what + ")", x.count(what), want[what]);
  }

  private static void promise11ThunksByWhichNoneGoes() {
    VeneerYard none = ahead(7, 100, 9);
    none.lay();
    due("one goes by it", none.count(5), 0);
    VeneerYard one = ahead(7, 100, 9);
    one.branch(0, 0, 0, one.label(1, 99));
    one.lay();
    due("one of two", one.count(5), 1);
  }

  // The base, the section's align and the bytes ahead of it.
  private static void promise11BytesAheadOfSection0() {
    int[][] rows = {{0, 3, 0}, {1, 3, 7}, {7, 3, 1}, {8, 3, 0}, {9, 3, 7}, {9, 0, 0}, {1, 12, 4095}, {4096, 12, 0}};
    for (int[] row : rows) {
      VeneerYard x = new VeneerYard();
      x.section(5, row[1], false);
      x.base(row[0]);
      x.lay();
      due("bytes between, base " + row[0], x.count(6), row[2]);
      due("bytes, base " + row[0], x.count(7), row[2] + 5);
    }
  }

  private static void promise11BytesEndWithTheLastOneOfAll() {
    VeneerYard section = new VeneerYard();
    section.kind(0, 1, 8);
    section.thunks(8, 6, 0);
    section.section(5, 0, true);
    section.lay();
    due("an empty pool takes none", section.count(7), 5);
    due("nor is there a gap", section.count(6), 0);
    section.section(0, 4, false);
    section.lay();
    due("an empty section counts by its address", section.count(7), 16);
    due("with a gap ahead of it", section.count(6), 11);
    VeneerYard thunk = new VeneerYard();
    thunk.kind(0, 1, 4);
    thunk.kind(7, 1, 9);
    thunk.thunks(3, 3, 7);
    thunk.section(100, 0, false);
    thunk.section(4, 0, true);
    thunk.label(0, 0);
    thunk.branch(1, 0, 0, 0);
    due("lay", thunk.lay(), 0);
    due("thunk", thunk.address(3, 0), 104);
    due("a last thunk is not filled up", thunk.count(7), 107);
    due("no gaps", thunk.count(6), 0);
  }

  private static void promise11BytesBetween40Sections() {
    VeneerYard x = new VeneerYard();
    for (int s = 0; s < 40; s++) x.section(3, 2, true);
    x.lay();
    due("bytes between", x.count(6), 39);
    due("bytes", x.count(7), 159);
    due("the last byte between", x.at(155), 0);
    due("the last byte", x.at(158), 1039);
    due("the end", x.at(159), NONE);
  }

  private static void promise11ToldSinceTheLatestLayOrAtAll() {
    VeneerYard x = new VeneerYard();
    due("nothing at all", x.count(14), 0);
    x.section(-1, 0, false);
    x.base(-1);
    due("nothing but refusals", x.count(14), 0);
    x.section(5, 0, false);
    due("a section", x.count(14), 1);
    x.section(-1, 0, false);
    due("a refusal behind it", x.count(14), 1);
    x.lay();
    due("laid out", x.count(14), 0);
    x.resize(0, -1);
    due("a refusal", x.count(14), 0);
    x.resize(0, 6);
    due("a resize", x.count(14), 1);
    x.lay();
    x.lay();
    due("laid out twice", x.count(14), 0);
  }

  // Each call that tells, told on a laid out yard: 1 behind it, each by itself.
  private static void promise11EachCallThatDidSomething() {
    for (int call = 0; call < 8; call++) {
      VeneerYard x = padded();
      x.lay();
      due("ahead of call " + call, x.count(14), 0);
      boolean did = call == 0 ? x.section(1, 0, false) == 2
          : call == 1 ? x.label(0, 0) == 3
          : call == 2 ? x.kind(2, 1, 4)
          : call == 3 ? x.branch(0, 0, 0, 0) == 5
          : call == 4 ? x.thunks(1, 0, 0)
          : call == 5 ? x.base(6)
          : call == 6 ? x.resize(0, 11)
          : x.retarget(0, 0);
      due("call " + call, did, true);
      due("behind call " + call, x.count(14), 1);
    }
  }

  // Promise 12

  private static void promise12OfWhatThereWas() {
    VeneerYard x = padded();
    x.lay();
    long[][] want = {{8, 48}, {48, 68, 12}, {12, 8, 17, 49, 48}, {20, 28, 36}, {44, NOWHERE}};
    for (int what = 0; what <= 4; what++) {
      for (int k = 0; k < want[what].length; k++) {
        due("address(" + what + ", " + k + ")", x.address(what, k), want[what][k]);
      }
      int beyond = want[what].length;
      for (int k : new int[] {-1, beyond, LOW, HIGH}) {
        due("address(" + what + ", " + k + ")", x.address(what, k), NOWHERE);
      }
    }
  }

  private static void promise12WhatIs0To4() {
    VeneerYard x = padded();
    x.lay();
    for (int what : new int[] {-1, 5, LOW, HIGH}) due("what " + what, x.address(what, 0), NOWHERE);
  }

  private static void promise12NowhereAheadOfAnyLay() {
    VeneerYard x = padded();
    x.far();
    for (int what = 0; what <= 4; what++) due("address(" + what + ", 0)", x.address(what, 0), NOWHERE);
  }

  private static void promise12NowhereForWhatWasToldSince() {
    VeneerYard x = padded();
    x.lay();
    x.section(5, 0, true);
    x.label(2, 0);
    x.branch(2, 0, 0, 0);
    due("section 2", x.address(0, 2), NOWHERE);
    due("label 3", x.address(1, 3), NOWHERE);
    due("branch 5", x.address(2, 5), NOWHERE);
    due("pool 2", x.address(4, 2), NOWHERE);
    x.lay();
    due("section 2 laid out", x.address(0, 2), 68);
    due("label 3 laid out", x.address(1, 3), 68);
    due("branch 5 laid out", x.address(2, 5), 68);
    due("pool 2 laid out", x.address(4, 2) != NOWHERE, true);
  }

  private static void promise12NowhereForThunksOfAnEarlierLay() {
    VeneerYard x = padded();
    x.lay();
    due("thunk 2", x.address(3, 2), 36);
    x.kind(0, 4, 30);
    x.kind(1, 1, 30);
    x.lay();
    due("thunks", x.count(1), 0);
    for (int k = 0; k < 3; k++) due("thunk " + k, x.address(3, k), NOWHERE);
  }

  private static void promise12LastOfAllNumbers() {
    VeneerYard x = full(false);
    x.lay();
    due("section 39", x.address(0, 39), 390);
    due("section 40", x.address(0, 40), NOWHERE);
    due("label 59", x.address(1, 59), 400);
    due("label 60", x.address(1, 60), NOWHERE);
    due("branch 199", x.address(2, 199), 199);
    due("branch 200", x.address(2, 200), NOWHERE);
  }

  private static void promise12SectionsAtTheLeastMultiple() {
    for (int size = 15; size <= 17; size++) {
      VeneerYard x = new VeneerYard();
      x.section(size, 0, false);
      x.section(1, 4, false);
      x.lay();
      due("behind " + size + " bytes", x.address(0, 1), size <= 16 ? 16 : 32);
    }
  }

  private static void promise12ThunksAtTheLeastMultiple() {
    for (int size = 15; size <= 17; size++) {
      VeneerYard x = new VeneerYard();
      x.kind(0, 1, 6);
      x.kind(7, 1, 12);
      x.thunks(size, 4, 7);
      x.section(15, 0, true);
      x.section(300, 0, false);
      x.label(1, 300);
      x.label(1, 299);
      x.branch(0, 0, 0, 0);
      x.branch(0, 14, 0, 1);
      x.lay();
      long step = size <= 16 ? 16 : 32;
      due("thunk 0 of " + size + " bytes", x.address(3, 0), 16);
      due("thunk 1 of " + size + " bytes", x.address(3, 1), 16 + step);
      due("end of the pool", x.address(4, 0), 16 + 2 * step);
      due("section 1, right behind thunk 1", x.address(0, 1), 16 + step + size);
    }
  }

  private static void promise12EndOfAnEmptyPool() {
    for (int size = 7; size <= 9; size++) {
      VeneerYard x = new VeneerYard();
      x.kind(0, 1, 8);
      x.section(size, 0, true);
      x.section(1, 0, false);
      x.lay();
      due("without told thunks, behind " + size, x.address(4, 0), size);
      x.thunks(1, 3, 0);
      x.lay();
      due("with told thunks, behind " + size, x.address(4, 0), size <= 8 ? 8 : 16);
      due("what follows is not moved", x.address(0, 1), size);
    }
  }

  private static void promise12EndOfAPoolBehindAnEmptySection() {
    VeneerYard x = new VeneerYard();
    x.section(0, 0, true);
    x.lay();
    due("at 0", x.address(4, 0), 0);
    x.base(3);
    x.lay();
    due("at 3", x.address(4, 0), 3);
    x.kind(0, 1, 8);
    x.thunks(1, 1, 0);
    x.lay();
    due("at 4", x.address(4, 0), 4);
  }

  // Promise 13

  private static void promise13OfBranchesThereWere() {
    VeneerYard x = padded();
    due("ahead of any lay", x.route(0, 0), NONE);
    due("ahead of any lay", x.route(0, 1), NONE);
    x.lay();
    x.branch(0, 0, 0, 0);
    int[] way = {1, 1, 0, 0, 2};
    int[] thunk = {0, 2, NONE, NONE, NONE};
    for (int b = 0; b <= 4; b++) {
      due("route(" + b + ", 0)", x.route(b, 0), way[b]);
      due("route(" + b + ", 1)", x.route(b, 1), thunk[b]);
    }
    for (int b : new int[] {-1, 5, LOW, HIGH}) {
      due("route(" + b + ", 0)", x.route(b, 0), NONE);
      due("route(" + b + ", 1)", x.route(b, 1), NONE);
    }
    VeneerYard all = full(false);
    all.lay();
    due("branch 199", all.route(199, 0), 2);
    due("branch 200", all.route(200, 0), NONE);
  }

  private static void promise13WhatIs0Or1() {
    VeneerYard x = padded();
    x.lay();
    for (int b = 0; b <= 4; b++) {
      for (int what : new int[] {-1, 2, LOW, HIGH}) due("route(" + b + ", " + what + ")", x.route(b, what), NONE);
    }
  }

  // Branch 2 is at 14 + offset, the thunks at 10 and 114; thunk 1 is the lower one.
  private static void promise13OfTwoThunksEquallyNearTheLowerOne() {
    int[] want = {1, 1, 0};
    for (int i = 0; i < 3; i++) {
      VeneerYard x = between(100, 47 + i);
      due("lay", x.lay(), 0);
      due("thunk 0", x.address(3, 0), 114);
      due("thunk 1", x.address(3, 1), 10);
      due(51 + i + " and " + (53 - i) + " away", x.route(2, 1), want[i]);
    }
  }

  // In steps of 8, the nearer thunk (25 back) is not reached, the farther one (80 ahead) is.
  private static void promise13ByAThunkThatItReaches() {
    VeneerYard x = between(101, 21);
    due("lay in steps of 1", x.lay(), 0);
    due("the nearer one", x.route(2, 1), 1);
    x.kind(1, 8, 8);
    due("lay in steps of 8", x.lay(), 0);
    due("the farther one", x.route(2, 1), 0);
    x.kind(1, 8, 4);
    due("lay with 56 ahead at most", x.lay(), 1);
    due("refused", x.route(2, 0), 2);
    due("by none", x.route(2, 1), NONE);
  }

  // Thunk 1, at 10, reached its label at 38; thunk 0, at 34, has moved that to 46.
  private static void promise13ByAThunkThatReachesItsLabel() {
    VeneerYard x = between(20, 5);
    x.kind(7, 1, 6);
    x.kind(1, 1, 5);
    int label = x.label(2, 8);
    for (int b = 0; b < 3; b++) x.retarget(b, label);
    due("lay", x.lay(), 1);
    due("thunk 0", x.address(3, 0), 34);
    due("thunk 1", x.address(3, 1), 10);
    due("branch 2", x.address(2, 2), 19);
    due("the nearer one doesn't reach", x.encoded(1, 1), NONE);
    due("the farther one it is", x.route(2, 1), 0);
    due("users of the nearer one", x.thunk(1, 4), 0);
    due("branch 1 reaches no other", x.route(1, 0), 2);
    due("by none", x.route(1, 1), NONE);
  }

  private static void promise13DirectRatherThanByAThunk() {
    VeneerYard x = ahead(5, 3, 9);
    x.branch(0, 1, 0, 0);
    due("lay", x.lay(), 0);
    due("8 ahead", x.route(0, 0), 1);
    due("7 ahead at first, 8 with the thunk", x.route(1, 0), 1);
    VeneerYard y = ahead(5, 3, 9);
    y.branch(0, 2, 0, 0);
    y.lay();
    due("7 ahead with the thunk", y.route(1, 0), 0);
    due("by none", y.route(1, 1), NONE);
    due("users", y.thunk(0, 4), 1);
  }

  private static void promise13RoutedAnewByEachLay() {
    VeneerYard x = padded();
    x.lay();
    x.kind(0, 4, 30);
    x.kind(1, 1, 30);
    x.lay();
    for (int b = 0; b <= 4; b++) {
      due("route(" + b + ", 0)", x.route(b, 0), 0);
      due("route(" + b + ", 1)", x.route(b, 1), NONE);
    }
    x.kind(0, 4, 4);
    x.kind(1, 1, 4);
    x.lay();
    due("by a thunk again", x.route(1, 1), 2);
    due("refused again", x.route(4, 0), 2);
  }

  // Promise 14

  private static void promise14OfThunksThereWere() {
    VeneerYard x = padded();
    due("ahead of any lay", x.thunk(0, 0), NONE);
    x.lay();
    int[][] want = {{0, 1, 1, 0, 1, 0}, {0, 2, 2, 4, 0, 1}, {0, 0, 3, 1, 1, 2}};
    for (int k = 0; k <= 2; k++) {
      for (int what = 0; what <= 5; what++) due("thunk(" + k + ", " + what + ")", x.thunk(k, what), want[k][what]);
    }
    for (int k : new int[] {-1, 3, LOW, HIGH}) {
      for (int what = 0; what <= 5; what++) due("thunk(" + k + ", " + what + ")", x.thunk(k, what), NONE);
    }
  }

  private static void promise14WhatIs0To5() {
    VeneerYard x = padded();
    x.lay();
    for (int what : new int[] {-1, 6, LOW, HIGH}) due("thunk(0, " + what + ")", x.thunk(0, what), NONE);
  }

  private static void promise14NoneOfAnEarlierLay() {
    VeneerYard x = padded();
    x.lay();
    x.kind(0, 4, 30);
    x.kind(1, 1, 30);
    due("as laid out", x.thunk(2, 2), 3);
    x.lay();
    for (int k = 0; k <= 2; k++) due("thunk(" + k + ", 0)", x.thunk(k, 0), NONE);
  }

  // Far more thunks than most yards have: places count from 0 in each pool.
  private static void promise14PlacesInEachPool() {
    VeneerYard x = full(true);
    due("lay", x.lay(), 0);
    due("thunks", x.count(1), 60);
    for (int k = 0; k < 60; k++) {
      due("pool of thunk " + k, x.thunk(k, 0), k % 20);
      due("place of thunk " + k, x.thunk(k, 5), k / 20);
    }
    due("beyond the last one", x.thunk(60, 5), NONE);
  }

  // So many thunks in one pool, as many branches; no number is special.
  private static void promise14AsManyAsAreWanted() {
    for (int n = 1; n <= 60; n++) {
      VeneerYard x = new VeneerYard();
      x.kind(0, 1, 9);
      x.kind(7, 1, 12);
      x.thunks(1, 0, 7);
      x.section(1, 0, true);
      x.section(500, 0, false);
      for (int l = 0; l < n; l++) x.label(1, 500 - l);
      for (int b = 0; b < n; b++) x.branch(0, 0, 0, b);
      due("lay with " + n, x.lay(), 0);
      due("thunks", x.count(1), n);
      due("label of the last one", x.thunk(n - 1, 1), n - 1);
      due("address of the last one", x.address(3, n - 1), n);
      due("what is there", x.at(n), 1999 + n);
      due("beyond the last one", x.thunk(n, 1), NONE);
      due("address beyond", x.address(3, n), NOWHERE);
      due("what is there", x.at(n + 1), 1001);
    }
  }

  // Promise 15

  private static void promise15WhichIs0Or1() {
    VeneerYard x = padded();
    x.lay();
    due("branch 0", x.encoded(0, 0), 2);
    due("thunk 0", x.encoded(1, 0), 12);
    for (int which : new int[] {-1, 2, LOW, HIGH}) due("which " + which, x.encoded(which, 0), NONE);
  }

  private static void promise15OfWhatThereWas() {
    VeneerYard x = padded();
    due("ahead of any lay", x.encoded(0, 0), NONE);
    due("ahead of any lay", x.encoded(1, 0), NONE);
    x.lay();
    x.branch(0, 9, 1, 2);
    due("branch 3", x.encoded(0, 3), 15);
    due("thunk 2", x.encoded(1, 2), 3);
    for (int k : new int[] {-1, 5, LOW, HIGH}) due("branch " + k, x.encoded(0, k), NONE);
    for (int k : new int[] {-1, 3, LOW, HIGH}) due("thunk " + k, x.encoded(1, k), NONE);
  }

  private static void promise15NoneForRefusedOnes() {
    VeneerYard x = padded();
    x.lay();
    due("route", x.route(4, 0), 2);
    due("code", x.encoded(0, 4), NONE);
  }

  private static void promise15NoneForAThunkThatDoesntReachInTheEnd() {
    VeneerYard reaches = ahead(4, 14, 5);
    reaches.lay();
    due("15 ahead", reaches.encoded(1, 0), 15);
    VeneerYard not = ahead(4, 15, 5);
    not.lay();
    due("16 ahead", not.encoded(1, 0), NONE);
    due("there is one", not.count(1), 1);
    due("its wanter", not.encoded(0, 0), NONE);
  }

  // The farthest back, one step back, on the spot, and the farthest ahead.
  private static void promise15BitsWithoutASign() {
    for (int step : STEPS) {
      for (int bits = 4; bits <= 16; bits++) {
        int half = 1 << (bits - 1);
        int[] ways = {-half, -1, 0, half - 1};
        int[] codes = {half, 2 * half - 1, 0, half - 1};
        VeneerYard x = sections(1, 2 * half * step);
        x.kind(0, step, bits);
        for (int l = 0; l < 4; l++) {
          x.label(0, (half + ways[l]) * step);
          x.branch(0, half * step, 0, l);
        }
        due("lay", x.lay(), 0);
        for (int b = 0; b < 4; b++) {
          due(ways[b] + " steps of " + step + " in " + bits + " bits", x.encoded(0, b), codes[b]);
        }
      }
    }
  }

  private static void promise15MostBits() {
    for (int step : STEPS) {
      VeneerYard x = sections(1, 100);
      x.kind(0, step, 30);
      x.label(0, 50 - step);
      x.label(0, 50 + step);
      x.branch(0, 50, 0, 0);
      x.branch(0, 50, 0, 1);
      x.lay();
      due("a step back", x.encoded(0, 0), (1 << 30) - 1);
      due("a step ahead", x.encoded(0, 1), 1);
    }
  }

  private static void promise15OfItsKindAsLaidOut() {
    VeneerYard x = padded();
    x.lay();
    for (int k = 0; k < 8; k++) x.kind(k, 1, 30);
    due("branch 0", x.encoded(0, 0), 2);
    due("branch 3", x.encoded(0, 3), 15);
    due("thunk 1", x.encoded(1, 1), 60);
  }

  // Promise 16

  private static void promise16NoneAheadOfTheBase() {
    VeneerYard x = padded();
    x.lay();
    due("5", x.at(5), 0);
    due("4", x.at(4), NONE);
    due("0", x.at(0), NONE);
    due("-1", x.at(-1), NONE);
    due("least", x.at(Long.MIN_VALUE), NONE);
    x.base(0);
    due("4, with another base since", x.at(4), NONE);
    x.base(1000);
    due("5, with another base since", x.at(5), 0);
  }

  private static void promise16NoneBehindTheEnd() {
    VeneerYard x = padded();
    x.lay();
    due("67", x.at(67), 1001);
    due("68", x.at(68), NONE);
    due("69", x.at(69), NONE);
    due("greatest", x.at(Long.MAX_VALUE), NONE);
    due("2^32 and 8", x.at(4294967296L + 8), NONE);
    x.resize(1, 100);
    x.section(10, 0, false);
    due("68, with more told since", x.at(68), NONE);
  }

  private static void promise16NoneAheadOfAnyLay() {
    VeneerYard x = padded();
    x.far();
    for (int address = -1; address <= 68; address++) due("at(" + address + ")", x.at(address), NONE);
  }

  private static void promise16FirstAndLastBytes() {
    VeneerYard x = padded();
    x.lay();
    int[] first = {5, 8, 18, 20, 25, 28, 33, 36, 41, 48};
    int[] last = {7, 17, 19, 24, 27, 32, 35, 40, 47, 67};
    int[] what = {0, 1000, 0, 2000, 0, 2001, 0, 2002, 0, 1001};
    for (int i = 0; i < what.length; i++) {
      due("at(" + first[i] + ")", x.at(first[i]), what[i]);
      due("at(" + last[i] + ")", x.at(last[i]), what[i]);
    }
  }

  private static void promise16AnEmptySectionHasNoBytes() {
    VeneerYard x = new VeneerYard();
    x.section(0, 0, false);
    x.lay();
    due("alone", x.at(0), NONE);
    x.section(3, 0, false);
    x.section(0, 0, false);
    x.section(3, 0, false);
    x.lay();
    due("at(0)", x.at(0), 1001);
    due("at(2)", x.at(2), 1001);
    due("at(3)", x.at(3), 1003);
    due("at(5)", x.at(5), 1003);
    due("at(6)", x.at(6), NONE);
  }

  private static void promise16AnEmptyPoolHasNoBytes() {
    VeneerYard x = new VeneerYard();
    x.kind(0, 1, 8);
    x.thunks(8, 3, 0);
    x.section(5, 0, true);
    x.lay();
    due("at(4)", x.at(4), 1000);
    due("at(5)", x.at(5), NONE);
    due("at the pool's end", x.at(8), NONE);
  }

  private static void promise16NoThunkOfAnEarlierLay() {
    VeneerYard x = padded();
    x.lay();
    due("thunk 0", x.at(20), 2000);
    x.kind(0, 4, 30);
    x.kind(1, 1, 30);
    x.lay();
    for (int address = 18; address <= 31; address++) due("at(" + address + ")", x.at(address), 0);
    due("section 1", x.at(32), 1001);
    due("end", x.at(52), NONE);
  }

  private static void promise16LastSection() {
    VeneerYard x = full(false);
    x.lay();
    due("last byte", x.at(399), 1039);
    due("end", x.at(400), NONE);
    due("first byte", x.at(390), 1039);
    due("one ahead of it", x.at(389), 1038);
  }

  // Promise 17

  private static void promise17OfBranchesThereWere() {
    VeneerYard x = padded();
    due("ahead of any lay", x.walk(0), NOWHERE);
    x.lay();
    x.branch(0, 9, 1, 2);
    long[] want = {68, 48, 12, 48};
    for (int b = 0; b <= 3; b++) due("walk(" + b + ")", x.walk(b), want[b]);
    for (int b : new int[] {-1, 5, 200, LOW, HIGH}) due("walk(" + b + ")", x.walk(b), NOWHERE);
  }

  private static void promise17NowhereForRefusedOnes() {
    VeneerYard x = padded();
    x.lay();
    due("route", x.route(4, 0), 2);
    due("walk", x.walk(4), NOWHERE);
    VeneerYard y = ahead(4, 15, 5);
    y.lay();
    due("its thunk doesn't reach in the end", y.walk(0), NOWHERE);
    VeneerYard z = ahead(4, 14, 5);
    z.lay();
    due("its thunk does", z.walk(0), 19);
  }

  private static void promise17EndsOfReach() {
    for (int step : STEPS) {
      for (int bits = 4; bits <= 16; bits++) {
        int half = 1 << (bits - 1);
        VeneerYard x = sections(1, half * step + 1);
        x.kind(0, step, bits);
        x.label(0, 0);
        x.label(0, (half - 1) * step);
        x.label(0, half * step);
        x.branch(0, half * step, 0, 0);
        x.branch(0, 0, 0, 1);
        x.branch(0, 0, 0, 2);
        x.lay();
        due("farthest back", x.walk(0), 0);
        due("farthest ahead", x.walk(1), (half - 1L) * step);
        due("one step more", x.walk(2), NOWHERE);
      }
    }
  }

  private static void promise17AsLaidOut() {
    VeneerYard x = padded();
    x.lay();
    x.retarget(0, 0);
    x.kind(0, 1, 30);
    x.kind(3, 1, 30);
    x.resize(0, 500);
    due("walk(0)", x.walk(0), 68);
    due("walk(1)", x.walk(1), 48);
  }

  // Promise 18

  private static void promise18From0To200() {
    VeneerYard x = full(true);
    due("all", x.far(), 200);
    x.kind(0, 1, 20);
    due("none", x.far(), 0);
    due("nothing told", new VeneerYard().far(), 0);
  }

  private static void promise18AsIfThereWereNoThunks() {
    VeneerYard x = ahead(5, 3, 9);
    x.branch(0, 1, 0, 0);
    due("8 ahead, 7 ahead", x.far(), 1);
    due("lay", x.lay(), 0);
    due("with a thunk neither is direct", x.count(2), 0);
    due("far still", x.far(), 1);
  }

  private static void promise18AsThingsAreToldNow() {
    VeneerYard x = ahead(5, 2, 9);
    due("7 ahead", x.far(), 0);
    x.lay();
    x.resize(0, 6);
    due("8 ahead", x.far(), 1);
    due("as laid out", x.route(0, 0), 0);
    x.resize(0, 5);
    due("7 ahead again", x.far(), 0);
    x.branch(0, 0, 0, x.label(1, 2));
    due("one more", x.far(), 0);
    x.kind(0, 2, 4);
    due("7 is no multiple of 2", x.far(), 2);
  }

  private static void promise18NothingIsLaidOutByIt() {
    VeneerYard x = padded();
    x.far();
    due("rounds", x.count(0), 0);
    due("still told", x.count(14), 1);
    due("section 0", x.address(0, 0), NOWHERE);
    x.lay();
    x.base(6);
    x.resize(0, 500);
    x.far();
    due("told since", x.count(14), 1);
    due("section 1 as laid out", x.address(0, 1), 48);
    due("thunk 2 as laid out", x.address(3, 2), 36);
    due("pool 0 as laid out", x.address(4, 0), 44);
    due("route as laid out", x.route(1, 1), 2);
    due("at as laid out", x.at(36), 2002);
  }
}
