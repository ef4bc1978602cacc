import java.lang.reflect.InvocationTargetException;
import java.lang.reflect.Method;
import java.util.ArrayList;
import java.util.Comparator;
import java.util.List;

// For each promise of the document, tests that bear its number: ordinary inputs,
// the named edges, wrong inputs.
public final class PromiseTests {
  private static final int NONE = VeneerYard.NONE;
  private static final long NOWHERE = VeneerYard.NOWHERE;
  private static final int LOW = Integer.MIN_VALUE;
  private static final int HIGH = Integer.MAX_VALUE;

  private static int wrong = 0;
  private static int seen = 0;
  private static String test = "";

  private static void due(String call, long got, long want) {
    seen++;
    if (got != want) {
      wrong++;
      System.out.println(test + ": " + call + " answered " + got + ", due is " + want);
    }
  }

  private static void due(String call, boolean got, boolean want) {
    due(call, got ? 1L : 0L, want ? 1L : 0L);
  }

  public static void main(String[] args) throws IllegalAccessException {
    List<Method> tests = new ArrayList<>();
    for (Method m : PromiseTests.class.getDeclaredMethods()) {
      if (m.getName().matches("promise\\d\\d[A-Z]\\w*")) tests.add(m);
    }
    tests.sort(Comparator.comparing(Method::getName));
    for (Method m : tests) run(m);
    for (int promise = 1; promise <= 18; promise++) {
      String name = String.format("promise%02d", promise);
      test = name;
      due("a test", tests.stream().anyMatch(m -> m.getName().startsWith(name)), true);
    }
    System.out.println(tests.size() + " tests, " + seen + " answers, " + wrong + " not as due");
    if (wrong != 0) System.exit(1);
  }

  // A call that throws is a wrong answer like any other: the next tests still run.
  private static void run(Method m) throws IllegalAccessException {
    test = m.getName();
    try {
      m.invoke(null);
    } catch (InvocationTargetException e) {
      wrong++;
      System.out.println(test + ": threw " + e.getCause());
    }
  }

  // Sections 0 (10 bytes) and 1 (10 bytes) with pools, 2 (100 bytes) without;
  // label 0 at the end of all; a branch of kind 0 in the middle of section 1.
  private static VeneerYard tieYard(int bits) {
    VeneerYard x = new VeneerYard();
    x.kind(0, 1, bits);
    x.kind(7, 1, 9);
    x.thunks(4, 0, 7);
    x.section(10, 0, true);
    x.section(10, 0, true);
    x.section(100, 0, false);
    x.label(2, 100);
    x.branch(1, 5, 0, 0);
    return x;
  }

  // Base 5, section 0 at 8 (10 bytes, pool), thunks of 5 bytes and align 4 at
  // 20, 28 and 36, section 1 at 48 (20 bytes), 68 the end of all. Round 1 wants
  // thunk 0; it moves pool 0's end into branch 4's reach, which wants thunk 1;
  // that moves section 1 from 32 to 48, so that branch 1 wants thunk 2 (and
  // branch 4 can't reach its own any more).
  private static VeneerYard paddedYard() {
    VeneerYard x = new VeneerYard();
    x.kind(0, 4, 4);
    x.kind(1, 1, 4);
    x.kind(3, 4, 6);
    x.thunks(5, 2, 3);
    x.base(5);
    x.section(10, 3, true);
    x.section(20, 4, false);
    x.label(1, 0);
    x.label(1, 20);
    x.label(0, 4);
    x.branch(0, 4, 0, 1);
    x.branch(0, 0, 0, 0);
    x.branch(0, 9, 1, 2);
    x.branch(1, 1, 1, 0);
    x.branch(1, 0, 1, 2);
    return x;
  }

  private static void promise01NewObject() {
    VeneerYard x = new VeneerYard();
    for (int what = 0; what <= 7; what++) due("count(" + what + ")", x.count(what), 0);
    for (int what = 10; what <= 14; what++) due("count(" + what + ")", x.count(what), 0);
    for (int what = 0; what <= 4; what++) due("address(" + what + ", 0)", x.address(what, 0), NOWHERE);
    due("route", x.route(0, 0), NONE);
    due("thunk", x.thunk(0, 0), NONE);
    due("encoded", x.encoded(0, 0), NONE);
    due("encoded of a thunk", x.encoded(1, 0), NONE);
    due("at", x.at(0), NONE);
    due("walk", x.walk(0), NOWHERE);
    due("far", x.far(), 0);
    due("label", x.label(0, 0), NONE);
    due("branch", x.branch(0, 0, 0, 0), NONE);
    due("thunks", x.thunks(4, 0, 0), false);
    due("NONE", VeneerYard.NONE, -1);
    due("NOWHERE", VeneerYard.NOWHERE, Long.MIN_VALUE);
    VeneerYard other = new VeneerYard();
    other.section(3, 0, true);
    due("sections of another object", x.count(10), 0);
  }

  private static void promise02Sections() {
    VeneerYard x = new VeneerYard();
    due("size below 0", x.section(-1, 0, false), NONE);
    due("size above all", x.section(1000001, 0, false), NONE);
    due("least size", x.section(LOW, 0, false), NONE);
    due("greatest size", x.section(HIGH, 0, false), NONE);
    due("align below 0", x.section(1, -1, false), NONE);
    due("align 2^13", x.section(1, 13, false), NONE);
    due("align 2^32", x.section(1, 32, false), NONE);
    due("least align", x.section(1, LOW, false), NONE);
    due("refused ones are not told", x.count(14), 0);
    due("empty section", x.section(0, 0, false), 0);
    due("greatest section", x.section(1000000, 12, true), 1);
    for (int s = 2; s < 40; s++) due("section " + s, x.section(s, s % 13, s % 2 == 0), s);
    due("section 40", x.section(1, 0, true), NONE);
    due("count(10)", x.count(10), 40);
    due("count(13)", x.count(13), 20);
    x.lay();
    due("address of section 1", x.address(0, 1), 0);
    due("address of section 2", x.address(0, 2), 1000000);
    due("address of section 12", x.address(0, 12), 1007616);
  }

  private static void promise03Labels() {
    VeneerYard x = new VeneerYard();
    due("no section", x.label(0, 0), NONE);
    x.section(10, 0, false);
    x.section(0, 0, false);
    due("section below 0", x.label(-1, 0), NONE);
    due("section not told", x.label(2, 0), NONE);
    due("least section", x.label(LOW, 0), NONE);
    due("offset below 0", x.label(0, -1), NONE);
    due("offset beyond", x.label(0, 11), NONE);
    due("greatest offset", x.label(0, HIGH), NONE);
    due("at the end", x.label(0, 10), 0);
    due("in an empty section", x.label(1, 0), 1);
    due("beyond an empty section", x.label(1, 1), NONE);
    for (int l = 2; l < 60; l++) due("label " + l, x.label(0, l % 11), l);
    due("label 60", x.label(0, 0), NONE);
    due("count(11)", x.count(11), 60);
  }

  private static void promise04Kinds() {
    VeneerYard x = new VeneerYard();
    due("kind -1", x.kind(-1, 1, 4), false);
    due("kind 8", x.kind(8, 1, 4), false);
    due("least kind", x.kind(LOW, 1, 4), false);
    for (int step = -1; step <= 17; step++) {
      boolean fits = step == 1 || step == 2 || step == 4 || step == 8;
      due("step " + step, x.kind(0, step, 4), fits);
    }
    due("least step", x.kind(0, LOW, 4), false);
    due("3 bits", x.kind(0, 1, 3), false);
    due("31 bits", x.kind(0, 1, 31), false);
    due("0 bits", x.kind(0, 1, 0), false);
    due("-4 bits", x.kind(0, 1, -4), false);
    due("30 bits", x.kind(7, 8, 30), true);
    x = new VeneerYard();
    x.section(20, 0, false);
    x.label(0, 20);
    x.kind(0, 1, 4);
    x.branch(0, 0, 0, 0);
    due("far", x.far(), 1);
    due("refused anew", x.kind(0, 3, 6), false);
    due("far still", x.far(), 1);
    due("told anew", x.kind(0, 1, 6), true);
    due("far no more", x.far(), 0);
  }

  private static void promise05Branches() {
    VeneerYard x = new VeneerYard();
    x.section(10, 0, false);
    x.section(0, 0, false);
    x.label(0, 0);
    due("kind not told", x.branch(0, 0, 0, 0), NONE);
    x.kind(0, 1, 4);
    due("section -1", x.branch(-1, 0, 0, 0), NONE);
    due("section 2", x.branch(2, 0, 0, 0), NONE);
    due("offset -1", x.branch(0, -1, 0, 0), NONE);
    due("offset at the end", x.branch(0, 10, 0, 0), NONE);
    due("in an empty section", x.branch(1, 0, 0, 0), NONE);
    due("kind -1", x.branch(0, 0, -1, 0), NONE);
    due("kind 8", x.branch(0, 0, 8, 0), NONE);
    due("kind 1", x.branch(0, 0, 1, 0), NONE);
    due("label -1", x.branch(0, 0, 0, -1), NONE);
    due("label 1", x.branch(0, 0, 0, 1), NONE);
    due("greatest of all", x.branch(HIGH, HIGH, HIGH, HIGH), NONE);
    due("least of all", x.branch(LOW, LOW, LOW, LOW), NONE);
    due("none told", x.count(12), 0);
    for (int b = 0; b < 200; b++) due("branch " + b, x.branch(0, b % 10, 0, 0), b);
    due("branch 200", x.branch(0, 0, 0, 0), NONE);
    due("count(12)", x.count(12), 200);
  }

  private static void promise06ToldThunks() {
    VeneerYard x = new VeneerYard();
    due("kind not told", x.thunks(4, 0, 0), false);
    x.kind(0, 1, 8);
    x.lay();
    due("size 0", x.thunks(0, 0, 0), false);
    due("size 65", x.thunks(65, 0, 0), false);
    due("least size", x.thunks(LOW, 0, 0), false);
    due("align -1", x.thunks(4, -1, 0), false);
    due("align 2^7", x.thunks(4, 7, 0), false);
    due("kind -1", x.thunks(4, 0, -1), false);
    due("kind 8", x.thunks(4, 0, 8), false);
    due("kind 1", x.thunks(4, 0, 1), false);
    due("nothing told", x.count(14), 0);
    due("size 1", x.thunks(1, 0, 0), true);
    due("size 64, align 2^6", x.thunks(64, 6, 0), true);
    x.section(1, 0, true);
    x.lay();
    due("pool's end", x.address(4, 0), 64);
    due("told anew", x.thunks(3, 1, 0), true);
    due("pool's end as laid out", x.address(4, 0), 64);
    x.lay();
    due("pool's end anew", x.address(4, 0), 2);
    due("refused anew", x.thunks(3, 9, 0), false);
    x.lay();
    due("pool's end as it was", x.address(4, 0), 2);
  }

  private static void promise07Bases() {
    VeneerYard x = new VeneerYard();
    x.section(7, 4, true);
    due("below 0", x.base(-1), false);
    due("least", x.base(LOW), false);
    due("17", x.base(17), true);
    x.lay();
    due("section 0", x.address(0, 0), 32);
    due("base(0)", x.base(0), true);
    x.lay();
    due("section 0 again", x.address(0, 0), 0);
    due("greatest", x.base(HIGH), true);
    due("refused", x.base(-5), false);
    x.lay();
    due("section 0 at 2^31", x.address(0, 0), 2147483648L);
    due("bytes from the base", x.count(7), 8);
    due("bytes between", x.count(6), 1);
  }

  private static void promise08Resizes() {
    VeneerYard x = new VeneerYard();
    x.section(20, 0, false);
    x.section(20, 0, false);
    x.section(20, 0, false);
    x.kind(0, 1, 8);
    x.label(0, 12);
    x.label(2, 3);
    x.branch(1, 11, 0, 0);
    due("section -1", x.resize(-1, 5), false);
    due("section 3", x.resize(3, 5), false);
    due("least section", x.resize(LOW, 5), false);
    due("size -1", x.resize(2, -1), false);
    due("size 1000001", x.resize(2, 1000001), false);
    due("a label beyond", x.resize(0, 11), false);
    due("a label at the end", x.resize(0, 12), true);
    due("a branch beyond", x.resize(1, 10), false);
    due("a branch at the end", x.resize(1, 11), false);
    due("a branch as the last byte", x.resize(1, 12), true);
    due("greatest size", x.resize(2, 1000000), true);
    due("smaller again", x.resize(2, 3), true);
    x.lay();
    due("section 1", x.address(0, 1), 12);
    due("section 2", x.address(0, 2), 24);
    due("end", x.count(7), 27);
    due("label at the new end", x.label(0, 12), 2);
    due("label beyond it", x.label(0, 13), NONE);
    x.section(9, 0, false);
    due("to nothing", x.resize(3, 0), true);
    due("resized", x.resize(0, 40), true);
    due("as laid out", x.address(0, 1), 12);
    due("what is there", x.at(12), 1001);
    x.lay();
    due("laid out anew", x.address(0, 1), 40);
    due("what is there now", x.at(12), 1000);
  }

  private static void promise09Retargets() {
    VeneerYard x = new VeneerYard();
    x.section(100, 0, false);
    x.kind(0, 1, 4);
    x.label(0, 0);
    x.label(0, 100);
    x.branch(0, 0, 0, 0);
    due("branch -1", x.retarget(-1, 0), false);
    due("branch 1", x.retarget(1, 0), false);
    due("label -1", x.retarget(0, -1), false);
    due("label 2", x.retarget(0, 2), false);
    due("greatest", x.retarget(HIGH, HIGH), false);
    due("far", x.far(), 0);
    x.lay();
    due("retarget", x.retarget(0, 1), true);
    due("far now", x.far(), 1);
    due("route as laid out", x.route(0, 0), 0);
    due("walk as laid out", x.walk(0), 0);
    due("lay", x.lay(), 1);
    due("route", x.route(0, 0), 2);
  }

  private static void promise10LayWithoutPools() {
    VeneerYard x = new VeneerYard();
    x.kind(0, 1, 4);
    x.section(8, 0, false);
    x.section(8, 0, false);
    x.label(1, 0);
    x.label(0, 7);
    x.branch(0, 0, 0, 0);
    x.branch(0, 1, 0, 0);
    x.branch(1, 7, 0, 1);
    x.branch(1, 0, 0, 1);
    x.thunks(1, 0, 0);
    due("one too far ahead, none too far back", x.lay(), 1);
    due("8 ahead", x.route(0, 0), 2);
    due("7 ahead", x.route(1, 0), 0);
    due("8 back", x.route(2, 0), 0);
    due("rounds", x.count(0), 1);
    x.resize(1, 9);
    x.branch(1, 8, 0, 1);
    due("9 back, too", x.lay(), 2);
    due("9 back", x.route(4, 0), 2);
  }

  private static void promise10PoolTieGoesLow() {
    VeneerYard x = tieYard(5);
    due("lay", x.lay(), 0);
    due("rounds", x.count(0), 2);
    due("thunks", x.count(1), 1);
    due("pool", x.thunk(0, 0), 0);
    due("code, 9 back", x.encoded(0, 0), 23);
  }

  // The thunk in pool 0 pushes the branch out of its own reach of it.
  private static void promise10PoolFirstFull() {
    VeneerYard x = tieYard(4);
    due("lay", x.lay(), 0);
    due("rounds", x.count(0), 3);
    due("thunks", x.count(1), 2);
    due("first pool", x.thunk(0, 0), 0);
    due("second pool", x.thunk(1, 0), 1);
    due("second round", x.thunk(1, 2), 2);
    due("first place of the second pool", x.thunk(1, 5), 0);
    due("thunk by which none goes", x.count(5), 1);
    due("by thunk", x.route(0, 1), 1);
    due("section 2", x.address(0, 2), 28);
    due("walk", x.walk(0), 128);
  }

  private static void promise10WantedOnceARound() {
    VeneerYard x = tieYard(5);
    x.branch(1, 6, 0, 0);
    x.branch(0, 9, 0, 0);
    due("lay", x.lay(), 0);
    due("rounds", x.count(0), 2);
    due("one for all", x.count(1), 1);
    due("users", x.thunk(0, 4), 3);
    due("wanter", x.thunk(0, 3), 0);
    x.label(2, 99);
    x.branch(1, 4, 0, 1);
    due("lay", x.lay(), 0);
    due("one more for another label", x.count(1), 2);
    due("its label", x.thunk(1, 1), 1);
    due("its place", x.thunk(1, 5), 1);
    due("its address", x.address(3, 1), 14);
  }

  private static void promise10NearestPoolWins() {
    VeneerYard x = tieYard(5);
    x.branch(1, 6, 0, 0);
    x.retarget(0, x.label(1, 5));
    due("lay", x.lay(), 0);
    due("thunks", x.count(1), 1);
    due("pool", x.thunk(0, 0), 1);
    due("wanter", x.thunk(0, 3), 1);
  }

  private static void promise10ThunkMustReach() {
    VeneerYard x = tieYard(5);
    x.kind(7, 1, 7);
    due("lay with a label beyond the reach of both pools", x.lay(), 1);
    due("thunks", x.count(1), 0);
    due("rounds", x.count(0), 1);
    x.kind(7, 1, 8);
    due("lay with a label that both pools reach", x.lay(), 0);
    due("pool", x.thunk(0, 0), 0);
    x.resize(2, 120);
    x.retarget(0, x.label(2, 118));
    due("lay with a label that pool 1 alone reaches", x.lay(), 0);
    due("thunks", x.count(1), 1);
    due("pool", x.thunk(0, 0), 1);
  }

  private static void promise10StepsMustFit() {
    VeneerYard x = new VeneerYard();
    x.kind(0, 4, 6);
    x.kind(1, 2, 12);
    x.thunks(4, 1, 1);
    x.section(9, 0, true);
    x.section(300, 2, false);
    x.label(1, 300);
    x.branch(0, 2, 0, 0);
    x.branch(0, 4, 0, 0);
    due("the pool's end is at 10: one alone is a multiple of 4 from it", x.lay(), 1);
    due("8 away", x.route(0, 0), 1);
    due("6 away", x.route(1, 0), 2);
    x.label(1, 299);
    x.branch(0, 2, 0, 1);
    due("an odd way is not of the thunks' kind", x.lay(), 2);
    due("route", x.route(2, 0), 2);
  }

  // Thunk 0 is at 26, thunk 1 at 10, branch 2 at 18.
  private static void promise10RouteTieGoesLow() {
    VeneerYard x = new VeneerYard();
    x.kind(0, 1, 5);
    x.kind(7, 1, 9);
    x.thunks(4, 0, 7);
    x.section(10, 0, true);
    x.section(12, 0, true);
    x.section(100, 0, false);
    x.label(2, 100);
    x.branch(2, 6, 0, 0);
    x.branch(0, 0, 0, 0);
    x.branch(1, 4, 0, 0);
    due("lay", x.lay(), 0);
    due("rounds", x.count(0), 2);
    due("thunk 0", x.address(3, 0), 26);
    due("thunk 1", x.address(3, 1), 10);
    due("branch 2", x.address(2, 2), 18);
    due("the lower of two", x.route(2, 1), 1);
    due("users", x.thunk(1, 4), 2);
  }

  private static void promise10NearestThunkWins() {
    VeneerYard x = new VeneerYard();
    x.kind(0, 1, 5);
    x.kind(7, 1, 9);
    x.thunks(4, 0, 7);
    x.section(10, 0, true);
    x.section(12, 0, true);
    x.section(100, 0, false);
    x.label(2, 100);
    x.branch(2, 6, 0, 0);
    x.branch(0, 0, 0, 0);
    x.branch(1, 3, 0, 0);
    x.branch(1, 5, 0, 0);
    due("lay", x.lay(), 0);
    due("nearer to the lower", x.route(2, 1), 1);
    due("nearer to the upper", x.route(3, 1), 0);
  }

  private static void promise10LayStartsAfresh() {
    VeneerYard x = tieYard(4);
    x.lay();
    due("lay again", x.lay(), 0);
    due("thunks", x.count(1), 2);
    due("rounds", x.count(0), 3);
    due("users", x.thunk(1, 4), 1);
    x.kind(0, 1, 10);
    due("lay with a longer reach", x.lay(), 0);
    due("no thunks any more", x.count(1), 0);
    due("no rows of old ones", x.thunk(0, 0), NONE);
    due("no address of old ones", x.address(3, 0), NOWHERE);
    due("section 2", x.address(0, 2), 20);
  }

  // Pools of empty sections end at one address: the first of them is taken.
  private static void promise10EmptySectionPools() {
    VeneerYard x = new VeneerYard();
    x.kind(0, 1, 4);
    x.kind(7, 1, 9);
    x.thunks(4, 0, 7);
    x.section(5, 0, false);
    x.section(0, 0, true);
    x.section(0, 0, true);
    x.section(100, 0, false);
    x.label(3, 100);
    x.branch(0, 0, 0, 0);
    due("lay", x.lay(), 0);
    due("pool", x.thunk(0, 0), 1);
    due("end of pool 1", x.address(4, 1), 9);
    due("section 2", x.address(0, 2), 9);
    due("end of pool 2", x.address(4, 2), 9);
  }

  // A pool's next thunk would be at 24, but section 1 follows the last one right away.
  private static void promise10NothingBehindLastThunk() {
    VeneerYard x = new VeneerYard();
    x.kind(0, 1, 6);
    x.kind(7, 1, 9);
    x.thunks(3, 3, 7);
    x.section(10, 0, true);
    x.section(100, 0, true);
    x.label(1, 100);
    x.branch(0, 0, 0, 0);
    due("lay", x.lay(), 0);
    due("thunk", x.address(3, 0), 16);
    due("end of pool 0", x.address(4, 0), 24);
    due("section 1", x.address(0, 1), 19);
    due("end of pool 1", x.address(4, 1), 120);
    due("end of all", x.count(7), 119);
    due("bytes between", x.count(6), 6);
    x.resize(1, 101);
    x.label(1, 101);
    x.label(0, 0);
    x.branch(1, 100, 0, 2);
    due("lay with a thunk at the end", x.lay(), 0);
    due("end of all", x.count(7), 123);
    due("end of pool 1", x.address(4, 1), 128);
  }

  private static void promise10LaysOnlyOnCall() {
    VeneerYard x = tieYard(5);
    x.far();
    due("rounds", x.count(0), 0);
    due("route", x.route(0, 0), NONE);
    due("section", x.address(0, 0), NOWHERE);
    VeneerYard empty = new VeneerYard();
    due("lay of nothing", empty.lay(), 0);
    due("rounds of nothing", empty.count(0), 1);
    due("bytes of nothing", empty.count(7), 0);
    due("at the base of nothing", empty.at(0), NONE);
  }

  private static void promise11Counts() {
    VeneerYard x = paddedYard();
    due("lay", x.lay(), 1);
    int[] want = {4, 3, 2, 2, 1, 1, 18, 63, NONE, NONE, 2, 3, 5, 1, 0, NONE};
    for (int what = 0; what < want.length; what++) due("count(" + what + ")", x.count(what), want[what]);
    due("count(-1)", x.count(-1), NONE);
    due("count of the least", x.count(LOW), NONE);
    due("count of the greatest", x.count(HIGH), NONE);
  }

  private static void promise11CountTold() {
    VeneerYard x = paddedYard();
    x.lay();
    x.section(1, 0, true);
    x.label(2, 0);
    x.branch(2, 0, 0, 0);
    due("sections", x.count(10), 3);
    due("labels", x.count(11), 4);
    due("branches", x.count(12), 6);
    due("pools", x.count(13), 2);
    due("thunks as laid out", x.count(1), 3);
    due("bytes as laid out", x.count(7), 63);
    due("bytes between as laid out", x.count(6), 18);
    due("direct ones as laid out", x.count(2), 2);
  }

  private static void promise11CountTelling() {
    VeneerYard x = new VeneerYard();
    due("at first", x.count(14), 0);
    due("after section", telling(x, x.section(20, 0, true) == 0), 1);
    due("after label", telling(x, x.label(0, 5) == 0), 1);
    due("after kind", telling(x, x.kind(0, 1, 4)), 1);
    due("after branch", telling(x, x.branch(0, 5, 0, 0) == 0), 1);
    due("after thunks", telling(x, x.thunks(4, 0, 0)), 1);
    due("after base", telling(x, x.base(9)), 1);
    due("after resize", telling(x, x.resize(0, 30)), 1);
    due("after retarget", telling(x, x.retarget(0, 0)), 1);
    due("after refused section", telling(x, x.section(-1, 0, true) == NONE), 0);
    due("after refused label", telling(x, x.label(1, 0) == NONE), 0);
    due("after refused kind", telling(x, !x.kind(9, 1, 4)), 0);
    due("after refused branch", telling(x, x.branch(0, 0, 0, 1) == NONE), 0);
    due("after refused thunks", telling(x, !x.thunks(0, 0, 0)), 0);
    due("after refused base", telling(x, !x.base(-1)), 0);
    due("after refused resize", telling(x, !x.resize(0, 1)), 0);
    due("after refused retarget", telling(x, !x.retarget(0, 1)), 0);
    x.far();
    x.walk(0);
    due("after asking", x.count(14), 0);
  }

  // Whether a call was noted as telling; lays out, so that the next call starts from 0.
  private static int telling(VeneerYard x, boolean asExpected) {
    due("the call itself", asExpected, true);
    int told = x.count(14);
    x.lay();
    due("after lay", x.count(14), 0);
    return told;
  }

  private static void promise12Addresses() {
    VeneerYard x = paddedYard();
    x.lay();
    due("section 0", x.address(0, 0), 8);
    due("section 1", x.address(0, 1), 48);
    due("section 2", x.address(0, 2), NOWHERE);
    due("section -1", x.address(0, -1), NOWHERE);
    due("label 0", x.address(1, 0), 48);
    due("label 1", x.address(1, 1), 68);
    due("label 2", x.address(1, 2), 12);
    due("label 3", x.address(1, 3), NOWHERE);
    due("label -1", x.address(1, -1), NOWHERE);
    due("branch 0", x.address(2, 0), 12);
    due("branch 4", x.address(2, 4), 48);
    due("branch 5", x.address(2, 5), NOWHERE);
    due("branch -1", x.address(2, -1), NOWHERE);
    due("thunk 0", x.address(3, 0), 20);
    due("thunk 1", x.address(3, 1), 28);
    due("thunk 2", x.address(3, 2), 36);
    due("thunk 3", x.address(3, 3), NOWHERE);
    due("thunk -1", x.address(3, -1), NOWHERE);
    due("pool 0", x.address(4, 0), 44);
    due("no pool behind section 1", x.address(4, 1), NOWHERE);
    due("pool 2", x.address(4, 2), NOWHERE);
    due("pool -1", x.address(4, -1), NOWHERE);
    due("what 5", x.address(5, 0), NOWHERE);
    due("what -1", x.address(-1, 0), NOWHERE);
    for (int what = 0; what <= 4; what++) {
      due("greatest k of " + what, x.address(what, HIGH), NOWHERE);
      due("least k of " + what, x.address(what, LOW), NOWHERE);
    }
  }

  private static void promise12AddressesStay() {
    VeneerYard x = paddedYard();
    x.lay();
    x.base(1000);
    x.resize(0, 500);
    x.thunks(64, 6, 0);
    x.section(7, 0, true);
    x.label(2, 1);
    x.branch(2, 1, 0, 3);
    due("section 1", x.address(0, 1), 48);
    due("section 2", x.address(0, 2), NOWHERE);
    due("label 1", x.address(1, 1), 68);
    due("label 3", x.address(1, 3), NOWHERE);
    due("branch 3", x.address(2, 3), 49);
    due("branch 5", x.address(2, 5), NOWHERE);
    due("thunk 1", x.address(3, 1), 28);
    due("pool 0", x.address(4, 0), 44);
    due("pool 2", x.address(4, 2), NOWHERE);
    due("route of branch 5", x.route(5, 0), NONE);
    due("code of branch 5", x.encoded(0, 5), NONE);
    due("walk of branch 5", x.walk(5), NOWHERE);
    due("at", x.at(28), 2001);
    due("ahead of the old base", x.at(4), NONE);
    x.lay();
    due("section 0 anew", x.address(0, 0), 1000);
    due("section 2 anew", x.address(0, 2), 1524);
  }

  private static void promise12HighAddresses() {
    VeneerYard x = new VeneerYard();
    x.base(HIGH);
    for (int s = 0; s < 40; s++) x.section(1000000, 12, true);
    x.label(39, 1000000);
    x.label(0, 0);
    x.kind(0, 8, 30);
    x.kind(1, 1, 30);
    x.branch(0, 0, 1, 0);
    x.branch(39, 999999, 1, 1);
    x.branch(0, 0, 0, 0);
    due("lay", x.lay(), 0);
    due("section 39", x.address(0, 39), 2147483648L + 39L * 1003520L);
    due("label 0", x.address(1, 0), 2147483648L + 39L * 1003520L + 1000000L);
    due("bytes", x.count(7), 1 + 39 * 1003520 + 1000000);
    due("bytes between", x.count(6), 1 + 39 * 3520);
    due("walk ahead", x.walk(0), x.address(1, 0));
    due("walk back", x.walk(1), 2147483648L);
    due("code ahead", x.encoded(0, 0), 39 * 1003520 + 1000000);
    due("code back", x.encoded(0, 1), (1 << 30) - (39 * 1003520 + 999999));
    due("code in steps of 8", x.encoded(0, 2), (39 * 1003520 + 1000000) / 8);
    due("last byte", x.at(x.address(1, 0) - 1), 1039);
    due("end", x.at(x.address(1, 0)), NONE);
  }

  private static void promise13Routes() {
    VeneerYard x = paddedYard();
    x.lay();
    int[] way = {1, 1, 0, 0, 2};
    int[] thunk = {0, 2, NONE, NONE, NONE};
    for (int b = 0; b < way.length; b++) {
      due("route(" + b + ", 0)", x.route(b, 0), way[b]);
      due("route(" + b + ", 1)", x.route(b, 1), thunk[b]);
      due("route(" + b + ", 2)", x.route(b, 2), NONE);
      due("route(" + b + ", -1)", x.route(b, -1), NONE);
    }
    due("route(5, 0)", x.route(5, 0), NONE);
    due("route(-1, 0)", x.route(-1, 0), NONE);
    due("greatest", x.route(HIGH, 1), NONE);
    due("least", x.route(LOW, 1), NONE);
  }

  private static void promise14ThunkRows() {
    VeneerYard x = paddedYard();
    x.lay();
    int[][] want = {{0, 1, 1, 0, 1, 0, NONE}, {0, 2, 2, 4, 0, 1, NONE},
        {0, 0, 3, 1, 1, 2, NONE}};
    for (int k = 0; k < want.length; k++) {
      for (int what = 0; what < want[k].length; what++) {
        due("thunk(" + k + ", " + what + ")", x.thunk(k, what), want[k][what]);
      }
      due("thunk(" + k + ", -1)", x.thunk(k, -1), NONE);
    }
    due("thunk 3", x.thunk(3, 0), NONE);
    due("thunk -1", x.thunk(-1, 0), NONE);
    due("greatest", x.thunk(HIGH, 0), NONE);
    due("least", x.thunk(LOW, 0), NONE);
    VeneerYard many = new VeneerYard();
    many.kind(0, 1, 12);
    many.kind(7, 1, 20);
    many.thunks(8, 3, 7);
    many.section(100, 0, true);
    many.section(9000, 0, false);
    for (int l = 0; l < 60; l++) many.label(1, 8900 + l);
    for (int b = 0; b < 60; b++) many.branch(0, b, 0, 59 - b);
    due("lay with 60 thunks in a pool", many.lay(), 0);
    due("thunks", many.count(1), 60);
    for (int k = 0; k < 60; k++) {
      due("label of thunk " + k, many.thunk(k, 1), 59 - k);
      due("place of thunk " + k, many.thunk(k, 5), k);
      due("address of thunk " + k, many.address(3, k), 104 + 8 * k);
      due("wanter of thunk " + k, many.thunk(k, 3), k);
    }
  }

  private static void promise15Codes() {
    VeneerYard x = paddedYard();
    x.lay();
    int[] want = {2, 7, 11, 15, NONE};
    for (int b = 0; b < want.length; b++) due("encoded(0, " + b + ")", x.encoded(0, b), want[b]);
    due("encoded(1, 0)", x.encoded(1, 0), 12);
    due("encoded(1, 1)", x.encoded(1, 1), 60);
    due("encoded(1, 2)", x.encoded(1, 2), 3);
    due("encoded(1, 3)", x.encoded(1, 3), NONE);
    due("encoded(1, -1)", x.encoded(1, -1), NONE);
    due("encoded(0, 5)", x.encoded(0, 5), NONE);
    due("encoded(0, -1)", x.encoded(0, -1), NONE);
    due("encoded(2, 0)", x.encoded(2, 0), NONE);
    due("encoded(-1, 0)", x.encoded(-1, 0), NONE);
    due("greatest", x.encoded(0, HIGH), NONE);
    due("least of thunks", x.encoded(1, LOW), NONE);
    x.kind(0, 8, 30);
    x.kind(1, 8, 30);
    x.kind(3, 8, 30);
    due("as laid out", x.encoded(0, 2), 11);
    due("thunk's as laid out", x.encoded(1, 0), 12);
    due("walk as laid out", x.walk(0), 68);
  }

  private static void promise15CodesOfEachKind() {
    int[] steps = {1, 2, 4, 8};
    for (int step : steps) {
      for (int bits = 4; bits <= 16; bits++) {
        VeneerYard x = new VeneerYard();
        int half = 1 << (bits - 1);
        x.kind(0, step, bits);
        x.section(half * step + 1, 0, false);
        x.label(0, 0);
        x.label(0, half * step);
        x.label(0, (half - 1) * step);
        x.branch(0, half * step, 0, 0);
        x.branch(0, 0, 0, 1);
        x.branch(0, 0, 0, 2);
        x.branch(0, 0, 0, 0);
        x.branch(0, step, 0, 0);
        due("lay", x.lay(), 1);
        due("farthest back", x.encoded(0, 0), half);
        due("one too far ahead", x.encoded(0, 1), NONE);
        due("farthest ahead", x.encoded(0, 2), half - 1);
        due("on the spot", x.encoded(0, 3), 0);
        due("one back", x.encoded(0, 4), 2 * half - 1);
        due("walk back", x.walk(0), 0);
        due("walk ahead", x.walk(2), (half - 1) * step);
        due("walk one back", x.walk(4), 0);
      }
    }
  }

  // Thunk 0 at 4 reaches its label at 19, till thunk 1 in pool 1 moves that to 23.
  private static void promise15StrandedThunk() {
    VeneerYard x = new VeneerYard();
    x.kind(0, 1, 4);
    x.kind(7, 1, 5);
    x.thunks(4, 0, 7);
    x.section(4, 0, true);
    x.section(8, 0, true);
    x.section(3, 0, false);
    x.label(2, 3);
    x.label(0, 0);
    x.branch(0, 0, 0, 0);
    due("lay with thunk 0 alone", x.lay(), 0);
    due("farthest ahead", x.encoded(1, 0), 15);
    x.branch(1, 7, 0, 1);
    due("lay with thunk 1, too", x.lay(), 1);
    due("rounds", x.count(0), 2);
    due("thunks", x.count(1), 2);
    due("thunk 0", x.address(3, 0), 4);
    due("its label", x.address(1, 0), 23);
    due("its code", x.encoded(1, 0), NONE);
    due("its users", x.thunk(0, 4), 0);
    due("its branch", x.route(0, 0), 2);
    due("its branch's code", x.encoded(0, 0), NONE);
    due("its branch's walk", x.walk(0), NOWHERE);
    due("thunk 1, farthest back", x.encoded(1, 1), 16);
    due("thunk by which none goes", x.count(5), 1);
  }

  private static void promise16WhatIsAt() {
    VeneerYard x = paddedYard();
    due("ahead of any lay", x.at(8), NONE);
    x.lay();
    int[] from = {5, 8, 18, 20, 25, 28, 33, 36, 41, 48, 68};
    int[] what = {0, 1000, 0, 2000, 0, 2001, 0, 2002, 0, 1001, NONE};
    due("ahead of the base", x.at(4), NONE);
    for (int i = 0; i + 1 < from.length; i++) {
      for (int address = from[i]; address < from[i + 1]; address++) {
        due("at(" + address + ")", x.at(address), what[i]);
      }
    }
    due("the end", x.at(68), NONE);
    due("behind the end", x.at(69), NONE);
    due("least", x.at(Long.MIN_VALUE), NONE);
    due("greatest", x.at(Long.MAX_VALUE), NONE);
    due("-1", x.at(-1), NONE);
    due("2^32 and 8", x.at(4294967304L), NONE);
    x.thunks(1, 0, 0);
    x.resize(1, 1000);
    due("thunk as laid out", x.at(24), 2000);
    due("end as laid out", x.at(68), NONE);
    VeneerYard empty = new VeneerYard();
    empty.section(4, 0, false);
    empty.section(0, 3, false);
    empty.section(4, 4, false);
    empty.lay();
    due("an empty section has no bytes", empty.at(8), 0);
    due("behind it", empty.at(16), 1002);
  }

  private static void promise17Walks() {
    VeneerYard x = paddedYard();
    due("ahead of any lay", x.walk(0), NOWHERE);
    x.lay();
    long[] want = {68, 48, 12, 48, NOWHERE, NOWHERE};
    for (int b = 0; b < want.length; b++) due("walk(" + b + ")", x.walk(b), want[b]);
    due("walk(-1)", x.walk(-1), NOWHERE);
    due("greatest", x.walk(HIGH), NOWHERE);
    due("least", x.walk(LOW), NOWHERE);
  }

  // A label at its section's end may have a thunk's address; the walk of a
  // direct branch ends there all the same.
  private static void promise17WalkEndsAtLabel() {
    VeneerYard x = tieYard(5);
    x.label(0, 10);
    x.branch(0, 2, 0, 1);
    due("lay", x.lay(), 0);
    due("label", x.address(1, 1), 10);
    due("thunk", x.address(3, 0), 10);
    due("route", x.route(1, 0), 0);
    due("walk", x.walk(1), 10);
    due("walk by the thunk", x.walk(0), 124);
  }

  private static void promise18Fars() {
    VeneerYard x = tieYard(5);
    due("far", x.far(), 1);
    due("lay", x.lay(), 0);
    due("far, thunks or not", x.far(), 1);
    due("thunks are still there", x.count(1), 1);
    due("addresses are still there", x.address(0, 1), 14);
    x.branch(0, 0, 0, 0);
    due("one more", x.far(), 2);
    x.retarget(0, x.label(1, 5));
    due("one less", x.far(), 1);
    x.kind(0, 1, 9);
    due("with a longer reach", x.far(), 0);
    due("nothing laid out by it", x.route(1, 0), NONE);
    due("still told since", x.count(14), 1);
    VeneerYard near = tieYard(5);
    near.branch(1, 9, 0, near.label(0, 0));
    near.branch(1, 6, 0, near.label(0, 0));
    near.lay();
    due("a thunk has moved branch 2 out of its reach", near.route(2, 0), 1);
    due("without thunks it would be near", near.far(), 2);
    VeneerYard edge = new VeneerYard();
    edge.kind(0, 8, 4);
    edge.section(1, 0, true);
    edge.section(60, 3, true);
    edge.label(1, 56);
    edge.label(1, 48);
    edge.branch(0, 0, 0, 0);
    edge.branch(0, 0, 0, 1);
    due("64 ahead, 56 ahead in steps of 8", edge.far(), 1);
    edge.base(1);
    due("section 0 at 1 is no multiple of 8 away", edge.far(), 2);
  }
}
