import java.util.ArrayList;
import java.util.List;
import java.util.function.ToLongFunction;

// Made-up runs of calls, each answer held against a model that follows the
// document word by word, without regard to speed.
public final class ModelTests {
  private static final long NOWHERE = Long.MIN_VALUE;

  record Section(int size, int align, boolean pool) { }

  record Label(int section, int offset) { }

  record Kind(int step, int bits) {
    boolean reaches(long x, long y) {
      long way = y - x;
      long half = (long) Math.pow(2, bits - 1);
      return way % step == 0 && way >= -half * step && way <= (half - 1) * step;
    }

    long code(long x, long y) {
      return Math.floorMod((y - x) / step, (long) Math.pow(2, bits));
    }
  }

  record Branch(int section, int offset, int kind, int label) { }

  record Thunk(int section, int label, int round, int wanter) { }

  // What is told, with immutable parts, so that a copy of the lists is a copy of all.
  static final class Told {
    List<Section> sections = new ArrayList<>();
    List<Label> labels = new ArrayList<>();
    Kind[] kinds = new Kind[8];
    List<Branch> branches = new ArrayList<>();
    int thunkSize = 0;
    int thunkAlign = 0;
    int thunkKind = -1;
    long base = 0;

    Told copy() {
      Told t = new Told();
      t.sections.addAll(sections);
      t.labels.addAll(labels);
      t.kinds = kinds.clone();
      t.branches.addAll(branches);
      t.thunkSize = thunkSize;
      t.thunkAlign = thunkAlign;
      t.thunkKind = thunkKind;
      t.base = base;
      return t;
    }
  }

  // Addresses for a list of thunks, found byte by byte where an align asks for it.
  static final class Places {
    final Told told;
    final List<Thunk> thunks;
    final long[] section = new long[40];
    final long[] end = new long[40];
    final long[] thunk;
    final int[] rank;
    long last;

    Places(Told told, List<Thunk> thunks) {
      this.told = told;
      this.thunks = thunks;
      thunk = new long[thunks.size()];
      rank = new int[thunks.size()];
      last = told.base;
      for (int s = 0; s < told.sections.size(); s++) place(s);
    }

    private void place(int s) {
      section[s] = up(last, told.sections.get(s).align());
      last = section[s] + told.sections.get(s).size();
      int ahead = 0;
      for (int t = 0; t < thunks.size(); t++) {
        if (thunks.get(t).section() != s) continue;
        thunk[t] = up(last, told.thunkAlign);
        last = thunk[t] + told.thunkSize;
        rank[t] = ahead++;
      }
      end[s] = told.thunkSize == 0 ? last : up(last, told.thunkAlign);
    }

    private static long up(long address, int power) {
      long multiple = 1L << power;
      while (address % multiple != 0) address++;
      return address;
    }

    long label(int l) {
      return section[told.labels.get(l).section()] + told.labels.get(l).offset();
    }

    long branch(int b) {
      return section[told.branches.get(b).section()] + told.branches.get(b).offset();
    }

    Kind kindOf(int b) {
      return told.kinds[told.branches.get(b).kind()];
    }

    Kind thunkKind() {
      return told.kinds[told.thunkKind];
    }

    boolean direct(int b) {
      return kindOf(b).reaches(branch(b), label(told.branches.get(b).label()));
    }

    int best(int b) {
      int best = -1;
      for (int t = 0; t < thunks.size(); t++) {
        if (thunks.get(t).label() != told.branches.get(b).label()) continue;
        if (!kindOf(b).reaches(branch(b), thunk[t])) continue;
        if (!thunkReaches(t)) continue;
        if (best < 0) best = t;
        long d = Math.abs(thunk[t] - branch(b));
        long e = Math.abs(thunk[best] - branch(b));
        if (d < e || d == e && thunk[t] < thunk[best]) best = t;
      }
      return best;
    }

    boolean thunkReaches(int t) {
      return thunkKind().reaches(thunk[t], label(thunks.get(t).label()));
    }
  }

  static final class Model {
    Told told = new Told();
    Told laid = new Told();
    Places at = new Places(laid, new ArrayList<>());
    int rounds = 0;
    boolean since = false;
    int[] way = new int[200];
    int[] by = new int[200];

    private boolean did(boolean done) {
      since = since || done;
      return done;
    }

    int section(int size, int align, boolean pool) {
      boolean fits = told.sections.size() < 40 && size >= 0 && size <= 1_000_000 && align >= 0 && align <= 12;
      if (!did(fits)) return -1;
      told.sections.add(new Section(size, align, pool));
      return told.sections.size() - 1;
    }

    private static boolean in(int k, List<?> list) {
      return k >= 0 && k < list.size();
    }

    int label(int s, int offset) {
      boolean fits = told.labels.size() < 60 && in(s, told.sections) && offset >= 0
          && offset <= told.sections.get(s).size();
      if (!did(fits)) return -1;
      told.labels.add(new Label(s, offset));
      return told.labels.size() - 1;
    }

    private boolean isTold(int kind) {
      return kind >= 0 && kind <= 7 && told.kinds[kind] != null;
    }

    boolean kind(int k, int step, int bits) {
      boolean fits = k >= 0 && k <= 7 && List.of(1, 2, 4, 8).contains(step) && bits >= 4 && bits <= 30;
      if (fits) told.kinds[k] = new Kind(step, bits);
      return did(fits);
    }

    int branch(int s, int offset, int kind, int label) {
      boolean fits = told.branches.size() < 200 && in(s, told.sections) && offset >= 0
          && offset <= told.sections.get(s).size() - 1 && isTold(kind) && in(label, told.labels);
      if (!did(fits)) return -1;
      told.branches.add(new Branch(s, offset, kind, label));
      return told.branches.size() - 1;
    }

    boolean thunks(int size, int align, int kind) {
      boolean fits = size >= 1 && size <= 64 && align >= 0 && align <= 6 && isTold(kind);
      if (!did(fits)) return false;
      told.thunkSize = size;
      told.thunkAlign = align;
      told.thunkKind = kind;
      return true;
    }

    boolean base(int address) {
      if (address >= 0) told.base = address;
      return did(address >= 0);
    }

    boolean resize(int s, int size) {
      if (!in(s, told.sections) || size < 0 || size > 1_000_000) return false;
      for (Label l : told.labels) if (l.section() == s && l.offset() > size) return false;
      for (Branch b : told.branches) if (b.section() == s && b.offset() > size - 1) return false;
      Section old = told.sections.get(s);
      told.sections.set(s, new Section(size, old.align(), old.pool()));
      return did(true);
    }

    boolean retarget(int b, int label) {
      if (!in(b, told.branches) || !in(label, told.labels)) return false;
      Branch old = told.branches.get(b);
      told.branches.set(b, new Branch(old.section(), old.offset(), old.kind(), label));
      return did(true);
    }

    int lay() {
      since = false;
      laid = told.copy();
      List<Thunk> made = new ArrayList<>();
      rounds = 0;
      while (true) {
        rounds++;
        at = new Places(laid, made);
        List<Thunk> wanted = wanted();
        if (wanted.isEmpty()) break;
        made = new ArrayList<>(made);
        made.addAll(wanted);
      }
      for (int b = 0; b < laid.branches.size(); b++) {
        by[b] = at.direct(b) ? -1 : at.best(b);
        way[b] = at.direct(b) ? 0 : by[b] >= 0 ? 1 : 2;
      }
      return ways(2);
    }

    private int ways(int which) {
      int n = 0;
      for (int b = 0; b < laid.branches.size(); b++) if (way[b] == which) n++;
      return n;
    }

    private List<Thunk> wanted() {
      List<Thunk> wanted = new ArrayList<>();
      if (laid.thunkSize == 0) return wanted;
      for (int b = 0; b < laid.branches.size(); b++) {
        if (at.direct(b) || at.best(b) >= 0) continue;
        int label = laid.branches.get(b).label();
        List<Integer> pools = poolsFor(b, label);
        boolean already = false;
        int nearest = -1;
        for (int s : pools) {
          for (Thunk w : wanted) if (w.section() == s && w.label() == label) already = true;
          long d = Math.abs(at.end[s] - at.branch(b));
          if (nearest < 0 || d < Math.abs(at.end[nearest] - at.branch(b))) nearest = s;
        }
        if (!already && nearest >= 0) wanted.add(new Thunk(nearest, label, rounds, b));
      }
      return wanted;
    }

    private List<Integer> poolsFor(int b, int label) {
      List<Integer> pools = new ArrayList<>();
      for (int s = 0; s < laid.sections.size(); s++) {
        if (!laid.sections.get(s).pool()) continue;
        boolean has = false;
        for (Thunk t : at.thunks) if (t.section() == s && t.label() == label) has = true;
        if (has || !at.kindOf(b).reaches(at.branch(b), at.end[s])) continue;
        if (at.thunkKind().reaches(at.end[s], at.label(label))) pools.add(s);
      }
      return pools;
    }

    int count(int what) {
      switch (what) {
        case 0: return rounds;
        case 1: return at.thunks.size();
        case 2: return ways(0);
        case 3: return ways(1);
        case 4: return ways(2);
        case 5: return idle();
        case 6: return between();
        case 7: return (int) (at.last - laid.base);
        case 10: return told.sections.size();
        case 11: return told.labels.size();
        case 12: return told.branches.size();
        case 13: return (int) told.sections.stream().filter(Section::pool).count();
        case 14: return since ? 1 : 0;
        default: return -1;
      }
    }

    private int users(int t) {
      int n = 0;
      for (int b = 0; b < laid.branches.size(); b++) if (way[b] == 1 && by[b] == t) n++;
      return n;
    }

    private int idle() {
      int n = 0;
      for (int t = 0; t < at.thunks.size(); t++) if (users(t) == 0) n++;
      return n;
    }

    private int between() {
      long n = 0;
      long seen = laid.base;
      for (int s = 0; s < laid.sections.size(); s++) {
        n += at.section[s] - seen;
        seen = at.section[s] + laid.sections.get(s).size();
        for (int t = 0; t < at.thunks.size(); t++) {
          if (at.thunks.get(t).section() != s) continue;
          n += at.thunk[t] - seen;
          seen = at.thunk[t] + laid.thunkSize;
        }
      }
      return (int) n;
    }

    long address(int what, int k) {
      if (what == 0 && in(k, laid.sections)) return at.section[k];
      if (what == 1 && in(k, laid.labels)) return at.label(k);
      if (what == 2 && in(k, laid.branches)) return at.branch(k);
      if (what == 3 && in(k, at.thunks)) return at.thunk[k];
      if (what == 4 && in(k, laid.sections) && laid.sections.get(k).pool()) return at.end[k];
      return NOWHERE;
    }

    int route(int b, int what) {
      if (!in(b, laid.branches)) return -1;
      return what == 0 ? way[b] : what == 1 ? by[b] : -1;
    }

    int thunk(int k, int what) {
      if (!in(k, at.thunks)) return -1;
      Thunk t = at.thunks.get(k);
      switch (what) {
        case 0: return t.section();
        case 1: return t.label();
        case 2: return t.round();
        case 3: return t.wanter();
        case 4: return users(k);
        case 5: return at.rank[k];
        default: return -1;
      }
    }

    int encoded(int which, int k) {
      if (which == 0 && in(k, laid.branches) && way[k] != 2) {
        long to = way[k] == 0 ? at.label(laid.branches.get(k).label()) : at.thunk[by[k]];
        return (int) at.kindOf(k).code(at.branch(k), to);
      }
      if (which == 1 && in(k, at.thunks) && at.thunkReaches(k)) {
        return (int) at.thunkKind().code(at.thunk[k], at.label(at.thunks.get(k).label()));
      }
      return -1;
    }

    int at(long address) {
      if (address < laid.base || address >= at.last) return -1;
      for (int s = 0; s < laid.sections.size(); s++) {
        long from = at.section[s];
        if (address >= from && address < from + laid.sections.get(s).size()) return 1000 + s;
      }
      for (int t = 0; t < at.thunks.size(); t++) {
        if (address >= at.thunk[t] && address < at.thunk[t] + laid.thunkSize) return 2000 + t;
      }
      return 0;
    }

    long walk(int b) {
      if (!in(b, laid.branches) || way[b] == 2) return NOWHERE;
      return at.label(laid.branches.get(b).label());
    }

    int far() {
      Places plain = new Places(told, new ArrayList<>());
      int n = 0;
      for (int b = 0; b < told.branches.size(); b++) if (!plain.direct(b)) n++;
      return n;
    }
  }

  // The same numbers in every run of the tests.
  static final class Dice {
    private long state;

    Dice(long seed) {
      state = seed;
    }

    int below(int n) {
      state = state * 6364136223846793005L + 1442695040888963407L;
      return (int) Math.floorMod((state >>> 33) ^ (state >>> 45), (long) n);
    }

    int from(int low, int high) {
      return low + below(high - low + 1);
    }

    int wild() {
      int[] some = {Integer.MIN_VALUE, -1000, -2, -1, 0, 1, 7, 8, 39, 40, 59, 60, 199, 200, 1_000_001, Integer.MAX_VALUE};
      return some[below(some.length)];
    }
  }

  private static int wrong = 0;
  private static long answers = 0;
  private static int mostRounds = 0;
  private static int mostThunks = 0;
  private static int idleThunks = 0;
  private static int stranded = 0;

  private final int run;
  private final Dice dice;
  private final int maxSize;
  private final int maxAlign;
  private final int minBits;
  private final int poolsOfTen;
  private final Model m = new Model();
  private VeneerYard x = new VeneerYard();
  private int used = 0;
  // An object answers 512 calls: when they are used up, the calls that told
  // something, or laid out, bring another one to where it was.
  private final List<ToLongFunction<VeneerYard>> done = new ArrayList<>();

  private ModelTests(int run) {
    this.run = run;
    dice = new Dice(run * 7919L + 17);
    int[] sizes = {6, 20, 60, 200, 3000};
    maxSize = sizes[dice.below(sizes.length)];
    maxAlign = dice.below(3) == 0 ? 12 : dice.below(4);
    minBits = dice.from(4, 7);
    poolsOfTen = dice.from(2, 10);
  }

  private void same(String call, long got, long want) {
    answers++;
    if (got == want) return;
    wrong++;
    if (wrong < 40) System.out.println("run " + run + ": " + call + " answered " + got + ", due is " + want);
  }

  private static long number(boolean b) {
    return b ? 1 : 0;
  }

  // The object for one call more.
  private VeneerYard yard() {
    if (used == 512) renew();
    used++;
    return x;
  }

  private long tell(ToLongFunction<VeneerYard> call) {
    long answer = call.applyAsLong(yard());
    done.add(call);
    return answer;
  }

  private void renew() {
    x = new VeneerYard();
    for (ToLongFunction<VeneerYard> call : done) call.applyAsLong(x);
    used = done.size();
  }

  private void section() {
    int size = dice.below(12) == 0 ? dice.wild() : dice.below(5) == 0 ? 0 : dice.below(maxSize + 1);
    int align = dice.below(20) == 0 ? dice.wild() : dice.below(maxAlign + 1);
    boolean pool = dice.below(10) < poolsOfTen;
    same("section", tell(y -> y.section(size, align, pool)), m.section(size, align, pool));
  }

  private int someSection() {
    return dice.below(25) == 0 ? dice.wild() : dice.below(Math.max(1, m.told.sections.size()));
  }

  private int offsetIn(int s) {
    if (dice.below(25) == 0) return dice.wild();
    if (s < 0 || s >= m.told.sections.size()) return 0;
    int size = m.told.sections.get(s).size();
    return dice.below(6) == 0 ? size : dice.below(size + 1);
  }

  private int someLabel() {
    return dice.below(25) == 0 ? dice.wild() : dice.below(Math.max(1, m.told.labels.size()));
  }

  private void label() {
    int s = someSection();
    int offset = offsetIn(s);
    same("label", tell(y -> y.label(s, offset)), m.label(s, offset));
  }

  private void kind() {
    int k = dice.below(12) == 0 ? dice.wild() : dice.below(8);
    int step = dice.below(12) == 0 ? dice.wild() : dice.below(2) == 0 ? 1 : 1 << dice.below(4);
    int bits = dice.below(12) == 0 ? dice.wild() : k >= 5 ? dice.from(6, 14) : dice.from(minBits, minBits + 2);
    same("kind", tell(y -> number(y.kind(k, step, bits))), number(m.kind(k, step, bits)));
  }

  private void branch() {
    int s = someSection();
    int offset = offsetIn(s);
    int kind = dice.below(25) == 0 ? dice.wild() : dice.below(5);
    int label = someLabel();
    same("branch", tell(y -> y.branch(s, offset, kind, label)), m.branch(s, offset, kind, label));
  }

  private void thunks() {
    int size = dice.below(15) == 0 ? dice.wild() : dice.below(8) == 0 ? dice.from(1, 64) : dice.from(1, 12);
    int align = dice.below(15) == 0 ? dice.wild() : dice.below(6) == 0 ? dice.below(7) : dice.below(4);
    int kind = dice.below(15) == 0 ? dice.wild() : dice.from(5, 7);
    same("thunks", tell(y -> number(y.thunks(size, align, kind))), number(m.thunks(size, align, kind)));
  }

  private void change() {
    int which = dice.below(10);
    if (which == 0) {
      int address = dice.below(4) == 0 ? dice.wild() : dice.below(5000);
      same("base", tell(y -> number(y.base(address))), number(m.base(address)));
    } else if (which < 4) {
      int s = someSection();
      int size = dice.below(12) == 0 ? dice.wild() : dice.below(maxSize * 2);
      same("resize", tell(y -> number(y.resize(s, size))), number(m.resize(s, size)));
    } else if (which < 7) {
      int b = dice.below(12) == 0 ? dice.wild() : dice.below(Math.max(1, m.told.branches.size()));
      int label = someLabel();
      same("retarget", tell(y -> number(y.retarget(b, label))), number(m.retarget(b, label)));
    } else if (which == 7) {
      thunks();
    } else if (which == 8) {
      kind();
    } else {
      branch();
    }
  }

  private void lay() {
    same("lay", tell(y -> y.lay()), m.lay());
    mostRounds = Math.max(mostRounds, m.rounds);
    mostThunks = Math.max(mostThunks, m.at.thunks.size());
    idleThunks += m.count(5);
    for (int t = 0; t < m.at.thunks.size(); t++) if (m.encoded(1, t) < 0) stranded++;
  }

  private void askAll() {
    for (int what = -1; what <= 16; what++) same("count(" + what + ")", yard().count(what), m.count(what));
    same("far", yard().far(), m.far());
    for (int k = -1; k <= 40; k++) {
      for (int what = 0; what <= 4; what += 4) same("address", yard().address(what, k), m.address(what, k));
    }
    for (int k = -1; k <= 60; k++) same("address(1, " + k + ")", yard().address(1, k), m.address(1, k));
    for (int b = -1; b <= 200; b++) {
      same("address(2, " + b + ")", yard().address(2, b), m.address(2, b));
      for (int what = -1; what <= 2; what++) same("route(" + b + ", " + what + ")", yard().route(b, what), m.route(b, what));
      same("encoded(0, " + b + ")", yard().encoded(0, b), m.encoded(0, b));
      same("walk(" + b + ")", yard().walk(b), m.walk(b));
    }
    for (int t = -1; t <= m.at.thunks.size(); t++) {
      same("address(3, " + t + ")", yard().address(3, t), m.address(3, t));
      same("encoded(1, " + t + ")", yard().encoded(1, t), m.encoded(1, t));
      for (int what = -1; what <= 6; what++) same("thunk(" + t + ", " + what + ")", yard().thunk(t, what), m.thunk(t, what));
    }
    int bytes = (int) (m.at.last - m.laid.base);
    for (int i = 0; i < 120; i++) {
      long address = m.laid.base - 3 + dice.below(bytes + 7);
      same("at(" + address + ")", yard().at(address), m.at(address));
    }
  }

  private void askWild() {
    int k = dice.wild();
    int what = dice.wild();
    same("count", yard().count(what), m.count(what));
    same("address", yard().address(what, k), m.address(what, k));
    same("route", yard().route(k, what), m.route(k, what));
    same("thunk", yard().thunk(k, what), m.thunk(k, what));
    same("encoded", yard().encoded(what, k), m.encoded(what, k));
    same("walk", yard().walk(k), m.walk(k));
    same("at", yard().at((long) k * 4294967296L + what), m.at((long) k * 4294967296L + what));
  }

  private void play() {
    int sections = dice.from(1, 42);
    int labels = dice.from(1, 62);
    int branches = dice.below(3) == 0 ? dice.from(150, 230) : dice.from(1, 60);
    askAll();
    for (int i = 0; i < 8; i++) kind();
    for (int i = 0; i < sections; i++) section();
    for (int i = 0; i < labels; i++) label();
    for (int i = 0; i < branches; i++) branch();
    if (dice.below(8) != 0) for (int i = 0; i < 3; i++) thunks();
    askWild();
    for (int turn = 0; turn < 4; turn++) {
      lay();
      askAll();
      askWild();
      for (int i = dice.from(1, 12); i > 0; i--) change();
      askAll();
    }
  }

  private static void atLeast(String what, int got, int want) {
    if (got >= want) return;
    wrong++;
    System.out.println("the runs are too tame: " + what + " " + got + ", wanted are " + want);
  }

  public static void main(String[] args) {
    int runs = args.length == 1 ? Integer.parseInt(args[0]) : 1500;
    for (int run = 0; run < runs; run++) new ModelTests(run).play();
    System.out.println(answers + " answers, " + wrong + " not as due (rounds up to " + mostRounds
        + ", thunks up to " + mostThunks + ", " + idleThunks + " idle, " + stranded + " stranded)");
    atLeast("rounds up to", mostRounds, 6);
    atLeast("thunks up to", mostThunks, 60);
    atLeast("idle thunks", idleThunks, 100);
    atLeast("stranded thunks", stranded, 20);
    if (wrong != 0) System.exit(1);
  }
}
