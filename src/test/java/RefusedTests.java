import java.util.ArrayList;
import java.util.List;
import java.util.function.Supplier;

// "What is refused (NONE, false) changes nothing": each call that may be
// refused is made, refused, in yards of every sort, and so are questions to
// which there is no answer. All questions must be answered behind it as ahead
// of it; and each call that tells, and lay(), must answer and do behind it what
// they answer and do without it. No object is used for more than 512 calls.
public final class RefusedTests {
  private static final int LOW = Integer.MIN_VALUE;
  private static final int HIGH = Integer.MAX_VALUE;

  // The fullest yard takes some 310 calls to make, and an object has 512 in all.
  private static final int QUESTIONS_AT_ONCE = 90;

  interface Call {
    long on(VeneerYard x);
  }

  record Named(String name, Call call) { }

  record Refused(int promise, String name, long answer, Call call) { }

  record Yard(String name, Supplier<VeneerYard> make, List<Refused> refused) { }

  private static int wrong = 0;
  private static long seen = 0;

  private static void same(Yard yard, Refused r, String call, long got, long want) {
    seen++;
    if (got == want) return;
    wrong++;
    if (wrong > 60) return;
    System.out.println("promise " + r.promise() + ": " + yard.name() + ", refused " + r.name() + ": "
        + call + " answered " + got + ", due is " + want);
  }

  public static void main(String[] args) {
    List<Named> questions = questions();
    List<Named> some = someQuestions();
    List<Named> tellers = tellers();
    int calls = 0;
    for (Yard yard : yards()) {
      List<List<Long>> without = new ArrayList<>();
      for (Named teller : tellers) without.add(goOn(yard.make().get(), teller, some));
      for (Refused r : yard.refused()) {
        calls++;
        sameQuestions(yard, r, questions);
        for (int i = 0; i < tellers.size(); i++) sameGoingOn(yard, r, tellers.get(i), some, without.get(i));
      }
    }
    System.out.println(calls + " refused calls, " + seen + " answers, " + wrong + " not as due");
    if (wrong != 0) System.exit(1);
  }

  private static void sameQuestions(Yard yard, Refused r, List<Named> questions) {
    for (int from = 0; from < questions.size(); from += QUESTIONS_AT_ONCE) {
      List<Named> part = questions.subList(from, Math.min(questions.size(), from + QUESTIONS_AT_ONCE));
      VeneerYard x = yard.make().get();
      List<Long> ahead = new ArrayList<>();
      for (Named q : part) ahead.add(q.call().on(x));
      same(yard, r, "itself", r.call().on(x), r.answer());
      for (int i = 0; i < part.size(); i++) {
        same(yard, r, part.get(i).name() + " behind it", part.get(i).call().on(x), ahead.get(i));
      }
    }
  }

  // What a teller answers, then lay(), then some questions, ahead of lay() and behind it.
  private static List<Long> goOn(VeneerYard x, Named teller, List<Named> some) {
    List<Long> answers = new ArrayList<>();
    answers.add(teller.call().on(x));
    for (Named q : some) answers.add(q.call().on(x));
    answers.add((long) x.lay());
    for (Named q : some) answers.add(q.call().on(x));
    return answers;
  }

  private static void sameGoingOn(Yard yard, Refused r, Named teller, List<Named> some, List<Long> without) {
    VeneerYard x = yard.make().get();
    r.call().on(x);
    List<Long> with = goOn(x, teller, some);
    for (int i = 0; i < without.size(); i++) {
      int q = i == 0 ? -1 : i <= some.size() ? i - 1 : i - some.size() - 2;
      String call = i == 0 ? teller.name() : i == some.size() + 1 ? teller.name() + ", lay()"
          : teller.name() + (i <= some.size() ? ", " : ", lay(), ") + some.get(q).name();
      same(yard, r, call, with.get(i), without.get(i));
    }
  }

  // The questions: all there are, with numbers around each bound.

  private static List<Named> questions() {
    List<Named> all = new ArrayList<>();
    for (int what = -1; what <= 15; what++) ask(all, "count", what);
    int[] numbers = {LOW, -1, 0, 1, 2, 3, 4, 5, 6, 19, 20, 38, 39, 40, 58, 59, 60, 100, 198, 199, 200, HIGH};
    for (int k : numbers) {
      for (int what = -1; what <= 5; what++) ask(all, "address", what, k);
      for (int what = -1; what <= 2; what++) ask(all, "route", k, what);
      for (int what = -1; what <= 6; what++) ask(all, "thunk", k, what);
      for (int which = -1; which <= 2; which++) ask(all, "encoded", which, k);
      ask(all, "walk", k);
    }
    for (int address = -1; address <= 90; address++) ask(all, "at", address);
    for (int address = 100; address <= 500; address += 9) ask(all, "at", address);
    ask(all, "far");
    return all;
  }

  private static List<Named> someQuestions() {
    List<Named> some = new ArrayList<>();
    int[] counts = {0, 1, 2, 3, 4, 5, 6, 7, 10, 11, 12, 13, 14};
    for (int what : counts) ask(some, "count", what);
    int[] numbers = {0, 1, 4, 5};
    for (int k : numbers) {
      for (int what = 0; what <= 4; what++) ask(some, "address", what, k);
      for (int what = 0; what <= 1; what++) ask(some, "route", k, what);
      for (int what = 0; what <= 5; what++) ask(some, "thunk", k, what);
      for (int which = 0; which <= 1; which++) ask(some, "encoded", which, k);
      ask(some, "walk", k);
    }
    int[][] last = {{0, 39}, {1, 59}, {2, 199}, {4, 39}};
    for (int[] l : last) ask(some, "address", l[0], l[1]);
    ask(some, "route", 199, 0);
    ask(some, "walk", 199);
    ask(some, "far");
    return some;
  }

  private static void ask(List<Named> all, String call, int... a) {
    all.add(named(call, a));
  }

  private static Named named(String call, int... a) {
    StringBuilder name = new StringBuilder(call).append('(');
    for (int i = 0; i < a.length; i++) name.append(i == 0 ? "" : ", ").append(a[i]);
    return new Named(name.append(')').toString(), question(call, a));
  }

  private static Call question(String call, int[] a) {
    switch (call) {
      case "count": return x -> x.count(a[0]);
      case "address": return x -> x.address(a[0], a[1]);
      case "route": return x -> x.route(a[0], a[1]);
      case "thunk": return x -> x.thunk(a[0], a[1]);
      case "encoded": return x -> x.encoded(a[0], a[1]);
      case "at": return x -> x.at(a[0]);
      case "walk": return x -> x.walk(a[0]);
      default: return x -> x.far();
    }
  }

  // The calls that tell something, with what is allowed in most yards; the first tells nothing.

  private static List<Named> tellers() {
    return List.of(
        new Named("nothing", x -> 0),
        new Named("section(7, 2, true)", x -> x.section(7, 2, true)),
        new Named("label(0, 0)", x -> x.label(0, 0)),
        new Named("kind(0, 2, 9)", x -> number(x.kind(0, 2, 9))),
        new Named("branch(0, 0, 0, 0)", x -> x.branch(0, 0, 0, 0)),
        new Named("thunks(6, 1, 0)", x -> number(x.thunks(6, 1, 0))),
        new Named("base(9)", x -> number(x.base(9))),
        new Named("resize(0, 30)", x -> number(x.resize(0, 30))),
        new Named("retarget(0, 0)", x -> number(x.retarget(0, 0))));
  }

  private static long number(boolean b) {
    return b ? 1 : 0;
  }

  // The refused calls.

  private static void section(List<Refused> to, int size, int align, boolean pool) {
    to.add(new Refused(2, "section(" + size + ", " + align + ", " + pool + ")", -1, x -> x.section(size, align, pool)));
  }

  private static void label(List<Refused> to, int section, int offset) {
    to.add(new Refused(3, "label(" + section + ", " + offset + ")", -1, x -> x.label(section, offset)));
  }

  private static void kind(List<Refused> to, int kind, int step, int bits) {
    to.add(new Refused(4, "kind(" + kind + ", " + step + ", " + bits + ")", 0, x -> number(x.kind(kind, step, bits))));
  }

  private static void branch(List<Refused> to, int section, int offset, int kind, int label) {
    to.add(new Refused(5, "branch(" + section + ", " + offset + ", " + kind + ", " + label + ")", -1,
        x -> x.branch(section, offset, kind, label)));
  }

  private static void thunks(List<Refused> to, int size, int align, int kind) {
    to.add(new Refused(6, "thunks(" + size + ", " + align + ", " + kind + ")", 0,
        x -> number(x.thunks(size, align, kind))));
  }

  private static void base(List<Refused> to, int address) {
    to.add(new Refused(7, "base(" + address + ")", 0, x -> number(x.base(address))));
  }

  private static void resize(List<Refused> to, int s, int size) {
    to.add(new Refused(8, "resize(" + s + ", " + size + ")", 0, x -> number(x.resize(s, size))));
  }

  private static void retarget(List<Refused> to, int b, int label) {
    to.add(new Refused(9, "retarget(" + b + ", " + label + ")", 0, x -> number(x.retarget(b, label))));
  }

  // A question to which there is no answer in any yard.
  private static void unanswered(List<Refused> to, int promise, String call, int... a) {
    long answer = call.equals("address") || call.equals("walk") ? Long.MIN_VALUE : -1;
    Named named = named(call, a);
    to.add(new Refused(promise, named.name(), answer, named.call()));
  }

  private static void allUnanswered(List<Refused> to) {
    for (int what : new int[] {LOW, -1, 8, 9, 15, HIGH}) unanswered(to, 11, "count", what);
    for (int what : new int[] {LOW, -1, 5, HIGH}) unanswered(to, 12, "address", what, 0);
    for (int what = 0; what <= 4; what++) unanswered(to, 12, "address", what, -1);
    unanswered(to, 12, "address", 0, 40);
    unanswered(to, 12, "address", 1, 60);
    unanswered(to, 12, "address", 2, 200);
    unanswered(to, 12, "address", 3, HIGH);
    unanswered(to, 12, "address", 4, 40);
    for (int b : new int[] {LOW, -1, 200, HIGH}) unanswered(to, 13, "route", b, 0);
    for (int what : new int[] {LOW, -1, 2, HIGH}) unanswered(to, 13, "route", 0, what);
    for (int k : new int[] {LOW, -1, HIGH}) unanswered(to, 14, "thunk", k, 0);
    for (int what : new int[] {LOW, -1, 6, HIGH}) unanswered(to, 14, "thunk", 0, what);
    for (int which : new int[] {LOW, -1, 2, HIGH}) unanswered(to, 15, "encoded", which, 0);
    for (int k : new int[] {LOW, -1, 200, HIGH}) unanswered(to, 15, "encoded", 0, k);
    for (int k : new int[] {LOW, -1, HIGH}) unanswered(to, 15, "encoded", 1, k);
    for (int address : new int[] {LOW, -1, HIGH}) unanswered(to, 16, "at", address);
    for (int b : new int[] {LOW, -1, 200, HIGH}) unanswered(to, 17, "walk", b);
  }

  // Those that are refused in any yard.
  private static List<Refused> always() {
    List<Refused> to = new ArrayList<>();
    allUnanswered(to);
    for (boolean pool : new boolean[] {false, true}) {
      for (int size : new int[] {LOW, -1, 1_000_001, HIGH}) section(to, size, 2, pool);
      for (int align : new int[] {LOW, -1, 13, 32, HIGH}) section(to, 5, align, pool);
    }
    for (int s : new int[] {LOW, -1, 40, HIGH}) label(to, s, 0);
    for (int offset : new int[] {LOW, -1, 1_000_001, HIGH}) label(to, 0, offset);
    for (int k : new int[] {LOW, -1, 8, HIGH}) kind(to, k, 1, 12);
    for (int step : new int[] {LOW, -1, 0, 3, 5, 7, 9, 16, HIGH}) kind(to, 0, step, 12);
    for (int bits : new int[] {LOW, -1, 0, 3, 31, HIGH}) kind(to, 0, 1, bits);
    for (int s : new int[] {LOW, -1, 40, HIGH}) branch(to, s, 0, 0, 0);
    for (int offset : new int[] {LOW, -1, 1_000_000, HIGH}) branch(to, 0, offset, 0, 0);
    for (int k : new int[] {LOW, -1, 8, HIGH}) branch(to, 0, 0, k, 0);
    for (int l : new int[] {LOW, -1, 60, HIGH}) branch(to, 0, 0, 0, l);
    for (int size : new int[] {LOW, -1, 0, 65, HIGH}) thunks(to, size, 0, 0);
    for (int align : new int[] {LOW, -1, 7, 32, HIGH}) thunks(to, 2, align, 0);
    for (int k : new int[] {LOW, -1, 8, HIGH}) thunks(to, 2, 5, k);
    for (int address : new int[] {LOW, -1}) base(to, address);
    for (int s : new int[] {LOW, -1, 40, HIGH}) resize(to, s, 25);
    for (int size : new int[] {LOW, -1, 1_000_001, HIGH}) resize(to, 0, size);
    for (int b : new int[] {LOW, -1, 200, HIGH}) retarget(to, b, 0);
    for (int l : new int[] {LOW, -1, 60, HIGH}) retarget(to, 0, l);
    return to;
  }

  // The yards, each with what is refused there beside that.

  private static List<Yard> yards() {
    List<Yard> all = new ArrayList<>();
    all.add(new Yard("a new yard", VeneerYard::new, refusedByNew()));
    all.add(new Yard("an empty yard, laid out", () -> laid(new VeneerYard()), refusedByNew()));
    all.add(new Yard("a yard, not laid out", RefusedTests::told, refusedByTold()));
    all.add(new Yard("a yard, laid out", () -> laid(told()), refusedByTold()));
    all.add(new Yard("a yard with more told since", () -> toldSince(laid(told())), refusedByToldSince()));
    all.add(new Yard("a yard without thunks", () -> laid(withoutThunks()), refusedWithoutThunks()));
    all.add(new Yard("a full yard, not laid out", RefusedTests::full, refusedByFull()));
    all.add(new Yard("a full yard, laid out", () -> laid(full()), refusedByFull()));
    return all;
  }

  private static VeneerYard laid(VeneerYard x) {
    x.lay();
    return x;
  }

  private static List<Refused> refusedByNew() {
    List<Refused> to = always();
    label(to, 0, 0);
    branch(to, 0, 0, 0, 0);
    for (int k = 0; k < 8; k++) thunks(to, 4, 0, k);
    resize(to, 0, 0);
    retarget(to, 0, 0);
    return to;
  }

  // Three thunks in the end, two branches that go by them, two direct, one refused.
  private static VeneerYard told() {
    VeneerYard x = new VeneerYard();
    x.kind(0, 4, 4);
    x.kind(1, 1, 4);
    x.kind(3, 4, 6);
    x.thunks(5, 2, 3);
    x.base(5);
    x.section(10, 3, true);
    x.section(20, 4, false);
    x.label(1, 0);
    x.label(1, 20);
    x.label(0, 4);
    x.branch(0, 4, 0, 1);
    x.branch(0, 0, 0, 0);
    x.branch(0, 9, 1, 2);
    x.branch(1, 1, 1, 0);
    x.branch(1, 0, 1, 2);
    return x;
  }

  private static List<Refused> refusedByTold() {
    List<Refused> to = always();
    label(to, 2, 0);
    label(to, 0, 11);
    label(to, 1, 21);
    branch(to, 2, 0, 0, 0);
    branch(to, 0, 10, 0, 0);
    branch(to, 1, 20, 0, 0);
    branch(to, 0, 0, 2, 0);
    branch(to, 0, 0, 7, 0);
    branch(to, 0, 0, 0, 3);
    thunks(to, 4, 0, 2);
    thunks(to, 4, 0, 7);
    resize(to, 2, 5);
    resize(to, 0, 9);
    resize(to, 0, 0);
    resize(to, 1, 19);
    resize(to, 1, 2);
    retarget(to, 5, 0);
    retarget(to, 0, 3);
    return to;
  }

  private static VeneerYard toldSince(VeneerYard x) {
    x.section(5, 2, true);
    x.label(2, 5);
    x.kind(2, 8, 5);
    x.kind(0, 2, 5);
    x.branch(2, 4, 2, 3);
    x.thunks(7, 1, 0);
    x.base(6);
    x.resize(1, 60);
    x.retarget(4, 3);
    return x;
  }

  private static List<Refused> refusedByToldSince() {
    List<Refused> to = always();
    label(to, 3, 0);
    label(to, 2, 6);
    label(to, 1, 61);
    branch(to, 3, 0, 0, 0);
    branch(to, 2, 5, 0, 0);
    branch(to, 0, 0, 4, 0);
    branch(to, 0, 0, 0, 4);
    thunks(to, 4, 0, 4);
    resize(to, 3, 5);
    resize(to, 1, 19);
    resize(to, 2, 4);
    retarget(to, 6, 0);
    retarget(to, 0, 4);
    return to;
  }

  private static VeneerYard withoutThunks() {
    VeneerYard x = new VeneerYard();
    x.kind(0, 1, 4);
    x.section(3, 0, true);
    x.section(0, 1, true);
    x.section(50, 0, false);
    x.label(2, 50);
    x.label(1, 0);
    x.branch(0, 2, 0, 0);
    x.branch(0, 0, 0, 1);
    return x;
  }

  private static List<Refused> refusedWithoutThunks() {
    List<Refused> to = always();
    label(to, 1, 1);
    branch(to, 1, 0, 0, 0);
    for (int k = 1; k < 8; k++) thunks(to, 4, 2, k);
    resize(to, 0, 2);
    resize(to, 2, 49);
    retarget(to, 2, 0);
    retarget(to, 0, 2);
    return to;
  }

  private static VeneerYard full() {
    VeneerYard x = new VeneerYard();
    x.kind(0, 1, 4);
    x.kind(7, 1, 20);
    x.thunks(1, 1, 7);
    for (int s = 0; s < 40; s++) x.section(10, s % 4, s % 3 != 0);
    for (int l = 0; l < 60; l++) x.label(39 - l % 40, 10);
    for (int b = 0; b < 200; b++) x.branch(b % 40, b % 10, 0, b % 60);
    return x;
  }

  private static List<Refused> refusedByFull() {
    List<Refused> to = always();
    section(to, 0, 0, false);
    section(to, 5, 3, true);
    label(to, 0, 0);
    label(to, 39, 10);
    branch(to, 0, 0, 0, 0);
    branch(to, 39, 9, 7, 59);
    thunks(to, 4, 0, 1);
    resize(to, 0, 9);
    resize(to, 39, 9);
    resize(to, 39, 0);
    return to;
  }
}
