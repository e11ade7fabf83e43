// Long runs of calls, the program held against the model: every answer, and behind each run the whole state.
public final class ModelTest {
  private static final int RUNS = 1500, CALLS = 300;
  private static final String[] WORDS = {"day", "kind", "who", "held", "dislike", "week"};

  private static long seed;
  private static FairTurns x;
  private static Model m;
  private static int daySpan;

  // A row of numbers that is the same in each run of the test.
  private static int upTo(int bound) {
    seed = seed * 6364136223846793005L + 1442695040888963407L;
    return (int) ((seed >>> 33) % bound);
  }

  private static int from(int low, int high) {
    return low + upTo(high - low + 1);
  }

  public static void main(String[] args) {
    for (int run = 0; run < RUNS; run++) {
      seed = 1000003L * run + 17;
      x = new FairTurns();
      m = new Model();
      daySpan = run % 3 == 0 ? 365 : 12;
      int first = upTo(9);
      for (int i = 0; i < first; i++) call(0);
      if (run % 5 == 4) manyDislikes();
      for (int i = 0; i < CALLS; i++) call(kindOfCall(run));
      wholeState(run);
    }
    Due.close("ModelTest");
  }

  // Rings of all sizes: many held by unlike ones, who dislike most of what there is.
  private static void manyDislikes() {
    int most = from(6, 12);
    int kinds = from(1, 2);
    int dull = from(1, 9);
    while (m.people.size() < 7) call(0);
    for (int i = 0; i < most; i++) same("duty", x.duty(i, kinds - 1), m.duty(i, kinds - 1));
    same("fill", x.fill(-1), m.fill(-1));
    for (int times = 0; times < 4; times++) {
      for (int a = 0; a < 8; a++) {
        for (int d = 0; d < most; d++) {
          int v = upTo(2) == 0 ? dull : upTo(10);
          same("dislike", x.dislike(a, d, v), m.dislike(a, d, v));
        }
      }
      int[] whats = {0, 1, 10, 11, 12, 13, 14};
      for (int what : whats) same("ring " + what, x.ring(what), m.ring(what));
      int n = upTo(2) == 0 ? 24 : from(1, 5);
      same("turn " + n, x.turn(n), m.turn(n));
      same("spell", x.spell(), m.spell());
      call(kinds > 1 ? 8 : 5);
    }
  }

  // Some runs are mostly of one sort of calls, so that they go deep.
  private static int kindOfCall(int run) {
    if (run % 4 == 1 && upTo(2) == 0) return from(14, 23);
    if (run % 4 == 2 && upTo(2) == 0) return from(29, 34);
    if (run % 4 == 3 && upTo(3) == 0) return 8;
    return upTo(43);
  }

  private static int one() { return upTo(20) == 0 ? from(-2, 9) : upTo(Math.max(1, m.people.size())); }
  private static int duty() { return upTo(20) == 0 ? from(-2, 25) : upTo(Math.max(1, m.duties.size())); }
  private static int kind() { return upTo(20) == 0 ? from(-2, 5) : upTo(4); }

  private static void same(String call, long got, long want) {
    if (got != want) Due.is(call + " (seed " + seed + ", tape '" + m.tape + "')", got, want);
    else Due.is(call, got, want);
  }

  private static void feed(String text) {
    for (int i = 0; i < text.length(); i++) same("feed", x.feed(text.charAt(i)), m.feed(text.charAt(i)));
  }

  private static void call(int which) {
    int a = one();
    int d = duty();
    int k = kind();
    switch (which) {
      case 0: { int r = upTo(15) == 0 ? from(-1, 4) : upTo(4); same("comes " + r, x.comes(r), m.comes(r)); return; }
      case 1: if (upTo(4) == 0) same("goes " + a, x.goes(a), m.goes(a)); return;
      case 2: { int v = upTo(9) == 0 ? from(-1, 1001) : upTo(9); same("past", x.past(a, k, v), m.past(a, k, v)); return; }
      case 3: { int w = from(-1, 35); same("of " + a + " " + w, x.of(a, w), m.of(a, w)); return; }
      case 4: same("neutral", x.neutral(k), m.neutral(k)); return;
      case 5: clear(); feed(spoiled(rules())); same("rules", x.rules(a), m.rules(a)); return;
      case 6: if (upTo(2) == 0) same("frees", x.frees(a), m.frees(a)); return;
      case 7: clear(); feed(spoiled(calendar())); same("calendar", x.calendar(), m.calendar()); return;
      case 8: { int day = upTo(20) == 0 ? from(-1, 367) : from(0, daySpan); same("duty", x.duty(day, k), m.duty(day, k)); return; }
      case 9: { int w = from(-1, 5); same("dutyOf " + d + " " + w, x.dutyOf(d, w), m.dutyOf(d, w)); return; }
      case 10: same("stands", x.stands(d), m.stands(d)); return;
      case 11: same("may", x.may(a, d), m.may(a, d)); return;
      case 12: case 13: { int v = upTo(12) == 0 ? from(-1, 11) : upTo(10); same("dislike", x.dislike(a, d, v), m.dislike(a, d, v)); return; }
      case 14: case 15: same("hold", x.hold(d, a), m.hold(d, a)); return;
      case 16: same("open", x.open(d), m.open(d)); return;
      case 17: { int f = from(-1, 3); same("fill " + f, x.fill(f), m.fill(f)); return; }
      default: callMore(which, d, k);
    }
  }

  private static void callMore(int which, int d, int k) {
    switch (which) {
      case 18: { int i = from(-1, 8); same("load", x.load(k, i), m.load(k, i)); return; }
      case 19: { int w = from(-1, 3); same("lesser " + k + " " + w, x.lesser(k, w), m.lesser(k, w)); return; }
      case 20: same("eases", x.eases(k), m.eases(k)); return;
      case 21: same("disliked", x.disliked(), m.disliked()); return;
      case 22: ring(); return;
      case 23: if (upTo(8) == 0) { int n = from(-1, 26); same("turn " + n, x.turn(n), m.turn(n)); } return;
      case 24: if (upTo(6) == 0) same("close", x.close(), m.close()); return;
      case 25: { int w = from(-1, 3); same("audit", x.audit(k, w), m.audit(k, w)); return; }
      case 26: { int i = from(-1, 8); same("next", x.next(k, i), m.next(k, i)); return; }
      case 27: same("near", x.near(), m.near()); return;
      case 28: same("heaviest", x.heaviest(), m.heaviest()); return;
      case 29: { int b = upTo(3) == 0 ? from(-1, 129) : from('0', '9'); same("feed " + b, x.feed(b), m.feed(b)); return; }
      case 30: clear(); return;
      case 31: clear(); feed(spoiled(condition(0))); same("pick", x.pick(), m.pick()); return;
      case 32: if (upTo(2) == 0) { clear(); feed(spoiled(condition(0))); same("openAll", x.openAll(), m.openAll()); } return;
      case 33: clear(); feed(spoiled(roster())); same("judge", x.judge(), m.judge()); return;
      case 34: if (upTo(2) == 0) { clear(); feed(spoiled(roster())); same("roster", x.roster(), m.roster()); } return;
      case 35: same("spell", x.spell(), m.spell()); return;
      case 36: { int i = upTo(200) - 5; same("paper", x.paper(i), m.paper(i)); return; }
      case 37: { int w = from(-1, 26); same("told " + w, x.told(w), m.told(w)); return; }
      default: callLists(which);
    }
  }

  private static void callLists(int which) {
    int list = from(-1, 4);
    int i = from(-2, 32);
    switch (which) {
      case 38: same("list", x.list(list, i), m.list(list, i)); return;
      case 39: same("set", x.set(list, i, seedInt()), m.set(list, i, seedInt())); return;
      case 40: same("get", x.get(list, i), m.get(list, i)); return;
      case 41: same("lay", x.lay(list, i), m.lay(list, i)); return;
      default:
        if (upTo(3) == 0) same("image", x.image(), m.image());
        else same("undo", x.undo(), m.undo());
    }
  }

  private static int seedInt() {
    return (int) (seed >>> 20);
  }

  private static void clear() {
    same("clear", x.clear(), m.clear());
  }

  private static void ring() {
    if (upTo(4) != 0) return;
    int[] whats = {0, 1, 10, 11, 12, 13};
    for (int what : whats) same("ring " + what, x.ring(what), m.ring(what));
  }

  // ---- texts

  // Most are left; some lose, change or gain a byte.
  private static String spoiled(String text) {
    StringBuilder t = new StringBuilder(text);
    if (upTo(3) != 0) return text;
    int place = upTo(t.length() + 1);
    String signs = "0123456789;;=-:henpdkr&|!()<>x 59";
    char sign = signs.charAt(upTo(signs.length()));
    int how = upTo(4);
    if (how == 0) t.insert(place, sign);
    else if (how == 1) t.setLength(place);
    else if (place < t.length() && how == 2) t.setCharAt(place, sign);
    else if (place < t.length()) t.deleteCharAt(place);
    return t.toString();
  }

  private static String number(int low, int high) {
    String text = "" + from(low, high);
    while (text.length() < 3 && upTo(10) == 0) text = "0" + text;
    return text;
  }

  private static String rules() {
    StringBuilder t = new StringBuilder();
    int parts = upTo(8) == 0 ? from(4, 9) : from(1, 2);
    for (int i = 0; i < parts; i++) {
      if (i > 0) t.append(';');
      int sort = upTo(3);
      if (sort == 0) {
        int a = from(0, daySpan);
        t.append('d').append(number(a, a)).append('-').append(number(upTo(15) == 0 ? 0 : a, Math.min(a + 5, 367)));
      } else if (sort == 1) {
        t.append('k').append("henp".charAt(upTo(4)));
      } else {
        int n = upTo(15) == 0 ? from(0, 11) : from(2, 3);
        t.append('r').append(number(n, n)).append(':').append(number(0, upTo(15) == 0 ? n : Math.max(n - 1, 0)));
      }
    }
    return t.toString();
  }

  private static String calendar() {
    StringBuilder t = new StringBuilder();
    int parts = upTo(4) == 0 ? from(4, 24) : from(1, 4);
    for (int i = 0; i < parts; i++) {
      if (i > 0) t.append(';');
      t.append(upTo(40) == 0 ? number(360, 400) : number(0, daySpan)).append("henp".charAt(upTo(4)));
    }
    return t.toString();
  }

  private static String condition(int depth) {
    int sort = upTo(depth > 4 ? 3 : 8);
    if (sort == 3) return condition(depth + 1) + "&" + condition(depth + 1);
    if (sort == 4) return condition(depth + 1) + "|" + condition(depth + 1);
    if (sort == 5) return "!" + condition(depth + 1);
    if (sort > 5) return "(" + condition(depth + 1) + ")";
    return WORDS[upTo(6)] + "<=>".charAt(upTo(3)) + number(0, upTo(2) == 0 ? 3 : upTo(2) == 0 ? daySpan : 10);
  }

  private static String roster() {
    StringBuilder t = new StringBuilder();
    boolean wild = upTo(6) == 0;
    for (Model.Duty d : m.standing()) {
      if (t.length() > 0) t.append(';');
      t.append(d.day).append("henp".charAt(d.kind)).append('=');
      int one = upTo(3) == 0 ? upTo(8) : d.holder;
      boolean good = one >= 0 && m.one(one) && m.mayHold(one, d);
      t.append(good || one >= 0 && wild ? "" + one : d.holder >= 0 ? "" + d.holder : "-");
    }
    return t.toString();
  }

  private static void wholeState(int run) {
    String in = "run " + run + ", behind all: ";
    same(in + "spell", x.spell(), m.spell());
    for (int i = 0; i < m.paper.length(); i++) same(in + "paper " + i, x.paper(i), m.paper(i));
    for (int what = 0; what < 25; what++) same(in + "told " + what, x.told(what), m.told(what));
    for (int a = 0; a < 8; a++) {
      for (int what = 0; what < 35; what++) same(in + "of " + a + " " + what, x.of(a, what), m.of(a, what));
      for (int d = 0; d < 24; d++) {
        same(in + "may " + a + " " + d, x.may(a, d), m.may(a, d));
        same(in + "dislike " + a + " " + d, x.dislike(a, d, 0), m.dislike(a, d, 0));
      }
    }
    for (int d = 0; d < 24; d++) {
      for (int what = 0; what < 5; what++) same(in + "dutyOf " + d + " " + what, x.dutyOf(d, what), m.dutyOf(d, what));
      same(in + "stands " + d, x.stands(d), m.stands(d));
    }
    for (int list = 0; list < 4; list++) {
      for (int i = 0; i < 30; i++) same(in + "get " + list + " " + i, x.get(list, i), m.get(list, i));
    }
  }
}
