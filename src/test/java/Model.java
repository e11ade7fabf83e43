import java.util.ArrayDeque;
import java.util.ArrayList;
import java.util.Comparator;
import java.util.HashMap;
import java.util.HashSet;
import java.util.LinkedHashMap;
import java.util.List;
import java.util.Map;
import java.util.regex.Matcher;
import java.util.regex.Pattern;

// A second reading of the document, written for plainness with the whole Java library: texts by regular
// expressions, rings by trying all, paths by one queue of duties and people. ModelTest holds the program against it.
final class Model {
  static final class One {
    int rank;
    boolean here = true;
    int[] past = new int[4];
    List<int[]> rules = new ArrayList<>();
    Map<Integer, Integer> dislikes = new HashMap<>();

    One copy() {
      One c = new One();
      c.rank = rank;
      c.here = here;
      c.past = past.clone();
      c.rules.addAll(rules);
      c.dislikes.putAll(dislikes);
      return c;
    }

    int head(int kind) {
      return rank == 3 ? 2 : rank == 2 && kind < 2 ? 1 : 0;
    }
  }

  static final class Duty {
    int number, day, kind, holder = -1;
  }

  static final int[] BURDENS = {5, 3, 2, 1};
  static final String LETTERS = "henp";

  List<One> people = new ArrayList<>();
  List<Duty> duties = new ArrayList<>();
  int year;
  List<One> imagePeople;
  List<Duty> imageDuties;
  int imageYear;
  StringBuilder tape = new StringBuilder();
  String paper = "";
  int[][] lists = new int[4][];

  // ---- what is

  boolean one(int n) { return n >= 0 && n < people.size(); }
  boolean dutyIs(int n) { return n >= 0 && n < duties.size(); }
  static boolean kindIs(int n) { return n >= 0 && n < 4; }

  List<Integer> here() {
    List<Integer> all = new ArrayList<>();
    for (int i = 0; i < people.size(); i++) if (people.get(i).here) all.add(i);
    return all;
  }

  List<Duty> standing() {
    List<Duty> all = new ArrayList<>(duties);
    all.sort(Comparator.comparingInt(d -> d.day * 100 + d.number));
    return all;
  }

  boolean mayHold(int n, Duty d) {
    One o = people.get(n);
    if (!o.here) return false;
    for (int[] r : o.rules) {
      if (r[0] == 'd' && r[1] <= d.day && d.day <= r[2]) return false;
      if (r[0] == 'k' && r[1] == d.kind) return false;
      if (r[0] == 'r' && d.day % r[1] != r[2]) return false;
    }
    return true;
  }

  int held(int n, int kind) {
    return (int) duties.stream().filter(d -> d.kind == kind && d.holder == n).count();
  }

  int loadOf(int n, int kind) {
    return people.get(n).past[kind] + people.get(n).head(kind) + held(n, kind);
  }

  int burden(int n) {
    int sum = 0;
    for (int k = 0; k < 4; k++) sum += BURDENS[k] * (people.get(n).past[k] + held(n, k));
    return sum;
  }

  List<Integer> vector(int kind) {
    List<Integer> loads = new ArrayList<>();
    for (int n : here()) loads.add(loadOf(n, kind));
    loads.sort(Comparator.reverseOrder());
    return loads;
  }

  int openOf(int kind) { return held(-1, kind); }

  // ---- people

  int comes(int rank) {
    if (rank < 0 || rank > 3) return -1;
    if (people.size() == 8) return -4;
    One o = new One();
    o.rank = rank;
    for (int k = 0; k < 4; k++) o.past[k] = neutral(k);
    people.add(o);
    return people.size() - 1;
  }

  int goes(int n) {
    if (!one(n)) return -1;
    if (!people.get(n).here) return -3;
    people.get(n).here = false;
    for (Duty d : duties) if (d.holder == n) d.holder = -1;
    return here().size();
  }

  int past(int n, int kind, int v) {
    if (!one(n) || !kindIs(kind)) return -1;
    if (v < 0 || v > 999) return -2;
    int was = people.get(n).past[kind];
    people.get(n).past[kind] = v;
    return was;
  }

  int of(int n, int what) {
    if (!one(n)) return -1;
    One o = people.get(n);
    if (what == 0) return o.rank;
    if (what == 1) return o.here ? 1 : 0;
    if (what == 2) return burden(n);
    if (what == 3) return (int) duties.stream().filter(d -> d.holder == n).count();
    if (what == 4) return o.rules.size();
    int k = what % 10;
    if (what < 10 || what > 33 || k > 3) return -1;
    return what / 10 == 1 ? o.past[k] : what / 10 == 2 ? o.head(k) : loadOf(n, k);
  }

  int neutral(int kind) {
    if (!kindIs(kind)) return -1;
    int sum = 0;
    for (int n : here()) sum += people.get(n).past[kind];
    return here().isEmpty() ? 0 : sum / here().size();
  }

  int frees(int n) {
    if (!one(n)) return -1;
    int had = people.get(n).rules.size();
    people.get(n).rules.clear();
    return had;
  }

  // ---- texts: the place of the first byte with which no such text goes on, by how far a pattern can be followed

  String takeTape() {
    String text = tape.toString();
    tape.setLength(0);
    return text;
  }

  static int syntaxFault(Pattern whole, String text) {
    if (whole.matcher(text).matches()) return Integer.MAX_VALUE;
    int good = 0;
    for (int n = 0; n <= text.length(); n++) {
      Matcher m = whole.matcher(text.substring(0, n));
      boolean goesOn = m.matches() || m.hitEnd();
      if (!goesOn) break;
      good = n;
    }
    return good;
  }

  // Where the parts between ; begin.
  static List<Integer> begins(String text) {
    List<Integer> all = new ArrayList<>();
    all.add(0);
    for (int i = 0; i < text.length(); i++) if (text.charAt(i) == ';') all.add(i + 1);
    return all;
  }

  static final Pattern RULES = Pattern.compile("(d\\d{1,3}-\\d{1,3}|k[henp]|r\\d{1,3}:\\d{1,3})(;(d\\d{1,3}-\\d{1,3}|k[henp]|r\\d{1,3}:\\d{1,3}))*");
  static final Pattern RULE = Pattern.compile("([dr])(\\d{1,3})(?:([-:])(\\d{1,3}))?");

  int ruleFault(String text, int room) {
    int fault = syntaxFault(RULES, text);
    List<Integer> begins = begins(text);
    if (begins.size() > room) fault = Math.min(fault, begins.get(room));
    for (int begin : begins) {
      Matcher m = RULE.matcher(text).region(begin, text.length());
      if (!m.lookingAt()) continue;
      int a = Integer.parseInt(m.group(2));
      boolean span = m.group(1).equals("d");
      if (span ? a > 365 : a < 2 || a > 9) fault = Math.min(fault, m.start(2));
      if (m.group(4) == null) continue;
      int b = Integer.parseInt(m.group(4));
      if (span ? b < a || b > 365 : b >= a) fault = Math.min(fault, m.start(4));
    }
    return fault;
  }

  int rules(int n) {
    if (!one(n)) return -1;
    One o = people.get(n);
    if (!o.here) return -3;
    String text = takeTape();
    int fault = ruleFault(text, 8 - o.rules.size());
    if (fault != Integer.MAX_VALUE) return -100 - fault;
    String[] parts = text.split(";");
    for (String p : parts) {
      if (p.charAt(0) == 'k') {
        o.rules.add(new int[] {'k', LETTERS.indexOf(p.charAt(1)), 0});
      } else {
        String[] ab = p.substring(1).split("[-:]");
        o.rules.add(new int[] {p.charAt(0), Integer.parseInt(ab[0]), Integer.parseInt(ab[1])});
      }
    }
    for (Duty d : duties) if (d.holder == n && !mayHold(n, d)) d.holder = -1;
    return parts.length;
  }

  static final Pattern CALENDAR = Pattern.compile("\\d{1,3}[henp](;\\d{1,3}[henp])*");
  static final Pattern NUMBER = Pattern.compile("\\d{1,3}");

  int calendar() {
    String text = takeTape();
    int fault = syntaxFault(CALENDAR, text);
    List<Integer> begins = begins(text);
    int room = 24 - duties.size();
    if (begins.size() > room) fault = Math.min(fault, begins.get(room));
    for (int begin : begins) {
      Matcher m = NUMBER.matcher(text).region(begin, text.length());
      if (m.lookingAt() && Integer.parseInt(m.group()) > 365) fault = Math.min(fault, begin);
    }
    if (fault != Integer.MAX_VALUE) return -100 - fault;
    String[] parts = text.split(";");
    for (String p : parts) duty(Integer.parseInt(p.substring(0, p.length() - 1)), LETTERS.indexOf(p.charAt(p.length() - 1)));
    return parts.length;
  }

  // ---- duties

  int duty(int day, int kind) {
    if (!kindIs(kind)) return -1;
    if (day < 0 || day > 365) return -2;
    if (duties.size() == 24) return -4;
    Duty d = new Duty();
    d.number = duties.size();
    d.day = day;
    d.kind = kind;
    duties.add(d);
    return d.number;
  }

  int dutyOf(int n, int what) {
    if (!dutyIs(n)) return -1;
    Duty d = duties.get(n);
    if (what == 0) return d.day;
    if (what == 1) return d.kind;
    if (what == 2) return d.holder < 0 ? -5 : d.holder;
    if (what == 3) return standing().indexOf(d);
    if (what == 4) return (int) here().stream().filter(o -> mayHold(o, d)).count();
    return -1;
  }

  int stands(int i) { return dutyIs(i) ? standing().get(i).number : -1; }

  int may(int o, int d) { return !one(o) || !dutyIs(d) ? -1 : mayHold(o, duties.get(d)) ? 1 : 0; }

  int dislike(int o, int d, int v) {
    if (!one(o) || !dutyIs(d)) return -1;
    if (v < 0 || v > 9) return -2;
    Integer was = people.get(o).dislikes.put(d, v);
    return was == null ? 0 : was;
  }

  int dislikeOf(int o, Duty d) { return o < 0 ? 0 : people.get(o).dislikes.getOrDefault(d.number, 0); }

  int hold(int d, int o) {
    if (!one(o) || !dutyIs(d)) return -1;
    if (!mayHold(o, duties.get(d))) return -7;
    int was = duties.get(d).holder;
    duties.get(d).holder = o;
    return was < 0 ? -5 : was;
  }

  int open(int d) {
    if (!dutyIs(d)) return -1;
    int was = duties.get(d).holder;
    if (was < 0) return -3;
    duties.get(d).holder = -1;
    return was;
  }

  // ---- paths: one queue; a duty n is the node 100 + n; each node knows from which it was come to

  Map<Integer, Integer> path(int start, int kind) {
    Map<Integer, Integer> from = new LinkedHashMap<>();
    ArrayDeque<Integer> queue = new ArrayDeque<>();
    from.put(start, null);
    queue.add(start);
    while (!queue.isEmpty()) {
      int node = queue.poll();
      List<Integer> following = new ArrayList<>();
      if (node >= 100) {
        for (int o : here()) if (mayHold(o, duties.get(node - 100))) following.add(o);
      } else {
        for (Duty d : duties) if (d.kind == kind && d.holder == node) following.add(100 + d.number);
      }
      for (int f : following) {
        if (from.containsKey(f)) continue;
        from.put(f, node);
        queue.add(f);
      }
    }
    return from;
  }

  int leastOn(Map<Integer, Integer> path, int kind) {
    int least = -1;
    for (int node : path.keySet()) {
      if (node < 100 && (least < 0 || loadOf(node, kind) < loadOf(least, kind))) least = node;
    }
    return least;
  }

  void shift(Map<Integer, Integer> path, int to) {
    Integer one = to;
    while (one != null && path.get(one) != null) {
      int dutyNode = path.get(one);
      Integer before = path.get(dutyNode);
      duties.get(dutyNode - 100).holder = one;
      one = before;
    }
  }

  int fill(int kind) {
    if (kind != -1 && !kindIs(kind)) return -1;
    int filled = 0;
    for (int k = 0; k < 4; k++) {
      if (kind != -1 && kind != k) continue;
      for (Duty d : standing()) {
        if (d.kind != k || d.holder >= 0) continue;
        Map<Integer, Integer> path = path(100 + d.number, k);
        int to = leastOn(path, k);
        if (to < 0) continue;
        shift(path, to);
        filled++;
      }
    }
    return filled;
  }

  int load(int kind, int i) {
    if (!kindIs(kind) || i < 0 || i >= here().size()) return -1;
    return vector(kind).get(i);
  }

  int[] fromTo(int kind) {
    for (int o : here()) {
      if (held(o, kind) == 0) continue;
      int to = leastOn(path(o, kind), kind);
      if (loadOf(to, kind) <= loadOf(o, kind) - 2) return new int[] {o, to};
    }
    return null;
  }

  int lesser(int kind, int what) {
    if (!kindIs(kind) || what < 0 || what > 2) return -1;
    int[] ft = fromTo(kind);
    if (what == 0) return ft == null ? 0 : 1;
    return ft == null ? -5 : ft[what - 1];
  }

  int eases(int kind) {
    if (!kindIs(kind)) return -1;
    int n = 0;
    for (int[] ft = fromTo(kind); ft != null; ft = fromTo(kind)) {
      List<Integer> was = vector(kind);
      shift(path(ft[0], kind), ft[1]);
      if (!isLesser(vector(kind), was)) throw new IllegalStateException("a vector wasn't made lesser");
      n++;
    }
    return n;
  }

  static boolean isLesser(List<Integer> a, List<Integer> b) {
    for (int i = 0; i < a.size(); i++) if (!a.get(i).equals(b.get(i))) return a.get(i) < b.get(i);
    return false;
  }

  // ---- rings

  int disliked() {
    int sum = 0;
    for (Duty d : duties) sum += dislikeOf(d.holder, d);
    return sum;
  }

  int gainOf(List<Duty> ring) {
    int gain = 0;
    int size = ring.size();
    HashSet<Integer> holders = new HashSet<>();
    for (int i = 0; i < size; i++) {
      Duty own = ring.get(i);
      Duty ahead = ring.get((i + size - 1) % size);
      if (own.holder < 0 || own.kind != ahead.kind || !holders.add(own.holder) || !mayHold(own.holder, ahead)) return 0;
      gain += dislikeOf(own.holder, own) - dislikeOf(own.holder, ahead);
    }
    return gain;
  }

  List<Duty> bestRing() {
    List<List<Duty>> all = new ArrayList<>();
    for (Duty d : duties) if (d.holder >= 0) allRings(List.of(d), all);
    List<Duty> best = null;
    for (List<Duty> ring : all) if (gainOf(ring) > 0 && (best == null || isBetter(ring, best))) best = ring;
    return best;
  }

  // Rows that begin with their least duty, without two duties of one holder; whether they are rings gainOf tells.
  void allRings(List<Duty> row, List<List<Duty>> all) {
    if (row.size() > 1) all.add(row);
    if (row.size() == 4) return;
    for (Duty d : duties) {
      if (d.holder < 0 || d.kind != row.get(0).kind || d.number < row.get(0).number) continue;
      if (row.stream().anyMatch(r -> r.holder == d.holder)) continue;
      List<Duty> longer = new ArrayList<>(row);
      longer.add(d);
      allRings(longer, all);
    }
  }

  boolean isBetter(List<Duty> a, List<Duty> b) {
    if (gainOf(a) != gainOf(b)) return gainOf(a) > gainOf(b);
    if (a.size() != b.size()) return a.size() < b.size();
    for (int i = 0; i < a.size(); i++) {
      if (a.get(i).number != b.get(i).number) return a.get(i).number < b.get(i).number;
    }
    return false;
  }

  int ring(int what) {
    List<Duty> best = bestRing();
    if (best == null) return -5;
    if (what == 0) return gainOf(best);
    if (what == 1) return best.size();
    return what >= 10 && what < 10 + best.size() ? best.get(what - 10).number : -1;
  }

  int turn(int n) {
    if (n < 1 || n > 24) return -2;
    int done = 0;
    for (List<Duty> best = bestRing(); done < n && best != null; best = bestRing()) {
      int was = disliked();
      int gain = gainOf(best);
      int[] holders = best.stream().mapToInt(d -> d.holder).toArray();
      for (int i = 0; i < holders.length; i++) best.get(i).holder = holders[(i + 1) % holders.length];
      if (disliked() != was - gain) throw new IllegalStateException("a ring didn't gain what it told");
      done++;
    }
    return done;
  }

  // ---- years

  int close() {
    for (Duty d : duties) if (d.holder < 0) return -3;
    for (int n = 0; n < people.size(); n++) {
      for (int k = 0; k < 4; k++) people.get(n).past[k] = Math.min(999, people.get(n).past[k] + held(n, k));
      people.get(n).dislikes.clear();
    }
    duties.clear();
    return ++year;
  }

  int audit(int kind, int what) {
    if (!kindIs(kind) || what < 0 || what > 2) return -1;
    List<Integer> v = vector(kind);
    if (what == 0) return v.isEmpty() ? 0 : v.get(0) - v.get(v.size() - 1);
    if (what == 2) return v.stream().mapToInt(i -> i).sum();
    int envy = 0;
    for (int a : here()) for (int b : here()) if (a < b && Math.abs(loadOf(a, kind) - loadOf(b, kind)) >= 2) envy++;
    return envy;
  }

  int next(int kind, int i) {
    if (!kindIs(kind) || i < 0 || i >= here().size()) return -1;
    List<Integer> all = here();
    all.sort(Comparator.comparingInt((Integer n) -> loadOf(n, kind)).thenComparingInt(n -> burden(n)).thenComparingInt(n -> n));
    return all.get(i);
  }

  int near() {
    int twos = 0;
    for (Duty a : duties) {
      for (Duty b : duties) if (a.number < b.number && a.holder >= 0 && a.holder == b.holder && Math.abs(a.day - b.day) < 2) twos++;
    }
    return twos;
  }

  int heaviest() {
    return here().stream().max(Comparator.comparingInt((Integer n) -> burden(n)).thenComparingInt(n -> -n)).orElse(-5);
  }

  // ---- tape, conditions

  int feed(int letter) {
    if (letter < 1 || letter > 127) return -2;
    if (tape.length() == 150) return -4;
    tape.append((char) letter);
    return tape.length();
  }

  int clear() { return takeTape().length(); }

  // Nesting is bounded, so a condition is a regular text.
  static String factor(int depth) {
    String word = "[a-z]+[<=>]\\d{1,3}";
    if (depth == 4) return word;
    String f = factor(depth + 1);
    return "(?:!" + f + "|\\(" + either(f) + "\\)|" + word + ")";
  }

  static String either(String f) {
    String both = f + "(?:&" + f + ")*+";
    return both + "(?:\\|" + both + ")*+";
  }

  static final Pattern CONDITION = Pattern.compile(either(factor(0)));
  static final Pattern WORD = Pattern.compile("[a-z]+");
  static final List<String> WORDS = List.of("day", "kind", "who", "held", "dislike", "week");

  static int conditionFault(String text) {
    int fault = syntaxFault(CONDITION, text);
    Matcher m = WORD.matcher(text);
    while (m.find()) if (!WORDS.contains(m.group())) fault = Math.min(fault, m.start());
    return fault;
  }

  // Parts of a text at a sign that stands in no brackets.
  static List<String> parts(String text, char sign) {
    List<String> all = new ArrayList<>();
    int depth = 0;
    int begin = 0;
    for (int i = 0; i < text.length(); i++) {
      char c = text.charAt(i);
      if (c == '(') depth++;
      if (c == ')') depth--;
      if (c == sign && depth == 0) {
        all.add(text.substring(begin, i));
        begin = i + 1;
      }
    }
    all.add(text.substring(begin));
    return all;
  }

  boolean isSo(String text, Duty d) {
    List<String> either = parts(text, '|');
    if (either.size() > 1) return either.stream().anyMatch(p -> isSo(p, d));
    List<String> both = parts(text, '&');
    if (both.size() > 1) return both.stream().allMatch(p -> isSo(p, d));
    if (text.charAt(0) == '!') return !isSo(text.substring(1), d);
    if (text.charAt(0) == '(') return isSo(text.substring(1, text.length() - 1), d);
    String[] sides = text.split("[<=>]");
    int[] values = {d.day, d.kind, d.holder < 0 ? 10 : d.holder, d.holder < 0 ? 0 : 1, dislikeOf(d.holder, d), d.day / 7};
    int order = Integer.compare(values[WORDS.indexOf(sides[0])], Integer.parseInt(sides[1]));
    char sign = text.charAt(sides[0].length());
    return sign == '<' ? order < 0 : sign == '>' ? order > 0 : order == 0;
  }

  int pick() {
    String text = takeTape();
    int fault = conditionFault(text);
    if (fault != Integer.MAX_VALUE) return -100 - fault;
    int bits = 0;
    for (Duty d : duties) if (isSo(text, d)) bits |= 1 << d.number;
    return bits;
  }

  int openAll() {
    int bits = pick();
    if (bits < 0) return bits;
    int n = 0;
    for (Duty d : duties) {
      if ((bits >> d.number & 1) == 0 || d.holder < 0) continue;
      d.holder = -1;
      n++;
    }
    return n;
  }

  // ---- rosters

  // Holders by duty's number; null: a fault, which is then in rosterFault.
  int rosterFault;

  int[] readRoster(String text) {
    StringBuilder pattern = new StringBuilder();
    List<Duty> all = standing();
    for (int i = 0; i < all.size(); i++) pattern.append(i == 0 ? "" : ";").append("(\\d{1,3})([henp])=([0-9-])");
    rosterFault = syntaxFault(Pattern.compile(pattern.toString()), text);
    int[] holders = new int[all.size()];
    List<Integer> begins = begins(text);
    Pattern part = Pattern.compile("(\\d{1,3})(?:([henp])(?:=([0-9-]))?)?");
    for (int i = 0; i < all.size() && i < begins.size(); i++) {
      Matcher m = part.matcher(text).region(begins.get(i), text.length());
      if (!m.lookingAt()) continue;
      Duty d = all.get(i);
      if (Integer.parseInt(m.group(1)) != d.day) rosterFault = Math.min(rosterFault, m.start(1));
      if (m.group(2) != null && LETTERS.indexOf(m.group(2)) != d.kind) rosterFault = Math.min(rosterFault, m.start(2));
      if (m.group(3) == null) continue;
      int holder = m.group(3).equals("-") ? -1 : Integer.parseInt(m.group(3));
      if (holder >= 0 && !here().contains(holder)) rosterFault = Math.min(rosterFault, m.start(3));
      holders[d.number] = holder;
    }
    return rosterFault == Integer.MAX_VALUE ? holders : null;
  }

  int judge() {
    String text = takeTape();
    if (duties.isEmpty()) return -3;
    int[] then = readRoster(text);
    if (then == null) return -100 - rosterFault;
    for (Duty d : standing()) if (then[d.number] >= 0 && !mayHold(then[d.number], d)) return d.number;
    int[] now = duties.stream().mapToInt(d -> d.holder).toArray();
    List<List<Integer>> nowVectors = new ArrayList<>();
    int[] nowOpen = new int[4];
    for (int k = 0; k < 4; k++) {
      nowVectors.add(vector(k));
      nowOpen[k] = openOf(k);
    }
    for (Duty d : duties) d.holder = then[d.number];
    int answer = -5;
    for (int k = 3; k >= 0; k--) {
      if (vector(k).equals(nowVectors.get(k))) continue;
      answer = (isLesser(vector(k), nowVectors.get(k)) ? 200 : 300) + k;
    }
    for (int k = 3; k >= 0; k--) if (openOf(k) > nowOpen[k]) answer = 100 + k;
    for (Duty d : duties) d.holder = now[d.number];
    return answer;
  }

  int roster() {
    String text = takeTape();
    if (duties.isEmpty()) return -3;
    int[] then = readRoster(text);
    if (then == null) return -100 - rosterFault;
    for (Duty d : duties) if (then[d.number] >= 0 && !mayHold(then[d.number], d)) return -7;
    int n = 0;
    for (Duty d : duties) {
      d.holder = then[d.number];
      if (d.holder >= 0) n++;
    }
    return n;
  }

  String spelled() {
    List<String> parts = new ArrayList<>();
    for (Duty d : standing()) parts.add("" + d.day + LETTERS.charAt(d.kind) + "=" + (d.holder < 0 ? "-" : "" + d.holder));
    return String.join(";", parts);
  }

  int spell() {
    paper = spelled();
    return paper.length();
  }

  int paper(int i) { return i < 0 || i >= paper.length() ? -1 : paper.charAt(i); }

  // ---- told, lists, image

  int told(int what) {
    List<Duty> all = standing();
    int open = (int) duties.stream().filter(d -> d.holder < 0).count();
    int days = (int) duties.stream().mapToInt(d -> d.day).distinct().count();
    int[] told = {people.size(), here().size(), duties.size(), open, year, tape.length(), paper.length(), days,
      all.isEmpty() ? -1 : all.get(0).day, all.isEmpty() ? -1 : all.get(all.size() - 1).day};
    if (what >= 0 && what < 10) return told[what];
    if (what >= 10 && what < 14) return (int) duties.stream().filter(d -> d.kind == what - 10).count();
    return what >= 20 && what < 24 ? openOf(what - 20) : -1;
  }

  int list(int list, int n) {
    if (list < 0 || list > 3) return -1;
    if (n > 30) return -2;
    if (n < 0) return -14;
    lists[list] = new int[n];
    return 1;
  }

  int set(int list, int i, int v) {
    if (list < 0 || list > 3) return -1;
    if (lists[list] == null) return -11;
    if (i < 0 || i >= lists[list].length) return -13;
    lists[list][i] = v;
    return 1;
  }

  long get(int list, int i) {
    if (list < 0 || list > 3 || lists[list] == null || i < 0 || i >= lists[list].length) return Long.MIN_VALUE;
    return lists[list][i];
  }

  int lay(int list, int i) {
    if (list < 0 || list > 3) return -1;
    if (lists[list] == null) return -11;
    long place = i;
    for (Duty d : standing()) {
      if (i < 0 || place >= lists[list].length) return -13;
      lists[list][(int) place++] = d.holder;
    }
    return duties.size();
  }

  int image() {
    imagePeople = copyPeople(people);
    imageDuties = copyDuties(duties);
    imageYear = year;
    return people.size();
  }

  int undo() {
    if (imagePeople == null) return -3;
    people = copyPeople(imagePeople);
    duties = copyDuties(imageDuties);
    year = imageYear;
    return people.size();
  }

  static List<One> copyPeople(List<One> from) {
    List<One> all = new ArrayList<>();
    for (One o : from) all.add(o.copy());
    return all;
  }

  static List<Duty> copyDuties(List<Duty> from) {
    List<Duty> all = new ArrayList<>();
    for (Duty d : from) {
      Duty c = new Duty();
      c.number = d.number;
      c.day = d.day;
      c.kind = d.kind;
      c.holder = d.holder;
      all.add(c);
    }
    return all;
  }
}
