import java.util.HashMap;
import java.util.Map;
import java.util.function.Supplier;
import java.util.function.ToLongFunction;

// A call that is refused changes nothing, and neither does what is asked: all that can be asked answers as it does
// for a twin that wasn't called. The arguments are those next to each end, and the least and the greatest int.
public final class RefusedTest {
  // A state under a name, and how many are there.
  private record State(String name, int people, int duties, Supplier<FairTurns> made) {}

  private static final State NEW = new State("new", 0, 0, FairTurns::new);
  private static final State SOME = new State("some", 4, 6, RefusedTest::some);
  private static final State GONE = new State("all gone", 4, 6, RefusedTest::allGone);
  private static final State FULL = new State("full", 8, 24, () -> full(0));
  private static final State BRIM = new State("full, and THE TAPE, too", 8, 24, () -> full(150));
  private static final State[] ALL = {NEW, SOME, GONE, FULL, BRIM};

  private static final Map<String, long[]> TWINS = new HashMap<>();

  public static void main(String[] args) {
    for (State state : ALL) {
      ofPeople(state);
      ofKinds(state);
      ofDuties(state);
      ofWhats(state);
      ofValues(state);
      ofLists(state);
    }
    byTheState();
    faults();
    readWithoutDuties();
    asked();
    Due.close("RefusedTest");
  }

  // ---- the states

  // 2 has gone; 3 may hold no nights and nothing on the days 10 to 20; one eve is OPEN.
  private static FairTurns some() {
    FairTurns x = new FairTurns();
    int[] ranks = {0, 3, 1, 2};
    for (int rank : ranks) x.comes(rank);
    x.past(0, 0, 3);
    x.past(1, 2, 7);
    Due.rules(x, 3, "kn;d10-20");
    Due.calendar(x, "5h;9n;15e;5h;8n;365p");
    for (int duty = 0; duty < 6; duty++) x.dislike(duty % 4, duty, duty + 1);
    x.hold(0, 0);
    x.hold(1, 1);
    x.list(0, 4);
    x.set(0, 3, 88);
    x.list(1, 0);
    x.spell();
    x.image();
    x.goes(2);
    x.hold(3, 3);
    x.hold(4, 0);
    x.hold(5, 0);
    x.past(3, 3, 2);
    x.dislike(0, 5, 9);
    Due.tape(x, "held=0|day<9");
    return x;
  }

  private static FairTurns allGone() {
    FairTurns x = some();
    x.goes(0);
    x.goes(1);
    x.goes(3);
    return x;
  }

  // 7 has gone; 6 has eight RULES; all but duty 23 are HELD.
  private static FairTurns full(int bytes) {
    FairTurns x = new FairTurns();
    for (int one = 0; one < 8; one++) x.comes(one % 4);
    for (int duty = 0; duty < 24; duty++) x.duty(duty * 15, duty % 4);
    Due.rules(x, 6, "kh;kh;r2:1;kh;kh;kh;kh;kh");
    for (int duty = 0; duty < 16; duty++) x.dislike(duty % 8, duty, duty % 10);
    for (int list = 0; list < 4; list++) {
      x.list(list, 30);
      x.set(list, 29, 90 + list);
    }
    x.image();
    x.fill(-1);
    x.goes(7);
    x.fill(-1);
    x.open(23);
    x.past(5, 1, 999);
    x.spell();
    for (int i = 0; i < bytes; i++) x.feed('0' + i % 10);
    return x;
  }

  // ---- twins

  private static void refused(State state, String call, ToLongFunction<FairTurns> called, long want) {
    same(state, call, called, want, x -> { }, true);
  }

  // Both are asked everything, part by part; what happens to the twin instead is told by the last but one.
  private static void same(State state, String call, ToLongFunction<FairTurns> called, long want, Twin twin, boolean paperToo) {
    for (int part = 0; part < Asked.PARTS; part++) {
      if (part == Asked.OF_THE_PAPER && !paperToo) continue;
      FairTurns x = state.made.get();
      long got = called.applyAsLong(x);
      if (part == 0) Due.is(call + " of " + state.name, got, want);
      long[] wants = twinOf(state, twin, part);
      long[] gots = Asked.of(x, part);
      for (int i = 0; i < wants.length; i++) {
        if (gots[i] != wants[i]) Due.is("answer " + i + " of part " + part + " behind " + call + " of " + state.name, gots[i], wants[i]);
      }
    }
  }

  private interface Twin { void instead(FairTurns x); }

  private static final Twin CLEARED = FairTurns::clear;

  private static long[] twinOf(State state, Twin twin, int part) {
    String name = state.name + (twin == CLEARED ? " cleared " : " ") + part;
    return TWINS.computeIfAbsent(name, n -> {
      FairTurns x = state.made.get();
      twin.instead(x);
      return Asked.of(x, part);
    });
  }

  // THE TAPE is empty behind it, and nothing else has changed.
  private static void emptiesTheTape(State state, String text, String call, ToLongFunction<FairTurns> called, long want) {
    same(state, call + " of '" + text + "'", x -> {
      Due.tape(x, text);
      return called.applyAsLong(x);
    }, want, CLEARED, true);
  }

  // ---- refused by an argument

  private static void ofPeople(State s) {
    Due.by("Answers: NONE (-1) no such number; What is answered so changes nothing: of PEOPLE");
    for (int one : Due.outside(0, s.people - 1)) {
      refused(s, "goes(" + one + ")", x -> x.goes(one), Due.NONE);
      refused(s, "past(" + one + ", 0, 1)", x -> x.past(one, 0, 1), Due.NONE);
      refused(s, "of(" + one + ", 0)", x -> x.of(one, 0), Due.NONE);
      refused(s, "rules(" + one + ")", x -> x.rules(one), Due.NONE);
      refused(s, "frees(" + one + ")", x -> x.frees(one), Due.NONE);
      refused(s, "may(" + one + ", 0)", x -> x.may(one, 0), Due.NONE);
      refused(s, "dislike(" + one + ", 0, 1)", x -> x.dislike(one, 0, 1), Due.NONE);
      refused(s, "hold(0, " + one + ")", x -> x.hold(0, one), Due.NONE);
    }
    for (int rank : Due.outside(0, 3)) refused(s, "comes(" + rank + ")", x -> x.comes(rank), Due.NONE);
  }

  private static void ofKinds(State s) {
    Due.by("Answers: NONE (-1) no such number; What is answered so changes nothing: of KINDS");
    for (int kind : Due.outside(0, 3)) {
      refused(s, "past(0, " + kind + ", 1)", x -> x.past(0, kind, 1), Due.NONE);
      refused(s, "neutral(" + kind + ")", x -> x.neutral(kind), Due.NONE);
      refused(s, "duty(5, " + kind + ")", x -> x.duty(5, kind), Due.NONE);
      refused(s, "load(" + kind + ", 0)", x -> x.load(kind, 0), Due.NONE);
      refused(s, "lesser(" + kind + ", 0)", x -> x.lesser(kind, 0), Due.NONE);
      refused(s, "eases(" + kind + ")", x -> x.eases(kind), Due.NONE);
      refused(s, "audit(" + kind + ", 0)", x -> x.audit(kind, 0), Due.NONE);
      refused(s, "next(" + kind + ", 0)", x -> x.next(kind, 0), Due.NONE);
    }
    for (int kind : Due.outside(-1, 3)) refused(s, "fill(" + kind + ")", x -> x.fill(kind), Due.NONE);
  }

  private static void ofDuties(State s) {
    Due.by("Answers: NONE (-1) no such number; What is answered so changes nothing: of DUTIES");
    for (int duty : Due.outside(0, s.duties - 1)) {
      refused(s, "dutyOf(" + duty + ", 0)", x -> x.dutyOf(duty, 0), Due.NONE);
      refused(s, "stands(" + duty + ")", x -> x.stands(duty), Due.NONE);
      refused(s, "may(0, " + duty + ")", x -> x.may(0, duty), Due.NONE);
      refused(s, "dislike(0, " + duty + ", 1)", x -> x.dislike(0, duty, 1), Due.NONE);
      refused(s, "hold(" + duty + ", 0)", x -> x.hold(duty, 0), Due.NONE);
      refused(s, "open(" + duty + ")", x -> x.open(duty), Due.NONE);
    }
  }

  private static void ofWhats(State s) {
    Due.by("Answers: NONE (-1) no such number; What is answered so changes nothing: of what");
    int[] ofs = {Due.LEAST, -1, 5, 9, 14, 19, 24, 29, 34, Due.MOST};
    for (int what : ofs) refused(s, "of(0, " + what + ")", x -> x.of(0, what), Due.NONE);
    for (int what : Due.outside(0, 4)) refused(s, "dutyOf(0, " + what + ")", x -> x.dutyOf(0, what), Due.NONE);
    for (int what : Due.outside(0, 2)) {
      refused(s, "lesser(0, " + what + ")", x -> x.lesser(0, what), Due.NONE);
      refused(s, "audit(0, " + what + ")", x -> x.audit(0, what), Due.NONE);
    }
    int[] rings = {Due.LEAST, -1, 2, 9, 14, Due.MOST};
    boolean isRing = s.made.get().ring(0) > 0;
    for (int what : rings) refused(s, "ring(" + what + ")", x -> x.ring(what), isRing ? Due.NONE : Due.NOBODY);
    int[] tolds = {Due.LEAST, -1, 14, 19, 24, Due.MOST};
    for (int what : tolds) refused(s, "told(" + what + ")", x -> x.told(what), Due.NONE);
    for (int i : Due.outside(0, 7)) {
      refused(s, "load(0, " + i + ")", x -> x.load(0, i), Due.NONE);
      refused(s, "next(0, " + i + ")", x -> x.next(0, i), Due.NONE);
    }
    for (int i : Due.outside(0, 167)) refused(s, "paper(" + i + ")", x -> x.paper(i), Due.NONE);
  }

  private static void ofValues(State s) {
    Due.by("Answers: BAD (-2) a number is not as told; What is answered so changes nothing");
    for (int v : Due.outside(0, 999)) {
      refused(s, "past(0, 0, " + v + ")", x -> x.past(0, 0, v), s.people > 0 ? Due.BAD : Due.NONE);
    }
    for (int v : Due.outside(0, 9)) {
      refused(s, "dislike(0, 0, " + v + ")", x -> x.dislike(0, 0, v), s.duties > 0 ? Due.BAD : Due.NONE);
    }
    for (int day : Due.outside(0, 365)) refused(s, "duty(" + day + ", 0)", x -> x.duty(day, 0), Due.BAD);
    for (int n : Due.outside(1, 24)) refused(s, "turn(" + n + ")", x -> x.turn(n), Due.BAD);
    for (int letter : Due.outside(1, 127)) refused(s, "feed(" + letter + ")", x -> x.feed(letter), Due.BAD);
    for (int list = 0; list < 4; list++) {
      int each = list;
      refused(s, "list(" + list + ", 31)", x -> x.list(each, 31), Due.BAD);
      refused(s, "list(" + list + ", most)", x -> x.list(each, Due.MOST), Due.BAD);
      refused(s, "list(" + list + ", -1)", x -> x.list(each, -1), Due.BELOW);
      refused(s, "list(" + list + ", least)", x -> x.list(each, Due.LEAST), Due.BELOW);
    }
  }

  private static void ofLists(State s) {
    Due.by("Answers: NONE, NOTHING, BEYOND; What is answered so changes nothing: of LISTS");
    for (int list : Due.outside(0, 3)) {
      refused(s, "list(" + list + ", 1)", x -> x.list(list, 1), Due.NONE);
      refused(s, "set(" + list + ", 0, 1)", x -> x.set(list, 0, 1), Due.NONE);
      refused(s, "get(" + list + ", 0)", x -> x.get(list, 0), Due.NO_PLACE);
      refused(s, "lay(" + list + ", 0)", x -> x.lay(list, 0), Due.NONE);
    }
    for (int i : Due.outside(0, 29)) {
      refused(s, "set(0, " + i + ", 1)", x -> x.set(0, i, 1), s == NEW ? Due.NOTHING : Due.BEYOND);
      refused(s, "get(0, " + i + ")", x -> x.get(0, i), Due.NO_PLACE);
      refused(s, "lay(0, " + i + ")", x -> x.lay(0, i), s == NEW ? Due.NOTHING : Due.BEYOND);
    }
    if (s.duties > 6) return;
    int[] places = {Due.LEAST, -1, 0, Due.MOST};
    for (int i : places) {
      refused(s, "set(1, " + i + ", 1)", x -> x.set(1, i, 1), s == NEW ? Due.NOTHING : Due.BEYOND);
      refused(s, "set(2, " + i + ", 1)", x -> x.set(2, i, 1), Due.NOTHING);
      refused(s, "lay(3, " + i + ")", x -> x.lay(3, i), Due.NOTHING);
    }
  }

  // ---- refused by what is there

  private static void byTheState() {
    Due.by("Answers: STATE (-3) as told; FULL (-4); NOT (-7) as told; What is answered so changes nothing");
    for (int rank = 0; rank < 4; rank++) {
      int each = rank;
      refused(FULL, "comes(" + rank + ")", x -> x.comes(each), Due.FULL);
    }
    refused(FULL, "duty(0, 0)", x -> x.duty(0, 0), Due.FULL);
    refused(BRIM, "feed(1)", x -> x.feed(1), Due.FULL);
    refused(BRIM, "feed(127)", x -> x.feed(127), Due.FULL);
    refused(FULL, "goes(7)", x -> x.goes(7), Due.STATE);
    refused(BRIM, "rules(7)", x -> x.rules(7), Due.STATE);
    refused(FULL, "hold(0, 7)", x -> x.hold(0, 7), Due.NOT);
    refused(FULL, "hold(23, 7)", x -> x.hold(23, 7), Due.NOT);
    refused(FULL, "hold(0, 6)", x -> x.hold(0, 6), Due.NOT);
    refused(FULL, "open(23)", x -> x.open(23), Due.STATE);
    refused(FULL, "close()", x -> x.close(), Due.STATE);
    refused(SOME, "goes(2)", x -> x.goes(2), Due.STATE);
    refused(SOME, "rules(2)", x -> x.rules(2), Due.STATE);
    refused(SOME, "hold(0, 2)", x -> x.hold(0, 2), Due.NOT);
    refused(SOME, "hold(1, 3)", x -> x.hold(1, 3), Due.NOT);
    refused(SOME, "hold(2, 3)", x -> x.hold(2, 3), Due.NOT);
    refused(SOME, "open(2)", x -> x.open(2), Due.STATE);
    refused(SOME, "close()", x -> x.close(), Due.STATE);
    for (int one = 0; one < 4; one++) {
      int each = one;
      refused(GONE, "goes(" + one + ")", x -> x.goes(each), Due.STATE);
      refused(GONE, "rules(" + one + ")", x -> x.rules(each), Due.STATE);
      refused(GONE, "hold(0, " + one + ")", x -> x.hold(0, each), Due.NOT);
    }
    refused(GONE, "open(0)", x -> x.open(0), Due.STATE);
    refused(GONE, "close()", x -> x.close(), Due.STATE);
    refused(GONE, "fill(-1)", x -> x.fill(-1), 0);
    refused(GONE, "turn(24)", x -> x.turn(24), 0);
    refused(NEW, "undo()", x -> x.undo(), Due.STATE);
    refused(NEW, "clear()", x -> x.clear(), 0);
    refused(NEW, "fill(-1)", x -> x.fill(-1), 0);
  }

  // ---- texts with a FAULT

  private static void faults() {
    Due.by("==== 4: A text with a FAULT does nothing; THE TAPE is empty behind each call that reads it");
    State[] states = {SOME, FULL};
    for (State s : states) {
      emptiesTheTape(s, "", "rules(0)", x -> x.rules(0), -100);
      emptiesTheTape(s, "kh;ke;kn;kp;", "rules(0)", x -> x.rules(0), -112);
      emptiesTheTape(s, "d0-365;d4-3", "rules(0)", x -> x.rules(0), -110);
      emptiesTheTape(s, "d0-365;r2:2", "rules(3)", x -> x.rules(3), -110);
      emptiesTheTape(s, "", "calendar()", x -> x.calendar(), -100);
      emptiesTheTape(s, "366h", "calendar()", x -> x.calendar(), -100);
      String[] conditions = {"", "day<366&", "held=1|hold=1", "((((!held=1))))"};
      int[] places = {0, 8, 7, 4};
      for (int i = 0; i < conditions.length; i++) {
        emptiesTheTape(s, conditions[i], "pick()", x -> x.pick(), -100 - places[i]);
        emptiesTheTape(s, conditions[i], "openAll()", x -> x.openAll(), -100 - places[i]);
      }
      emptiesTheTape(s, "", "judge()", x -> x.judge(), -100);
      emptiesTheTape(s, "", "roster()", x -> x.roster(), -100);
    }
    emptiesTheTape(SOME, "5h;6h;366h", "calendar()", x -> x.calendar(), -106);
    emptiesTheTape(SOME, Due.repeated("5h", ';', 19), "calendar()", x -> x.calendar(), -154);
    emptiesTheTape(FULL, "5h", "calendar()", x -> x.calendar(), -100);
    emptiesTheTape(FULL, "kh", "rules(6)", x -> x.rules(6), -100);
    emptiesTheTape(SOME, "kh;kh;kh;kh;kh;kh;kh", "rules(3)", x -> x.rules(3), -118);
    // Stands as 5h, 5h, 8n, 9n, 15e, 365p.
    String whole = "5h=0;5h=0;8n=1;9n=1;15e=1;365p=3";
    emptiesTheTape(SOME, whole + ";", "roster()", x -> x.roster(), -132);
    emptiesTheTape(SOME, whole + ";", "judge()", x -> x.judge(), -132);
    emptiesTheTape(SOME, "5h=2", "roster()", x -> x.roster(), -103);
    emptiesTheTape(SOME, "5h=0;5h=0;8n=3;9n=1;15e=1;365p=3", "roster()", x -> x.roster(), Due.NOT);
    emptiesTheTape(SOME, "5h=0;5h=0;8n=0;9n=1;15e=3;365p=3", "roster()", x -> x.roster(), Due.NOT);
    emptiesTheTape(SOME, "5h=0;5h=0;8n=3;9n=3;15e=1;365p=3", "judge()", x -> x.judge(), 4);
    emptiesTheTape(SOME, whole, "judge()", x -> x.judge(), 300);
  }

  private static void readWithoutDuties() {
    Due.by("Promises 33, 34: STATE: there are no DUTIES (THE TAPE is empty then, too)");
    String[] texts = {"", "x", "5h=0"};
    for (String text : texts) {
      emptiesTheTape(NEW, text, "judge()", x -> x.judge(), Due.STATE);
      emptiesTheTape(NEW, text, "roster()", x -> x.roster(), Due.STATE);
    }
  }

  // ---- what is asked

  private static void asked() {
    Due.by("Answers: what is asked changes nothing but THE PAPER");
    State[] states = {SOME, FULL};
    for (State s : states) {
      for (int part = 0; part < 2; part++) {
        int each = part;
        refused(s, "what is asked, part " + part, x -> Asked.of(x, each)[0], Asked.of(s.made.get(), part)[0]);
      }
      refused(s, "all LOADS", RefusedTest::askOrders, 0);
      refused(s, "get(0, 29)", x -> x.get(0, 29), s == FULL ? 90 : Due.NO_PLACE);
      refused(s, "paper(0)", x -> x.paper(0), s == FULL ? '0' : '5');
      refused(s, "may(0, 1)", x -> x.may(0, 1), 1);
      emptiesTheTape(s, "held=1", "pick()", x -> x.pick(), s == FULL ? (1 << 23) - 1 : 0b111011);
      same(s, "spell()", x -> x.spell(), s == FULL ? 159 : 32, x -> { }, false);
    }
    Due.by("Promise 42: THE IMAGE is taken (nothing else changes)");
    imageAlone();
  }

  private static long askOrders(FairTurns x) {
    for (int kind = 0; kind < 4; kind++) {
      for (int what = 0; what < 3; what++) {
        x.lesser(kind, what);
        x.audit(kind, what);
      }
      x.load(kind, 0);
      x.next(kind, 0);
    }
    return 0;
  }

  private static void imageAlone() {
    for (int part = 0; part < 10; part++) {
      FairTurns x = some();
      Due.is("image()", x.image(), 4);
      long[] wants = Asked.of(some(), part);
      long[] gots = Asked.of(x, part);
      for (int i = 0; i < wants.length; i++) Due.is("answer " + i + " of part " + part + " behind image()", gots[i], wants[i]);
      FairTurns y = some();
      y.image();
      y.undo();
      gots = Asked.of(y, part);
      for (int i = 0; i < wants.length; i++) Due.is("answer " + i + " of part " + part + " behind image() and undo()", gots[i], wants[i]);
    }
  }
}
