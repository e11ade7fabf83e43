// Promises 1 to 8, and the terms they use: a test of its own for each sentence that names a boundary.
public final class PeopleBoundsTest {
  private static final int[] WHATS = {0, 1, 2, 3, 4, 10, 11, 12, 13, 20, 21, 22, 23, 30, 31, 32, 33};

  public static void main(String[] args) {
    nobodyAndNoDuties();
    nothingToShareOut();
    peopleAreEight();
    goneForGood();
    ranks();
    comesAnew();
    neutral();
    goes();
    whatItHeldIsOpen();
    past();
    heads();
    burdens();
    loads();
    ofWhat();
    spans();
    sorts();
    beats();
    eightRules();
    rulesReadSpans();
    rulesReadSortsAndBeats();
    rulesArePartedBySigns();
    rulesOpen();
    rulesAskWhoFirst();
    frees();
    Due.close("PeopleBoundsTest");
  }

  // ---- promise 1

  private static void nobodyAndNoDuties() {
    Due.by("Promise 1: Nobody, no DUTIES");
    FairTurns x = new FairTurns();
    for (int what = 0; what < 24; what++) {
      int want = what == 8 || what == 9 || what > 13 && what < 20 ? -1 : 0;
      Due.is("told(" + what + ") of a new object", x.told(what), want);
    }
    for (int what : WHATS) Due.is("of(0, " + what + ")", x.of(0, what), Due.NONE);
    for (int what = 0; what < 5; what++) Due.is("dutyOf(0, " + what + ")", x.dutyOf(0, what), Due.NONE);
    Due.is("goes(0)", x.goes(0), Due.NONE);
    Due.is("past(0, 0, 0)", x.past(0, 0, 0), Due.NONE);
    Due.is("rules(0)", x.rules(0), Due.NONE);
    Due.is("frees(0)", x.frees(0), Due.NONE);
    Due.is("stands(0)", x.stands(0), Due.NONE);
    Due.is("may(0, 0)", x.may(0, 0), Due.NONE);
    Due.is("dislike(0, 0, 0)", x.dislike(0, 0, 0), Due.NONE);
    Due.is("hold(0, 0)", x.hold(0, 0), Due.NONE);
    Due.is("open(0)", x.open(0), Due.NONE);
    Due.is("clear()", x.clear(), 0);
    Due.is("paper(0)", x.paper(0), Due.NONE);
    for (int list = 0; list < 4; list++) Due.is("get(" + list + ", 0)", x.get(list, 0), Due.NO_PLACE);
    Due.is("undo()", x.undo(), Due.STATE);
    Due.is("image()", x.image(), 0);
    Due.is("undo() of nobody", x.undo(), 0);
  }

  private static void nothingToShareOut() {
    Due.by("Promise 1: nobody is there for any KIND");
    FairTurns x = new FairTurns();
    for (int kind = 0; kind < 4; kind++) {
      Due.is("neutral(" + kind + ")", x.neutral(kind), 0);
      Due.is("fill(" + kind + ")", x.fill(kind), 0);
      Due.is("load(" + kind + ", 0)", x.load(kind, 0), Due.NONE);
      Due.is("next(" + kind + ", 0)", x.next(kind, 0), Due.NONE);
      Due.is("lesser(" + kind + ", 0)", x.lesser(kind, 0), 0);
      Due.is("lesser(" + kind + ", 1)", x.lesser(kind, 1), Due.NOBODY);
      Due.is("lesser(" + kind + ", 2)", x.lesser(kind, 2), Due.NOBODY);
      Due.is("eases(" + kind + ")", x.eases(kind), 0);
      for (int what = 0; what < 3; what++) Due.is("audit(" + kind + ", " + what + ")", x.audit(kind, what), 0);
    }
    Due.is("fill(-1)", x.fill(-1), 0);
    Due.is("disliked()", x.disliked(), 0);
    Due.is("ring(0)", x.ring(0), Due.NOBODY);
    Due.is("turn(24)", x.turn(24), 0);
    Due.is("near()", x.near(), 0);
    Due.is("heaviest()", x.heaviest(), Due.NOBODY);
    Due.is("spell()", x.spell(), 0);
    Due.is("close()", x.close(), 1);
  }

  // ---- promise 2

  private static void peopleAreEight() {
    Due.by("==== 1: PEOPLE 0 .. 7, as they come");
    FairTurns x = new FairTurns();
    for (int one = 0; one < 8; one++) {
      Due.is("of(" + one + ", 0) ahead of it", x.of(one, 0), Due.NONE);
      Due.is("comes", x.comes(0), one);
      Due.is("of(" + one + ", 1)", x.of(one, 1), 1);
    }
    Due.is("told(0)", x.told(0), 8);
    for (int one : Due.outside(0, 7)) Due.is("of(" + one + ", 1)", x.of(one, 1), Due.NONE);
    Due.by("Promise 2: FULL");
    for (int rank = 0; rank < 4; rank++) Due.is("comes(" + rank + "), the ninth", x.comes(rank), Due.FULL);
    Due.is("told(0)", x.told(0), 8);
    Due.is("told(1)", x.told(1), 8);
    Due.by("Promise 2: NONE: rank; FULL, the first that a call's words name");
    for (int rank : Due.outside(0, 3)) Due.is("comes(" + rank + "), the ninth", x.comes(rank), Due.NONE);
  }

  private static void goneForGood() {
    Due.by("==== 1: each HERE or gone (for good)");
    FairTurns x = Due.members(3);
    x.goes(1);
    Due.is("comes, when 1 has gone", x.comes(0), 3);
    Due.is("of(1, 1)", x.of(1, 1), 0);
    Due.is("told(0)", x.told(0), 4);
    Due.is("told(1)", x.told(1), 3);
    for (int one = 4; one < 8; one++) x.comes(0);
    for (int one = 0; one < 8; one++) if (one != 1) x.goes(one);
    Due.is("told(1), all gone", x.told(1), 0);
    Due.is("comes, all eight gone", x.comes(0), Due.FULL);
    Due.is("told(0), all eight gone", x.told(0), 8);
  }

  private static void ranks() {
    Due.by("==== 1: of a RANK: 0 MEMBER; 1 SENIOR; 2 CHIEF; 3 GUEST");
    FairTurns x = new FairTurns();
    for (int rank = 0; rank < 4; rank++) {
      Due.is("comes(" + rank + ")", x.comes(rank), rank);
      Due.is("of(" + rank + ", 0)", x.of(rank, 0), rank);
    }
    Due.by("Promise 2: NONE: rank");
    for (int rank : Due.outside(0, 3)) Due.is("comes(" + rank + ")", x.comes(rank), Due.NONE);
    Due.is("told(0)", x.told(0), 4);
  }

  private static void comesAnew() {
    Due.by("==== 3: ONE COMES with PAST as NEUTRAL in each KIND");
    FairTurns x = Due.members(2);
    for (int kind = 0; kind < 4; kind++) {
      x.past(0, kind, 10 * kind);
      x.past(1, kind, 10 * kind + 3);
    }
    for (int rank = 0; rank < 4; rank++) x.comes(rank);
    for (int one = 2; one < 6; one++) {
      for (int kind = 0; kind < 4; kind++) Due.is("of(" + one + ", " + (10 + kind) + ")", x.of(one, 10 + kind), 10 * kind + 1);
    }
    Due.by("==== 3: ONE COMES with no RULES, no DISLIKES");
    FairTurns y = Due.withDuties(1, 24, 2);
    y.image();
    y.comes(0);
    Due.rules(y, 1, "kn;kh;ke");
    for (int duty = 0; duty < 24; duty++) y.dislike(1, duty, 9);
    y.undo();
    Due.is("comes, where another was undone", y.comes(0), 1);
    Due.is("of(1, 4)", y.of(1, 4), 0);
    for (int duty = 0; duty < 24; duty++) {
      Due.is("may(1, " + duty + ")", y.may(1, duty), 1);
      Due.is("dislike(1, " + duty + ", 0)", y.dislike(1, duty, 0), 0);
    }
  }

  private static void neutral() {
    Due.by("==== 1: NEUTRAL: together, over how many these are (cut)");
    FairTurns x = Due.members(3);
    x.past(0, 0, 1);
    Due.is("1 over 3", x.neutral(0), 0);
    x.past(1, 0, 1);
    Due.is("2 over 3", x.neutral(0), 0);
    x.past(2, 0, 1);
    Due.is("3 over 3", x.neutral(0), 1);
    FairTurns most = Due.members(7);
    for (int one = 0; one < 7; one++) most.past(one, 3, 999);
    Due.is("999 of all seven", most.neutral(3), 999);
    Due.is("the eighth comes", most.comes(3), 7);
    Due.is("of(7, 13)", most.of(7, 13), 999);
    Due.by("==== 1: NEUTRAL: PAST of all others who are HERE");
    x.past(0, 1, 9);
    x.past(1, 1, 4);
    x.goes(0);
    Due.is("9 has gone, 4 and 0 are here", x.neutral(1), 2);
    FairTurns guest = new FairTurns();
    guest.comes(3);
    guest.duty(5, 0);
    guest.hold(0, 0);
    Due.is("neither HEAD nor what is held is PAST", guest.neutral(0), 0);
    Due.by("==== 1: NEUTRAL: 0, if there are none");
    x.goes(1);
    x.past(2, 1, 6);
    Due.is("one is here", x.neutral(1), 6);
    x.goes(2);
    for (int kind = 0; kind < 4; kind++) Due.is("nobody is here, KIND " + kind, x.neutral(kind), 0);
    Due.is("comes, nobody is here", x.comes(0), 3);
    for (int kind = 0; kind < 4; kind++) Due.is("of(3, " + (10 + kind) + ")", x.of(3, 10 + kind), 0);
    Due.by("Promise 6: NONE");
    for (int kind : Due.outside(0, 3)) Due.is("neutral(" + kind + ")", x.neutral(kind), Due.NONE);
  }

  // ---- promise 3

  private static void goes() {
    Due.by("Promise 3: NONE");
    FairTurns x = Due.members(8);
    for (int one : Due.outside(0, 7)) Due.is("goes(" + one + ")", x.goes(one), Due.NONE);
    FairTurns few = Due.members(2);
    Due.is("goes(2) of two", few.goes(2), Due.NONE);
    Due.is("goes(7) of two", few.goes(7), Due.NONE);
    Due.is("told(1)", few.told(1), 2);
    Due.by("Promise 3: how many are HERE");
    for (int one = 7; one >= 0; one--) Due.is("goes(" + one + ")", x.goes(one), one);
    Due.by("Promise 3: STATE: it isn't HERE");
    for (int one = 0; one < 8; one++) Due.is("goes(" + one + ") again", x.goes(one), Due.STATE);
    Due.is("told(0)", x.told(0), 8);
    Due.is("told(1)", x.told(1), 0);
  }

  private static void whatItHeldIsOpen() {
    Due.by("==== 3: One GOES: it isn't HERE; what it held is OPEN");
    FairTurns x = Due.withDuties(2, 24, 1);
    for (int duty = 0; duty < 24; duty++) x.hold(duty, 0);
    x.hold(11, 1);
    Due.is("goes(0)", x.goes(0), 1);
    Due.is("told(3)", x.told(3), 23);
    for (int duty = 0; duty < 24; duty++) Due.is("dutyOf(" + duty + ", 2)", x.dutyOf(duty, 2), duty == 11 ? 1 : Due.NOBODY);
    Due.is("of(0, 3)", x.of(0, 3), 0);
    Due.is("of(1, 3)", x.of(1, 3), 1);
    for (int duty = 0; duty < 24; duty++) Due.is("may(0, " + duty + ")", x.may(0, duty), 0);
  }

  // ---- promise 4

  private static void past() {
    Due.by("==== 1: PAST of one in a KIND (0 .. 999)");
    FairTurns x = Due.members(8);
    for (int kind = 0; kind < 4; kind++) {
      Due.is("past(7, " + kind + ", 999)", x.past(7, kind, 999), 0);
      Due.is("past(7, " + kind + ", 0)", x.past(7, kind, 0), 999);
      Due.is("past(7, " + kind + ", 5)", x.past(7, kind, 5 + kind), 0);
    }
    Due.by("Promise 4: BAD");
    for (int v : Due.outside(0, 999)) Due.is("past(7, 0, " + v + ")", x.past(7, 0, v), Due.BAD);
    for (int kind = 0; kind < 4; kind++) Due.is("of(7, " + (10 + kind) + ")", x.of(7, 10 + kind), 5 + kind);
    Due.is("of(6, 13)", x.of(6, 13), 0);
    Due.by("Promise 4: NONE; BAD, the first that a call's words name");
    for (int one : Due.outside(0, 7)) {
      Due.is("past(" + one + ", 0, 1)", x.past(one, 0, 1), Due.NONE);
      Due.is("past(" + one + ", 0, 1000)", x.past(one, 0, 1000), Due.NONE);
    }
    for (int kind : Due.outside(0, 3)) {
      Due.is("past(0, " + kind + ", 1)", x.past(0, kind, 1), Due.NONE);
      Due.is("past(0, " + kind + ", -1)", x.past(0, kind, -1), Due.NONE);
    }
    FairTurns few = Due.members(2);
    Due.is("past(2, 0, 1) of two", few.past(2, 0, 1), Due.NONE);
  }

  // ---- promise 5

  private static void heads() {
    Due.by("==== 1: HEAD: MEMBER, SENIOR 0; CHIEF 1 for HOLIDAY and EVE; GUEST 2");
    int[][] heads = {{0, 0, 0, 0}, {0, 0, 0, 0}, {1, 1, 0, 0}, {2, 2, 2, 2}};
    for (int rank = 0; rank < 4; rank++) {
      FairTurns x = new FairTurns();
      x.comes(rank);
      for (int kind = 0; kind < 4; kind++) {
        Due.is("of(0, " + (20 + kind) + ") of RANK " + rank, x.of(0, 20 + kind), heads[rank][kind]);
        Due.is("of(0, " + (30 + kind) + ") of RANK " + rank, x.of(0, 30 + kind), heads[rank][kind]);
      }
      x.goes(0);
      Due.is("of(0, 20), gone", x.of(0, 20), heads[rank][0]);
    }
  }

  private static void burdens() {
    Due.by("==== 1: BURDENS: 0 HOLIDAY 5, 1 EVE 3, 2 NIGHT 2, 3 PLAIN 1");
    int[] burdens = {5, 3, 2, 1};
    for (int kind = 0; kind < 4; kind++) {
      FairTurns x = Due.withDuties(1, 1, kind);
      Due.is("of(0, 2), nothing held", x.of(0, 2), 0);
      x.hold(0, 0);
      Due.is("of(0, 2), one held", x.of(0, 2), burdens[kind]);
      x.past(0, kind, 1);
      Due.is("of(0, 2), one held and one past", x.of(0, 2), 2 * burdens[kind]);
    }
    Due.by("==== 1: BURDEN: for each KIND its BURDEN times (PAST plus how many are HELD), all together");
    FairTurns guest = new FairTurns();
    guest.comes(3);
    Due.is("of(0, 2) of a GUEST: no HEAD in it", guest.of(0, 2), 0);
    for (int kind = 0; kind < 4; kind++) guest.past(0, kind, 999);
    for (int day = 0; day < 24; day++) guest.hold(guest.duty(day, 0), 0);
    Due.is("the greatest BURDEN", guest.of(0, 2), 11 * 999 + 24 * 5);
    guest.goes(0);
    Due.is("BURDEN of one who has gone", guest.of(0, 2), 11 * 999);
  }

  private static void loads() {
    Due.by("==== 1: LOAD: PAST plus HEAD plus how many DUTIES of that KIND are HELD by it");
    FairTurns x = new FairTurns();
    x.comes(3);
    x.past(0, 0, 999);
    for (int day = 0; day < 24; day++) x.hold(x.duty(day, 0), 0);
    Due.is("the greatest LOAD", x.of(0, 30), 999 + 2 + 24);
    Due.is("load(0, 0)", x.load(0, 0), 999 + 2 + 24);
    Due.is("of(0, 3)", x.of(0, 3), 24);
    for (int kind = 1; kind < 4; kind++) Due.is("LOAD of another KIND", x.of(0, 30 + kind), 2);
    FairTurns least = Due.members(1);
    for (int kind = 0; kind < 4; kind++) Due.is("the least LOAD", least.of(0, 30 + kind), 0);
  }

  private static void ofWhat() {
    Due.by("Promise 5: NONE");
    FairTurns x = Due.members(2);
    for (int what : WHATS) {
      Due.is("of(1, " + what + ")", x.of(1, what), what == 1 ? 1 : 0);
      Due.is("of(2, " + what + ") of two", x.of(2, what), Due.NONE);
      Due.is("of(-1, " + what + ")", x.of(-1, what), Due.NONE);
    }
    int[] none = {Due.LEAST, -10, -1, 5, 6, 9, 14, 19, 24, 29, 34, 40, Due.MOST};
    for (int what : none) Due.is("of(1, " + what + ")", x.of(1, what), Due.NONE);
    for (int one : Due.outside(0, 1)) Due.is("of(" + one + ", 0)", x.of(one, 0), Due.NONE);
  }

  // ---- promise 7: which RULES are against which DUTIES

  private static void mayOnDays(String rules, int[] days, int[] may) {
    FairTurns x = Due.members(1);
    for (int day : days) x.duty(day, 3);
    if (Due.rules(x, 0, rules) < 1) Due.is("rules(0) of " + rules, -1, 1);
    for (int i = 0; i < days.length; i++) Due.is("may on day " + days[i] + " by " + rules, x.may(0, i), may[i]);
  }

  private static void spans() {
    Due.by("==== 1: SPAN, not on DAYS from a to b");
    mayOnDays("d10-20", new int[] {0, 9, 10, 11, 19, 20, 21, 365}, new int[] {1, 1, 0, 0, 0, 0, 1, 1});
    mayOnDays("d10-10", new int[] {9, 10, 11}, new int[] {1, 0, 1});
    mayOnDays("d0-0", new int[] {0, 1, 365}, new int[] {0, 1, 1});
    mayOnDays("d365-365", new int[] {0, 364, 365}, new int[] {1, 1, 0});
    mayOnDays("d0-365", new int[] {0, 1, 200, 364, 365}, new int[] {0, 0, 0, 0, 0});
    mayOnDays("d1-364", new int[] {0, 1, 364, 365}, new int[] {1, 0, 0, 1});
  }

  private static void sorts() {
    Due.by("==== 1: SORT, not of a KIND");
    String letters = "henp";
    for (int kind = 0; kind < 4; kind++) {
      FairTurns x = Due.members(1);
      for (int each = 0; each < 4; each++) x.duty(5, each);
      Due.is("rules(0)", Due.rules(x, 0, "k" + letters.charAt(kind)), 1);
      for (int each = 0; each < 4; each++) Due.is("may KIND " + each + ", not " + kind, x.may(0, each), each == kind ? 0 : 1);
    }
  }

  private static void beats() {
    Due.by("==== 1: BEAT, only on DAYS whose remainder by n (2 .. 9) is r (0 .. n less 1)");
    for (int n = 2; n <= 9; n++) {
      for (int r = 0; r < n; r++) beat(n, r);
      FairTurns x = Due.members(1);
      Due.is("rules(0), r is n", Due.rules(x, 0, "r" + n + ":" + n), -103);
      Due.is("of(0, 4)", x.of(0, 4), 0);
    }
  }

  private static void beat(int n, int r) {
    FairTurns x = Due.members(1);
    for (int day = 0; day <= 2 * n; day++) x.duty(day, 0);
    int last = x.duty(365, 0);
    Due.is("rules(0)", Due.rules(x, 0, "r" + n + ":" + r), 1);
    for (int day = 0; day <= 2 * n; day++) Due.is("may on day " + day + " by r" + n + ":" + r, x.may(0, day), day % n == r ? 1 : 0);
    Due.is("may on day 365 by r" + n + ":" + r, x.may(0, last), 365 % n == r ? 1 : 0);
  }

  private static void eightRules() {
    Due.by("==== 1: RULES of one (8 at most; none at first)");
    FairTurns x = Due.with(2, "1h;2h;3h;4h;5h;6h;7h;8h;9h");
    Due.is("of(0, 4) at first", x.of(0, 4), 0);
    Due.is("eight at once", Due.rules(x, 0, "d1-1;d2-2;d3-3;d4-4;d5-5;d6-6;d7-7;d8-8"), 8);
    Due.is("of(0, 4)", x.of(0, 4), 8);
    Due.is("of(1, 4)", x.of(1, 4), 0);
    for (int duty = 0; duty < 9; duty++) {
      Due.is("may(0, " + duty + ")", x.may(0, duty), duty == 8 ? 1 : 0);
      Due.is("may(1, " + duty + ")", x.may(1, duty), 1);
    }
    Due.by("==== 4: FAULT of a RULE for which there is no room, where it begins");
    Due.is("the ninth", Due.rules(x, 0, "d9-9"), -100);
    Due.is("the ninth, no text", Due.rules(x, 0, ""), -100);
    Due.is("of(0, 4)", x.of(0, 4), 8);
    Due.is("may(0, 8)", x.may(0, 8), 1);
    Due.is("seven", Due.rules(x, 1, "kp;kp;kp;kp;kp;kp;kp"), 7);
    Due.is("two more", Due.rules(x, 1, "kp;kp"), -103);
    Due.is("two more, the second ends too early", Due.rules(x, 1, "kp;"), -103);
    Due.is("of(1, 4)", x.of(1, 4), 7);
    Due.is("the eighth", Due.rules(x, 1, "d1-1"), 1);
    Due.is("may(1, 0)", x.may(1, 0), 0);
    Due.is("nine at once", Due.rules(Due.members(1), 0, "kp;kp;kp;kp;kp;kp;kp;kp;kp"), -124);
  }

  // ---- promise 7: what a text of RULES is

  private static void rulesAnswer(String text, int want) {
    FairTurns x = Due.members(1);
    Due.is("rules(0) of '" + text + "'", Due.rules(x, 0, text), want);
    Due.is("of(0, 4) behind '" + text + "'", x.of(0, 4), Math.max(want, 0));
    Due.is("told(5) behind '" + text + "'", x.told(5), 0);
  }

  private static void rulesReadSpans() {
    Due.by("==== 4: d a - b (SPAN; DAYS, b not below a)");
    String[] good = {"d0-0", "d0-365", "d365-365", "d364-365", "d000-000", "d00-01", "d1-001", "d7-9"};
    for (String text : good) rulesAnswer(text, 1);
    Due.by("==== 4: FAULT of a number that may not be, where it begins");
    rulesAnswer("d366-366", -101);
    rulesAnswer("d999-999", -101);
    rulesAnswer("d366", -101);
    rulesAnswer("d0-366", -103);
    rulesAnswer("d365-366", -105);
    rulesAnswer("d1-0", -103);
    rulesAnswer("d365-364", -105);
    rulesAnswer("d365-364x", -105);
    rulesAnswer("kh;d12-11;kq", -107);
    Due.by("==== 4: a number is as many figures as stand there, 3 at most");
    rulesAnswer("d0000-1", -104);
    rulesAnswer("d0-0000", -106);
    rulesAnswer("d3650-365", -104);
    rulesAnswer("d3660-365", -101);
    Due.by("==== 4: the length, if it ends too early");
    rulesAnswer("d", -101);
    rulesAnswer("d1", -102);
    rulesAnswer("d123", -104);
    rulesAnswer("d123-", -105);
    Due.by("==== 4: the place of the first byte with which no such text goes on");
    rulesAnswer("d-5", -101);
    rulesAnswer("dd1-2", -101);
    rulesAnswer("d1:2", -102);
    rulesAnswer("d1-2-3", -104);
    rulesAnswer("d1--2", -103);
    rulesAnswer("D1-2", -100);
  }

  private static void rulesReadSortsAndBeats() {
    Due.by("==== 4: k and a KIND's letter (SORT)");
    for (char letter : "henp".toCharArray()) rulesAnswer("k" + letter, 1);
    for (char letter = 1; letter < 128; letter++) {
      if ("henp".indexOf(letter) < 0) rulesAnswer("k" + letter, -101);
    }
    rulesAnswer("k", -101);
    rulesAnswer("khh", -102);
    rulesAnswer("k0", -101);
    Due.by("==== 4: r n : r (BEAT)");
    String[] good = {"r2:0", "r2:1", "r9:0", "r9:8", "r002:001", "r09:08"};
    for (String text : good) rulesAnswer(text, 1);
    rulesAnswer("r0:0", -101);
    rulesAnswer("r1:0", -101);
    rulesAnswer("r10:0", -101);
    rulesAnswer("r999:0", -101);
    rulesAnswer("r2:2", -103);
    rulesAnswer("r9:9", -103);
    rulesAnswer("r9:999", -103);
    rulesAnswer("r0002:1", -101);
    rulesAnswer("r002:0001", -108);
    rulesAnswer("r", -101);
    rulesAnswer("r2", -102);
    rulesAnswer("r2:", -103);
    rulesAnswer("r2-1", -102);
    rulesAnswer("r:1", -101);
    rulesAnswer("r2:1:0", -104);
  }

  private static void rulesArePartedBySigns() {
    Due.by("==== 4: RULES: one or more, parted by ;");
    rulesAnswer("", -100);
    rulesAnswer(";", -100);
    rulesAnswer(";kh", -100);
    rulesAnswer("kh;", -103);
    rulesAnswer("kh;;ke", -103);
    rulesAnswer("kh,ke", -102);
    rulesAnswer("khke", -102);
    rulesAnswer("kh;ke", 2);
    rulesAnswer("d1-2;kh;r2:0;d1-2;kh;r2:0;kh;kh", 8);
    Due.by("==== 4: no blanks");
    rulesAnswer(" ", -100);
    rulesAnswer(" kh", -100);
    rulesAnswer("kh ", -102);
    rulesAnswer("kh; ke", -103);
    rulesAnswer("d1 -2", -102);
    rulesAnswer("d1- 2", -103);
    rulesAnswer("r 2:1", -101);
    Due.by("==== 4: FAULT of a text of 150 bytes");
    rulesAnswer(Due.repeated("x", 'x', 75) + "x", -100);
    rulesAnswer(Due.repeated("d000-365", ';', 16) + ";kh;kh", -172);
  }

  private static void rulesOpen() {
    Due.by("Promise 7: what it held and MAY not hold any more is OPEN");
    FairTurns x = Due.with(2, "9h;10h;20h;21h;10h;20h;15e");
    for (int duty = 0; duty < 7; duty++) x.hold(duty, duty == 4 || duty == 5 ? 1 : 0);
    Due.is("rules(0)", Due.rules(x, 0, "d10-20"), 1);
    Due.paperIs(x, "9h=0;10h=-;10h=1;15e=-;20h=-;20h=1;21h=0");
    Due.is("rules(0), which are against nothing that it holds", Due.rules(x, 0, "kp"), 1);
    Due.is("told(3)", x.told(3), 3);
    Due.is("rules(0), against all", Due.rules(x, 0, "d0-365"), 1);
    Due.paperIs(x, "9h=-;10h=-;10h=1;15e=-;20h=-;20h=1;21h=-");
  }

  private static void rulesAskWhoFirst() {
    Due.by("Promise 7: NONE: one (THE TAPE stays)");
    FairTurns x = Due.members(2);
    String[] texts = {"kh", "kx", ""};
    for (String text : texts) {
      Due.tape(x, text);
      for (int one : Due.outside(0, 1)) Due.is("rules(" + one + ") of '" + text + "'", x.rules(one), Due.NONE);
      Due.is("told(5)", x.told(5), text.length());
    }
    Due.by("Promise 7: STATE: it isn't HERE (THE TAPE stays)");
    x.goes(0);
    for (String text : texts) {
      Due.tape(x, text);
      Due.is("rules(0), gone, of '" + text + "'", x.rules(0), Due.STATE);
      Due.is("told(5)", x.told(5), text.length());
    }
    Due.tape(x, "kh");
    x.rules(0);
    Due.is("rules(1) of what stayed", x.rules(1), 1);
    Due.is("of(0, 4)", x.of(0, 4), 0);
  }

  // ---- promise 8

  private static void frees() {
    Due.by("Promise 8: One has no RULES: how many it had");
    FairTurns x = Due.with(2, "5h");
    Due.is("frees(0) of none", x.frees(0), 0);
    Due.rules(x, 0, "kh;kh;kh;kh;kh;kh;kh;kh");
    Due.rules(x, 1, "kh");
    Due.is("frees(0) of eight", x.frees(0), 8);
    Due.is("of(0, 4)", x.of(0, 4), 0);
    Due.is("of(1, 4)", x.of(1, 4), 1);
    Due.is("may(0, 0)", x.may(0, 0), 1);
    Due.is("eight more", Due.rules(x, 0, "kp;kp;kp;kp;kp;kp;kp;kp"), 8);
    Due.is("may(0, 0) by the eight more", x.may(0, 0), 1);
    x.goes(1);
    Due.is("frees(1), gone", x.frees(1), 1);
    Due.by("Promise 8: NONE");
    for (int one : Due.outside(0, 1)) Due.is("frees(" + one + ")", x.frees(one), Due.NONE);
    Due.is("of(0, 4)", x.of(0, 4), 8);
  }
}
