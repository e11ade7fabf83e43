// Promises 24 to 28, and the terms they use: a test of its own for each sentence that names a boundary.
public final class YearsBoundsTest {
  public static void main(String[] args) {
    closeNeedsAllHeld();
    closeWithoutDuties();
    yearsGoOn();
    pastAtMost();
    pastOfEachKind();
    whatCloseLeaves();
    spread();
    envy();
    loadsTogether();
    auditRefused();
    nextOrder();
    nextPlaces();
    nearDays();
    nearHolders();
    nearAll();
    heaviest();
    heaviestOfSeveral();
    Due.close("YearsBoundsTest");
  }

  // ---- promise 24

  private static void closeNeedsAllHeld() {
    Due.by("Promise 24: STATE: a DUTY is OPEN");
    for (int open = 0; open < 24; open += 23) {
      FairTurns x = Due.withDuties(8, 24, 1);
      x.fill(-1);
      int holder = x.open(open);
      Due.is("close(), duty " + open + " is OPEN", x.close(), Due.STATE);
      Due.is("told(2) stays", x.told(2), 24);
      Due.is("told(4) stays", x.told(4), 0);
      Due.is("of(0, 11) stays", x.of(0, 11), 0);
      x.hold(open, holder);
      Due.is("close(), all are HELD", x.close(), 1);
      Due.is("told(2)", x.told(2), 0);
    }
    for (int kind = 0; kind < 4; kind++) {
      FairTurns x = Due.withDuties(0, 1, kind);
      Due.is("close(), one OPEN of KIND " + kind, x.close(), Due.STATE);
    }
  }

  private static void closeWithoutDuties() {
    Due.by("Promise 24: YEAR (no DUTY is OPEN, as there are none)");
    FairTurns nobody = new FairTurns();
    Due.is("close(), nobody", nobody.close(), 1);
    FairTurns x = Due.members(8);
    x.past(0, 0, 999);
    Due.is("close(), no DUTIES", x.close(), 1);
    Due.is("of(0, 10)", x.of(0, 10), 999);
    Due.is("of(1, 10)", x.of(1, 10), 0);
    for (int one = 0; one < 8; one++) x.goes(one);
    Due.is("close(), nobody HERE", x.close(), 2);
  }

  private static void yearsGoOn() {
    Due.by("==== 3: YEAR (0 at first) is 1 more");
    FairTurns x = Due.members(1);
    Due.is("told(4) at first", x.told(4), 0);
    for (int year = 1; year <= 200; year++) {
      Due.is("close()", x.close(), year);
      Due.is("told(4)", x.told(4), year);
    }
  }

  private static void pastAtMost() {
    Due.by("==== 3: PAST of each in each KIND is as many more as it holds (999 at most)");
    int[] pasts = {0, 1, 974, 975, 976, 998, 999};
    for (int past : pasts) {
      FairTurns x = Due.withDuties(1, 24, 2);
      x.past(0, 2, past);
      Due.is("fill(2)", x.fill(2), 24);
      Due.is("of(0, 32)", x.of(0, 32), past + 24);
      Due.is("close()", x.close(), 1);
      Due.is("of(0, 12) of " + past + " and 24", x.of(0, 12), Math.min(past + 24, 999));
    }
    FairTurns one = Due.withDuties(1, 1, 2);
    one.past(0, 2, 998);
    one.fill(2);
    one.close();
    Due.is("of(0, 12) of 998 and 1", one.of(0, 12), 999);
    one.hold(one.duty(5, 2), 0);
    one.close();
    Due.is("of(0, 12) of 999 and 1", one.of(0, 12), 999);
    Due.is("neutral(2)", one.neutral(2), 999);
  }

  private static void pastOfEachKind() {
    Due.by("==== 3: PAST of each in each KIND (HEAD is none of it)");
    FairTurns x = new FairTurns();
    x.comes(3);
    x.comes(2);
    for (int kind = 0; kind < 4; kind++) {
      for (int times = 0; times <= kind; times++) x.hold(x.duty(9, kind), 1);
    }
    x.hold(x.duty(9, 3), 0);
    x.close();
    for (int kind = 0; kind < 4; kind++) {
      Due.is("of(1, " + (10 + kind) + ")", x.of(1, 10 + kind), kind + 1);
      Due.is("of(0, " + (10 + kind) + ")", x.of(0, 10 + kind), kind == 3 ? 1 : 0);
    }
    FairTurns gone = Due.withDuties(2, 2, 0);
    gone.past(0, 0, 7);
    gone.hold(0, 0);
    gone.hold(1, 1);
    gone.goes(0);
    gone.hold(0, 1);
    gone.close();
    Due.is("of(0, 10) of one who has gone", gone.of(0, 10), 7);
    Due.is("of(1, 10)", gone.of(1, 10), 2);
  }

  private static void whatCloseLeaves() {
    Due.by("==== 3: no DUTIES are left, no DISLIKES");
    FairTurns x = Due.with(2, "5h;365e");
    Due.rules(x, 0, "kn;kp");
    x.dislike(0, 0, 9);
    x.dislike(1, 1, 9);
    x.hold(0, 0);
    x.hold(1, 1);
    Due.is("disliked()", x.disliked(), 18);
    x.close();
    for (int what = 7; what < 10; what++) Due.is("told(" + what + ")", x.told(what), what == 7 ? 0 : -1);
    Due.is("dutyOf(0, 0)", x.dutyOf(0, 0), Due.NONE);
    Due.is("stands(0)", x.stands(0), Due.NONE);
    Due.is("near()", x.near(), 0);
    Due.is("disliked()", x.disliked(), 0);
    Due.is("spell()", x.spell(), 0);
    Due.is("of(0, 3)", x.of(0, 3), 0);
    Due.is("of(0, 4), RULES stay", x.of(0, 4), 2);
    x.hold(x.duty(5, 0), 0);
    x.hold(x.duty(5, 1), 1);
    Due.is("disliked() of another year", x.disliked(), 0);
  }

  // ---- promise 25

  private static FairTurns withPasts(int kind, int... pasts) {
    FairTurns x = Due.members(pasts.length);
    for (int one = 0; one < pasts.length; one++) x.past(one, kind, pasts[one]);
    return x;
  }

  private static void spread() {
    Due.by("==== 3: SPREAD: the greatest LOAD less the least (of those HERE; 0: none are)");
    Due.is("nobody", new FairTurns().audit(0, 0), 0);
    Due.is("one alone", withPasts(1, 999).audit(1, 0), 0);
    Due.is("all alike", withPasts(2, 7, 7, 7, 7, 7, 7, 7, 7).audit(2, 0), 0);
    Due.is("the greatest there is", withPasts(3, 0, 999).audit(3, 0), 999);
    FairTurns x = withPasts(0, 5, 0, 9, 4);
    Due.is("9 less 0", x.audit(0, 0), 9);
    x.goes(2);
    Due.is("5 less 0", x.audit(0, 0), 5);
    x.goes(1);
    Due.is("5 less 4", x.audit(0, 0), 1);
    x.goes(0);
    Due.is("4 alone", x.audit(0, 0), 0);
    x.goes(3);
    Due.is("nobody HERE", x.audit(0, 0), 0);
    FairTurns guest = new FairTurns();
    guest.comes(0);
    guest.comes(3);
    Due.is("HEAD alone", guest.audit(0, 0), 2);
  }

  private static void envy() {
    Due.by("==== 3: ENVY: of how many twos of those HERE LOADS are 2 or more apart");
    Due.is("nobody", new FairTurns().audit(0, 1), 0);
    Due.is("one alone", withPasts(0, 999).audit(0, 1), 0);
    Due.is("alike", withPasts(0, 4, 4).audit(0, 1), 0);
    Due.is("1 apart", withPasts(0, 4, 5).audit(0, 1), 0);
    Due.is("1 apart, the greater first", withPasts(0, 5, 4).audit(0, 1), 0);
    Due.is("2 apart", withPasts(0, 4, 6).audit(0, 1), 1);
    Due.is("2 apart, the greater first", withPasts(0, 6, 4).audit(0, 1), 1);
    Due.is("three, the ends 2 apart", withPasts(1, 4, 5, 6).audit(1, 1), 1);
    Due.is("all twos of eight", withPasts(3, 0, 2, 4, 6, 8, 10, 12, 14).audit(3, 1), 28);
    Due.is("eight, each 1 apart", withPasts(3, 7, 6, 5, 4, 3, 2, 1, 0).audit(3, 1), 21);
    FairTurns x = withPasts(2, 0, 2, 4);
    x.goes(1);
    Due.is("one has gone", x.audit(2, 1), 1);
    x.goes(0);
    Due.is("two have gone", x.audit(2, 1), 0);
  }

  private static void loadsTogether() {
    Due.by("Promise 25: LOADS of all HERE together (2)");
    Due.is("nobody", new FairTurns().audit(3, 2), 0);
    FairTurns x = new FairTurns();
    for (int one = 0; one < 8; one++) {
      x.comes(3);
      x.past(one, 3, 999);
    }
    Due.is("eight GUESTS of 999", x.audit(3, 2), 8 * 1001);
    for (int day = 0; day < 24; day++) x.duty(day, 3);
    x.fill(3);
    Due.is("and 24 held", x.audit(3, 2), 8 * 1001 + 24);
    Due.is("another KIND", x.audit(2, 2), 16);
    for (int one = 0; one < 8; one++) x.goes(one);
    Due.is("nobody HERE", x.audit(3, 2), 0);
  }

  private static void auditRefused() {
    Due.by("Promise 25: NONE");
    FairTurns x = Due.members(2);
    for (int kind : Due.outside(0, 3)) {
      for (int what = 0; what < 3; what++) Due.is("audit(" + kind + ", " + what + ")", x.audit(kind, what), Due.NONE);
    }
    for (int what : Due.outside(0, 2)) {
      for (int kind = 0; kind < 4; kind++) Due.is("audit(" + kind + ", " + what + ")", x.audit(kind, what), Due.NONE);
    }
    Due.is("audit(0, 3), nobody", new FairTurns().audit(0, 3), Due.NONE);
  }

  // ---- promise 26

  private static void nextOrder() {
    Due.by("==== 3: NEXT: those HERE by LOADS, the least first");
    FairTurns x = withPasts(1, 7, 6, 5, 4, 3, 2, 1, 0);
    for (int i = 0; i < 8; i++) Due.is("next(1, " + i + ")", x.next(1, i), 7 - i);
    Due.by("==== 3: NEXT: of like ones the one with the lesser BURDEN");
    for (int one = 0; one < 8; one++) x.past(one, 3, 7 - one);
    for (int i = 0; i < 8; i++) Due.is("next(0, " + i + "), LOADS alike", x.next(0, i), 7 - i);
    // By eves and plain days 4 bears 12, 5 bears 8, 6 bears 4; a night is 2 more.
    x.past(5, 2, 1);
    Due.is("next(0, 2), 5 bears 2 more", x.next(0, 2), 5);
    x.past(5, 2, 2);
    Due.is("next(0, 2), 4 and 5 alike", x.next(0, 2), 4);
    x.past(5, 2, 3);
    Due.is("next(0, 2), 5 bears more than 4", x.next(0, 2), 4);
    Due.is("next(0, 3), 5 bears more than 4", x.next(0, 3), 5);
    Due.by("==== 3: NEXT: then by numbers");
    FairTurns like = Due.members(8);
    for (int i = 0; i < 8; i++) Due.is("next(2, " + i + "), all alike", like.next(2, i), i);
    FairTurns guest = new FairTurns();
    guest.comes(3);
    guest.comes(0);
    Due.is("next(2, 0), HEAD is LOAD", guest.next(2, 0), 1);
    guest.past(1, 2, 2);
    Due.is("next(2, 0), LOADS alike, HEAD is no BURDEN", guest.next(2, 0), 0);
  }

  private static void nextPlaces() {
    Due.by("Promise 26: NONE");
    FairTurns x = Due.members(8);
    for (int i : Due.outside(0, 7)) Due.is("next(0, " + i + ")", x.next(0, i), Due.NONE);
    for (int kind : Due.outside(0, 3)) Due.is("next(" + kind + ", 0)", x.next(kind, 0), Due.NONE);
    x.goes(0);
    Due.is("next(0, 0), 0 has gone", x.next(0, 0), 1);
    Due.is("next(0, 6), 0 has gone", x.next(0, 6), 7);
    Due.is("next(0, 7), 0 has gone", x.next(0, 7), Due.NONE);
    for (int one = 1; one < 8; one++) x.goes(one);
    Due.is("next(0, 0), all gone", x.next(0, 0), Due.NONE);
    Due.is("next(0, 0), nobody", new FairTurns().next(0, 0), Due.NONE);
  }

  // ---- promise 27

  private static FairTurns twoHeld(int day, int other) {
    FairTurns x = Due.members(2);
    x.hold(x.duty(day, 0), 0);
    x.hold(x.duty(other, 3), 0);
    return x;
  }

  private static void nearDays() {
    Due.by("==== 3: CLOSE: whose DAYS are 1 apart, or the same");
    int[][] days = {{5, 5}, {5, 6}, {6, 5}, {0, 1}, {365, 364}, {0, 0}, {365, 365}};
    for (int[] two : days) Due.is("near() of " + two[0] + " and " + two[1], twoHeld(two[0], two[1]).near(), 1);
    int[][] far = {{5, 7}, {7, 5}, {0, 2}, {363, 365}, {0, 365}, {365, 0}, {364, 0}};
    for (int[] two : far) Due.is("near() of " + two[0] + " and " + two[1], twoHeld(two[0], two[1]).near(), 0);
  }

  private static void nearHolders() {
    Due.by("==== 3: CLOSE: HELD by the same one");
    FairTurns x = twoHeld(5, 6);
    x.hold(1, 1);
    Due.is("near(), held by unlike ones", x.near(), 0);
    x.open(1);
    Due.is("near(), one OPEN", x.near(), 0);
    x.open(0);
    Due.is("near(), both OPEN", x.near(), 0);
    Due.is("near(), no DUTIES", Due.members(2).near(), 0);
  }

  private static void nearAll() {
    Due.by("Promise 27: how many twos");
    FairTurns x = Due.members(1);
    for (int duty = 0; duty < 24; duty++) x.hold(x.duty(9, duty % 4), 0);
    Due.is("near(), 24 of one DAY", x.near(), 24 * 23 / 2);
    FairTurns row = Due.withDuties(1, 24, 1);
    row.fill(1);
    Due.is("near(), 24 DAYS in a row", row.near(), 23);
    FairTurns two = Due.withDuties(2, 24, 1);
    two.fill(1);
    Due.is("near(), 24 DAYS in turns", two.near(), 0);
  }

  // ---- promise 28

  private static void heaviest() {
    Due.by("Promise 28: -5: nobody is");
    FairTurns x = new FairTurns();
    Due.is("heaviest(), nobody", x.heaviest(), Due.NOBODY);
    x.comes(0);
    Due.is("heaviest(), one of BURDEN 0", x.heaviest(), 0);
    x.goes(0);
    Due.is("heaviest(), all gone", x.heaviest(), Due.NOBODY);
    Due.by("Promise 28: Of those HERE");
    x.past(0, 0, 999);
    x.comes(0);
    Due.is("heaviest(), the greatest has gone", x.heaviest(), 1);
  }

  private static void heaviestOfSeveral() {
    Due.by("Promise 28: the one with the greatest BURDEN, of several the first");
    FairTurns x = Due.members(8);
    Due.is("heaviest(), all alike", x.heaviest(), 0);
    x.past(7, 3, 1);
    Due.is("heaviest(), the last by 1", x.heaviest(), 7);
    x.past(3, 3, 1);
    Due.is("heaviest(), 3 and 7 alike", x.heaviest(), 3);
    x.goes(3);
    Due.is("heaviest(), 3 gone", x.heaviest(), 7);
    x.past(6, 1, 1);
    x.past(5, 2, 1);
    Due.is("heaviest(), an eve ahead of a night", x.heaviest(), 6);
    x.past(4, 0, 1);
    Due.is("heaviest(), a holiday ahead of an eve", x.heaviest(), 4);
    FairTurns guest = new FairTurns();
    guest.comes(0);
    guest.comes(3);
    Due.is("heaviest(), HEAD is no BURDEN", guest.heaviest(), 0);
  }
}
