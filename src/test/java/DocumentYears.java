// DocumentTest's part of ==== 3: who comes and goes, years, audits, who is next.
final class DocumentYears {
  private DocumentYears() {}

  static void read(Document d) {
    comes(d);
    goes(d);
    closed(d);
    spread(d);
    envy(d);
    next(d);
    close(d);
  }

  private static void comes(Document d) {
    d.says("==== 3 ONE COMES with PAST as NEUTRAL in each KIND;");
    FairTurns x = Due.members(2);
    int[] past = {1, 4, 9, 12};
    for (int kind = 0; kind < 4; kind++) x.past(0, kind, past[kind]);
    Due.is("comes(2)", x.comes(2), 2);
    int[] neutral = {0, 2, 4, 6};
    for (int kind = 0; kind < 4; kind++) Due.is("PAST of 2 in " + kind, x.of(2, 10 + kind), neutral[kind]);
    Due.is("LOAD of 2 in 1: HEAD is beside it", x.of(2, 31), 3);
    d.says("no RULES, no DISLIKES.");
    FairTurns y = Due.with(1, "1h;2h");
    y.image();
    y.comes(0);
    Due.rules(y, 1, "kh");
    y.dislike(1, 1, 5);
    y.undo();
    Due.is("comes(0), as one did that is undone", y.comes(0), 1);
    Due.is("of(1, 4)", y.of(1, 4), 0);
    Due.is("may(1, 0)", y.may(1, 0), 1);
    Due.is("dislike(1, 1, 0)", y.dislike(1, 1, 0), 0);
  }

  private static void goes(Document d) {
    d.says("One GOES: it isn't HERE; what it held is OPEN.");
    FairTurns x = Due.with(2, "1h;2e;3n");
    x.hold(0, 0);
    x.hold(1, 1);
    x.hold(2, 0);
    Due.is("goes(0)", x.goes(0), 1);
    Due.is("of(0, 1)", x.of(0, 1), 0);
    Due.is("of(0, 3)", x.of(0, 3), 0);
    Due.paperIs(x, "1h=-;2e=1;3n=-");
  }

  private static void closed(Document d) {
    d.says("A YEAR is CLOSED: PAST of each in each KIND is as many more as it holds (999 at most);");
    FairTurns x = Due.with(2, "1h;2h;3h;4e;5p;6p");
    x.past(0, 0, 4);
    x.past(0, 3, 999);
    x.past(1, 3, 998);
    for (int duty = 0; duty < 5; duty++) x.hold(duty, duty == 2 ? 1 : 0);
    x.hold(5, 1);
    x.dislike(0, 0, 6);
    Due.is("close()", x.close(), 1);
    int[][] past = {{6, 1, 0, 999}, {1, 0, 0, 999}};
    for (int one = 0; one < 2; one++) {
      for (int kind = 0; kind < 4; kind++) Due.is("PAST of " + one + " in " + kind, x.of(one, 10 + kind), past[one][kind]);
    }
    d.says("no DUTIES are left, no DISLIKES;");
    Due.is("told(2)", x.told(2), 0);
    Due.is("of(0, 3)", x.of(0, 3), 0);
    Due.is("stands(0)", x.stands(0), Due.NONE);
    Due.is("duty(1, 0)", x.duty(1, 0), 0);
    Due.is("dutyOf(0, 2)", x.dutyOf(0, 2), Due.NOBODY);
    Due.is("dislike(0, 0, 0)", x.dislike(0, 0, 0), 0);
    d.says("YEAR (0 at first) is 1 more.");
    Due.is("told(4) at first", new FairTurns().told(4), 0);
    Due.is("told(4)", x.told(4), 1);
    x.hold(0, 0);
    Due.is("close()", x.close(), 2);
    Due.is("told(4)", x.told(4), 2);
  }

  // Members with so much PAST in a KIND.
  private static FairTurns loads(int kind, int... past) {
    FairTurns x = Due.members(past.length);
    for (int one = 0; one < past.length; one++) x.past(one, kind, past[one]);
    return x;
  }

  private static void spread(Document d) {
    d.says("SPREAD of a KIND: the greatest LOAD less the least (of those HERE; 0: none are).");
    FairTurns x = loads(1, 6, 9, 4, 1);
    Due.is("9 less 1", x.audit(1, 0), 8);
    Due.is("another KIND", x.audit(0, 0), 0);
    x.goes(3);
    Due.is("9 less 4", x.audit(1, 0), 5);
    for (int one = 0; one < 3; one++) x.goes(one);
    Due.is("none are HERE", x.audit(1, 0), 0);
  }

  private static void envy(Document d) {
    d.says("ENVY of a KIND: of how many twos of those HERE LOADS are 2 or more apart.");
    FairTurns x = loads(2, 5, 6, 3, 5, 8);
    Due.is("5 3, 5 8, 6 3, 6 8, 3 5, 3 8, 5 8", x.audit(2, 1), 7);
    x.goes(4);
    Due.is("5 3, 6 3, 3 5", x.audit(2, 1), 3);
    x.goes(2);
    Due.is("5 6 5", x.audit(2, 1), 0);
  }

  private static void next(Document d) {
    d.says("NEXT of a KIND: those HERE by LOADS, the least first;");
    FairTurns x = loads(2, 5, 1, 7, 0, 3);
    nextIs(x, 3, 1, 4, 0, 2);
    x.goes(1);
    nextIs(x, 3, 4, 0, 2);
    d.says("of like ones the one with the lesser BURDEN;");
    FairTurns y = loads(2, 4, 4, 4);
    y.past(0, 3, 2);
    y.past(1, 3, 1);
    nextIs(y, 2, 1, 0);
    FairTurns guest = new FairTurns();
    guest.comes(0);
    guest.comes(3);
    guest.past(0, 2, 2);
    nextIs(guest, 1, 0);
    d.says("then by numbers.");
    nextIs(loads(2, 4, 4, 4, 4), 0, 1, 2, 3);
  }

  private static void nextIs(FairTurns x, int... want) {
    for (int i = 0; i < want.length; i++) Due.is("next(2, " + i + ")", x.next(2, i), want[i]);
    Due.is("next(2, " + want.length + ")", x.next(2, want.length), Due.NONE);
  }

  private static void close(Document d) {
    d.says("CLOSE: twos of DUTIES, HELD by the same one, whose DAYS are 1 apart, or the same.");
    FairTurns x = Due.with(2, "5h;5e;6n;7p;9h;4h");
    for (int duty = 0; duty < 6; duty++) x.hold(duty, 0);
    Due.is("5 5, 5 6, 5 6, 6 7, 5 4, 5 4", x.near(), 6);
    x.hold(1, 1);
    Due.is("5 6, 6 7, 5 4", x.near(), 3);
    x.hold(2, 1);
    Due.is("5 4 of 0, 5 6 of 1", x.near(), 2);
    x.open(5);
    x.open(2);
    Due.is("OPEN ones are of none", x.near(), 0);
  }
}
