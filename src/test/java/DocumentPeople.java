// DocumentTest's part of ==== 1: people, kinds, duties, rules, loads.
final class DocumentPeople {
  private static final String LETTERS = "henp";

  private DocumentPeople() {}

  static void read(Document d) {
    people(d);
    ranks(d);
    kinds(d);
    heads(d);
    past(d);
    neutral(d);
    duties(d);
    standing(d);
    openOrHeld(d);
    dislikes(d);
    rules(d);
    may(d);
    loads(d);
    burdens(d);
    vectors(d);
  }

  private static void people(Document d) {
    d.says("==== 1 PEOPLE 0 .. 7, as they come,");
    FairTurns x = new FairTurns();
    for (int one = 0; one < 8; one++) Due.is("comes(0)", x.comes(0), one);
    Due.is("comes(0), a ninth", x.comes(0), Due.FULL);
    Due.is("of(7, 0)", x.of(7, 0), 0);
    Due.is("of(8, 0)", x.of(8, 0), Due.NONE);
    d.says("each HERE or gone (for good),");
    Due.is("of(3, 1)", x.of(3, 1), 1);
    x.goes(3);
    Due.is("of(3, 1)", x.of(3, 1), 0);
    Due.is("of(4, 1)", x.of(4, 1), 1);
    Due.is("comes(0), none comes back", x.comes(0), Due.FULL);
    Due.is("goes(3), again", x.goes(3), Due.STATE);
  }

  private static void ranks(Document d) {
    d.says("of a RANK: 0 MEMBER; 1 SENIOR under MEMBER; 2 CHIEF under SENIOR; 3 GUEST under MEMBER.");
    FairTurns x = new FairTurns();
    for (int rank = 3; rank >= 0; rank--) Due.is("comes(" + rank + ")", x.comes(rank), 3 - rank);
    for (int rank = 3; rank >= 0; rank--) Due.is("of(" + (3 - rank) + ", 0)", x.of(3 - rank, 0), rank);
    Due.is("comes(4)", x.comes(4), Due.NONE);
    Due.is("comes(-1)", x.comes(-1), Due.NONE);
  }

  private static void kinds(Document d) {
    d.says("KINDS of duties, in this order, with BURDENS: 0 HOLIDAY (letter h) 5, 1 EVE (e) 3, 2 NIGHT (n) 2, 3 PLAIN (p) 1.");
    int[] burdens = {5, 3, 2, 1};
    for (int kind = 0; kind < 4; kind++) {
      FairTurns x = Due.with(1, "9" + LETTERS.charAt(kind));
      Due.is("dutyOf(0, 1) of " + LETTERS.charAt(kind), x.dutyOf(0, 1), kind);
      x.hold(0, 0);
      Due.is("of(0, 2) of " + LETTERS.charAt(kind), x.of(0, 2), burdens[kind]);
      Due.paperIs(x, "9" + LETTERS.charAt(kind) + "=0");
    }
  }

  private static void heads(Document d) {
    d.says("HEAD of one in a KIND: MEMBER, SENIOR 0; CHIEF what a MEMBER has, and 1 more for HOLIDAY and EVE; GUEST what a MEMBER has, and 2 more.");
    int[][] heads = {{0, 0, 0, 0}, {0, 0, 0, 0}, {1, 1, 0, 0}, {2, 2, 2, 2}};
    FairTurns x = new FairTurns();
    for (int rank = 0; rank < 4; rank++) {
      x.comes(rank);
      for (int kind = 0; kind < 4; kind++) Due.is("HEAD of RANK " + rank + " in " + kind, x.of(rank, 20 + kind), heads[rank][kind]);
    }
  }

  private static void past(Document d) {
    d.says("PAST of one in a KIND (0 .. 999; as it comes: NEUTRAL).");
    FairTurns x = Due.members(1);
    for (int kind = 0; kind < 4; kind++) {
      Due.is("past, 999", x.past(0, kind, 999), 0);
      Due.is("past, 1000", x.past(0, kind, 1000), Due.BAD);
      Due.is("past, -1", x.past(0, kind, -1), Due.BAD);
      Due.is("past, 10 and the KIND", x.past(0, kind, 10 + kind), 999);
    }
    x.comes(3);
    for (int kind = 0; kind < 4; kind++) Due.is("PAST of a joiner", x.of(1, 10 + kind), 10 + kind);
  }

  private static void neutral(Document d) {
    d.says("NEUTRAL in a KIND: PAST of all others who are HERE, together, over how many these are (cut); 0, if there are none.");
    FairTurns x = Due.members(3);
    x.past(0, 2, 3);
    x.past(1, 2, 4);
    x.past(2, 2, 4);
    Due.is("11 over 3", x.neutral(2), 3);
    x.goes(0);
    Due.is("8 over 2", x.neutral(2), 4);
    Due.is("another KIND", x.neutral(1), 0);
    x.goes(1);
    x.goes(2);
    Due.is("none are HERE", x.neutral(2), 0);
  }

  private static void duties(Document d) {
    d.says("DUTIES 0 .. 23, as they come: a DAY (0 .. 365), a KIND.");
    FairTurns x = new FairTurns();
    int[] days = {365, 0, 17};
    for (int duty = 0; duty < 24; duty++) Due.is("duty", x.duty(days[duty % 3], duty % 4), duty);
    Due.is("duty, a 25th", x.duty(0, 0), Due.FULL);
    for (int duty = 0; duty < 24; duty++) {
      Due.is("DAY of " + duty, x.dutyOf(duty, 0), days[duty % 3]);
      Due.is("KIND of " + duty, x.dutyOf(duty, 1), duty % 4);
    }
    Due.is("dutyOf(24, 0)", x.dutyOf(24, 0), Due.NONE);
    FairTurns y = new FairTurns();
    Due.is("duty(366, 0)", y.duty(366, 0), Due.BAD);
    Due.is("duty(-1, 0)", y.duty(-1, 0), Due.BAD);
  }

  private static void standing(Document d) {
    d.says("They stand by DAYS, of one DAY by numbers.");
    FairTurns x = Due.with(0, "9p;3h;9h;3n;0e;365h;3e");
    int[] standing = {4, 1, 3, 6, 0, 2, 5};
    for (int i = 0; i < 7; i++) Due.is("stands(" + i + ")", x.stands(i), standing[i]);
  }

  private static void openOrHeld(Document d) {
    d.says("Each is OPEN, or HELD by one who is HERE and MAY hold it.");
    FairTurns x = Due.with(3, "1h;1e;1n");
    Due.is("dutyOf(0, 2)", x.dutyOf(0, 2), Due.NOBODY);
    for (int duty = 0; duty < 3; duty++) Due.is("hold", x.hold(duty, duty), Due.NOBODY);
    Due.is("dutyOf(1, 2)", x.dutyOf(1, 2), 1);
    x.goes(0);
    Due.is("dutyOf(0, 2), the holder has gone", x.dutyOf(0, 2), Due.NOBODY);
    Due.rules(x, 1, "ke");
    Due.is("dutyOf(1, 2), the holder may not", x.dutyOf(1, 2), Due.NOBODY);
    Due.is("dutyOf(2, 2)", x.dutyOf(2, 2), 2);
  }

  private static void dislikes(Document d) {
    d.says("DISLIKE (0 .. 9; 0 at first) of one for a DUTY.");
    FairTurns x = Due.with(2, "1h;2h");
    Due.is("dislike(1, 0, 9)", x.dislike(1, 0, 9), 0);
    Due.is("dislike(1, 0, 10)", x.dislike(1, 0, 10), Due.BAD);
    Due.is("dislike(1, 0, -1)", x.dislike(1, 0, -1), Due.BAD);
    Due.is("dislike(0, 0, 0), another one", x.dislike(0, 0, 0), 0);
    Due.is("dislike(1, 1, 0), another DUTY", x.dislike(1, 1, 0), 0);
    Due.is("dislike(1, 0, 0)", x.dislike(1, 0, 0), 9);
  }

  private static void rules(Document d) {
    d.says("RULES of one (8 at most; none at first):");
    FairTurns x = Due.with(2, "0h;4h;5h;9h;10h;365e");
    Due.is("of(0, 4)", x.of(0, 4), 0);
    Due.is("eight", Due.rules(x, 1, "kh;kh;kh;kh;kh;kh;kh;kh"), 8);
    Due.is("a ninth", Due.rules(x, 1, "kh"), -100);
    Due.is("of(1, 4)", x.of(1, 4), 8);
    Due.is("of(0, 4)", x.of(0, 4), 0);
    d.says("SPAN, not on DAYS from a to b;");
    Due.is("rules(0)", Due.rules(x, 0, "d4-9"), 1);
    mayIs(x, 0, 1, 0, 0, 0, 1, 1);
    d.says("SORT, not of a KIND;");
    x.frees(0);
    Due.is("rules(0)", Due.rules(x, 0, "kh"), 1);
    mayIs(x, 0, 0, 0, 0, 0, 0, 1);
    d.says("BEAT, only on DAYS whose remainder by n (2 .. 9) is r (0 .. n less 1).");
    x.frees(0);
    Due.is("rules(0)", Due.rules(x, 0, "r5:4"), 1);
    mayIs(x, 0, 0, 1, 0, 1, 0, 0);
    x.frees(0);
    Due.is("rules(0)", Due.rules(x, 0, "r9:0"), 1);
    mayIs(x, 0, 1, 0, 0, 1, 0, 0);
    String[] not = {"r1:0", "r10:0", "r0:0", "r9:9", "r2:2"};
    int[] faults = {1, 1, 1, 3, 3};
    for (int i = 0; i < not.length; i++) Due.is(not[i], Due.rules(x, 0, not[i]), -100 - faults[i]);
  }

  private static void mayIs(FairTurns x, int one, int... want) {
    for (int duty = 0; duty < want.length; duty++) Due.is("may(" + one + ", " + duty + ")", x.may(one, duty), want[duty]);
  }

  private static void may(Document d) {
    d.says("One MAY hold a DUTY: HERE, and no RULE is against it.");
    FairTurns x = Due.with(2, "1h;2h;3h;4e");
    mayIs(x, 0, 1, 1, 1, 1);
    Due.is("rules(0): each of them is to be kept", Due.rules(x, 0, "d1-1;ke;d3-3"), 3);
    mayIs(x, 0, 0, 1, 0, 0);
    mayIs(x, 1, 1, 1, 1, 1);
    x.goes(0);
    mayIs(x, 0, 0, 0, 0, 0);
    Due.is("hold(1, 0)", x.hold(1, 0), Due.NOT);
  }

  private static void loads(Document d) {
    d.says("LOAD of one in a KIND: PAST plus HEAD plus how many DUTIES of that KIND are HELD by it.");
    FairTurns x = new FairTurns();
    x.comes(2);
    x.past(0, 0, 40);
    x.past(0, 2, 50);
    Due.calendar(x, "1h;2h;3h;4n;5n");
    for (int duty = 0; duty < 4; duty++) x.hold(duty, 0);
    Due.is("of(0, 30): 40, 1 and 3", x.of(0, 30), 44);
    Due.is("of(0, 31): 0, 1 and 0", x.of(0, 31), 1);
    Due.is("of(0, 32): 50, 0 and 1", x.of(0, 32), 51);
    Due.is("of(0, 33)", x.of(0, 33), 0);
  }

  private static void burdens(Document d) {
    d.says("BURDEN: for each KIND its BURDEN times (PAST plus how many are HELD), all together.");
    FairTurns x = new FairTurns();
    x.comes(3);
    for (int kind = 0; kind < 4; kind++) x.past(0, kind, kind + 1);
    Due.is("5 and 3 times 2 and 2 times 3 and 4", x.of(0, 2), 21);
    Due.calendar(x, "1h;2e;3e;4n");
    for (int duty = 0; duty < 4; duty++) x.hold(duty, 0);
    Due.is("and 5 and 3 and 3 and 2", x.of(0, 2), 34);
  }

  private static void vectors(Document d) {
    d.says("VECTOR of a KIND: LOADS of all who are HERE, the greatest first.");
    FairTurns x = Due.members(5);
    int[] past = {3, 8, 5, 9, 5};
    for (int one = 0; one < 5; one++) x.past(one, 1, past[one]);
    x.goes(3);
    int[] vector = {8, 5, 5, 3};
    for (int i = 0; i < 4; i++) Due.is("load(1, " + i + ")", x.load(1, i), vector[i]);
    Due.is("load(1, 4)", x.load(1, 4), Due.NONE);
  }
}
