// DocumentTest's part of ==== 2: paths, filling, lesser vectors, rings.
final class DocumentSharing {
  private DocumentSharing() {}

  static void read(Document d) {
    pathBegins(d);
    pathGoesOn(d);
    stepByStep(d);
    shifted(d);
    filled(d);
    filledAll(d);
    lesser(d);
    rings(d);
    done(d);
    gain(d);
    bestRing(d);
  }

  // One may hold what is on these days alone; they rise.
  private static void onlyOn(FairTurns x, int one, int... days) {
    StringBuilder text = new StringBuilder();
    int begin = 0;
    for (int day : days) {
      if (day > begin) text.append(text.length() == 0 ? "d" : ";d").append(begin).append('-').append(day - 1);
      begin = day + 1;
    }
    if (begin < 366) text.append(text.length() == 0 ? "d" : ";d").append(begin).append("-365");
    if (Due.rules(x, one, text.toString()) < 1) Due.is("rules of " + text, -1, 1);
  }

  private static void holdersAre(String what, FairTurns x, int... holders) {
    for (int duty = 0; duty < holders.length; duty++) Due.is(what + ": dutyOf(" + duty + ", 2)", x.dutyOf(duty, 2), holders[duty]);
  }

  private static void pathBegins(Document d) {
    d.says("==== 2 A PATH in a KIND begins with an OPEN DUTY,");
    FairTurns x = Due.with(2, "1h;2e");
    Due.is("fill(0)", x.fill(0), 1);
    Due.is("fill(0), nothing OPEN is left", x.fill(0), 0);
    holdersAre("filled", x, 0, Due.NOBODY);
    d.says("or with one who holds DUTIES of it.");
    x.past(0, 0, 1);
    Due.is("lesser(0, 1): who holds a HOLIDAY", x.lesser(0, 1), 0);
    x.past(0, 1, 9);
    Due.is("lesser(1, 0): none holds an EVE", x.lesser(1, 0), 0);
  }

  private static void pathGoesOn(Document d) {
    d.says("From a DUTY it goes on to each who MAY hold it, by numbers;");
    FairTurns x = Due.with(4, "1h");
    Due.rules(x, 0, "kh");
    Due.is("fill(0)", x.fill(0), 1);
    holdersAre("1 is the first who may", x, 1);
    d.says("from one of PEOPLE to DUTIES of that KIND it holds, by numbers.");
    // 0 alone may hold the OPEN one; duty 0 goes on to 3, duty 1, which stands first, to 2; the EVE to 1.
    FairTurns y = Due.with(4, "20h;10h;30h;5e");
    onlyOn(y, 1, 5);
    onlyOn(y, 2, 10);
    onlyOn(y, 3, 20);
    y.hold(0, 0);
    y.hold(1, 0);
    y.hold(3, 0);
    Due.is("fill(0)", y.fill(0), 1);
    holdersAre("by numbers of DUTIES", y, 3, 0, 0, 0);
  }

  private static void stepByStep(Document d) {
    d.says("All are come to step by step: from those that were come to first, each once.");
    // Duty 3 goes on to 0 and 1, 0's to 2, 1's to 4, and only then 2's to 3.
    FairTurns x = Due.with(5, "10h;20h;30h;100h");
    onlyOn(x, 0, 10, 100);
    onlyOn(x, 1, 30, 100);
    onlyOn(x, 2, 10, 20);
    onlyOn(x, 3, 20);
    onlyOn(x, 4, 30);
    x.hold(0, 0);
    x.hold(1, 2);
    x.hold(2, 1);
    Due.is("fill(0)", x.fill(0), 1);
    holdersAre("4 is come to ahead of 3", x, 0, 2, 4, 1);
    d.says("So each one that is come to has a DUTY by which, and that DUTY had one from whom it was come to.");
    FairTurns y = Due.with(2, "10h;20h;30h");
    onlyOn(y, 1, 10, 20);
    y.hold(0, 0);
    y.hold(1, 0);
    Due.is("fill(0)", y.fill(0), 1);
    holdersAre("1 was come to by duty 0", y, 1, 0, 0);
  }

  private static void shifted(Document d) {
    d.says("SHIFTED to one: it takes the DUTY by which it was come to; who held that takes the one by which that one was come to,"
        + " and so on to the beginning.");
    FairTurns x = Due.with(4, "10h;20h;30h;40h");
    onlyOn(x, 0, 10, 20);
    onlyOn(x, 1, 20, 30);
    onlyOn(x, 2, 30, 40);
    onlyOn(x, 3, 40);
    for (int duty = 1; duty < 4; duty++) x.hold(duty, duty - 1);
    Due.is("fill(0)", x.fill(0), 1);
    holdersAre("all take the one ahead", x, 0, 1, 2, 3);
    FairTurns y = Due.with(3, "10h;20h;30h");
    onlyOn(y, 1, 20, 30);
    onlyOn(y, 2, 30);
    y.hold(0, 0);
    y.hold(1, 0);
    y.hold(2, 1);
    Due.is("eases(0)", y.eases(0), 1);
    holdersAre("from 0 on to 2", y, 0, 1, 2);
  }

  private static void filled(Document d) {
    d.says("FILLED, a KIND: its OPEN DUTIES as they stand, one after the other:");
    FairTurns x = Due.with(2, "20h;10h;15e");
    Due.is("fill(0)", x.fill(0), 2);
    holdersAre("the earlier DAY first, the EVE not", x, 1, 0, Due.NOBODY);
    d.says("of all that the PATH from it comes to the one with the least LOAD, of like ones the first come to, is SHIFTED to;");
    FairTurns y = Due.with(4, "1h");
    int[] past = {3, 2, 1, 1};
    for (int one = 0; one < 4; one++) y.past(one, 0, past[one]);
    Due.is("fill(0)", y.fill(0), 1);
    holdersAre("2 of LOADS 3 2 1 1", y, 2);
    FairTurns head = new FairTurns();
    head.comes(3);
    head.comes(2);
    head.duty(1, 0);
    head.duty(2, 0);
    Due.is("fill(0), GUEST and CHIEF", head.fill(0), 2);
    holdersAre("HEAD 2 and 1", head, 1, 0);
    d.says("there is nobody: it stays OPEN.");
    FairTurns z = Due.with(1, "1h;2h;3h");
    Due.rules(z, 0, "d2-2");
    Due.is("fill(0)", z.fill(0), 2);
    holdersAre("none may on day 2", z, 0, Due.NOBODY, 0);
  }

  private static void filledAll(Document d) {
    d.says("FILLED, all: KINDS in their order.");
    FairTurns x = Due.with(2, "1p;2n;3e;4h;5p");
    Due.rules(x, 1, "kn");
    Due.is("fill(-1)", x.fill(-1), 5);
    holdersAre("each KIND by its own LOADS", x, 0, 0, 0, 0, 1);
  }

  private static void lesser(Document d) {
    d.says("LESSER, a KIND's VECTOR can be made: for holders by numbers:"
        + " is there, of all that the PATH from one holder (it is come to as the first) comes to, one with a LOAD that is 2 or more below its own:"
        + " the one with the least LOAD, of like ones the first come to.");
    FairTurns x = Due.with(4, "1h;2h;3h;4h;5h");
    for (int duty = 0; duty < 3; duty++) x.hold(duty, 1);
    x.hold(3, 0);
    lesserIs("LOADS 1 3 0 0", x, 1, 1, 2);
    x.past(2, 0, 1);
    lesserIs("LOADS 1 3 1 0", x, 1, 1, 3);
    x.past(3, 0, 2);
    lesserIs("LOADS 1 3 1 2", x, 1, 1, 0);
    x.past(0, 0, 1);
    x.past(2, 0, 2);
    lesserIs("LOADS 2 3 2 2", x, 0, Due.NOBODY, Due.NOBODY);
    x.past(2, 0, 1);
    Due.rules(x, 2, "kh");
    lesserIs("2 has 2 less, and may not", x, 0, Due.NOBODY, Due.NOBODY);
    d.says("The first such holder is FROM, the one is TO.");
    FairTurns y = Due.with(3, "1h;2h;3h;4h;5h");
    for (int duty = 0; duty < 5; duty++) y.hold(duty, duty < 2 ? 0 : 1);
    lesserIs("LOADS 2 3 0", y, 1, 0, 2);
    Due.is("eases(0)", y.eases(0), 2);
    holdersAre("duty 0 from 0, then duty 2 from 1", y, 2, 0, 0, 1, 1);
  }

  private static void lesserIs(String what, FairTurns x, int can, int from, int to) {
    Due.is(what + ": lesser(0, 0)", x.lesser(0, 0), can);
    Due.is(what + ": lesser(0, 1)", x.lesser(0, 1), from);
    Due.is(what + ": lesser(0, 2)", x.lesser(0, 2), to);
  }

  // Each holds the duty of its number, and dislikes all by 9 but for what is told.
  private static FairTurns ownDisliked(int people) {
    FairTurns x = Due.withDuties(people, people, 2);
    for (int one = 0; one < people; one++) {
      x.hold(one, one);
      for (int duty = 0; duty < people; duty++) x.dislike(one, duty, 9);
    }
    return x;
  }

  private static void ringIs(String what, FairTurns x, int gain, int... duties) {
    Due.is(what + ": ring(0)", x.ring(0), gain);
    Due.is(what + ": ring(1)", x.ring(1), duties.length);
    for (int k = 0; k < duties.length; k++) Due.is(what + ": ring(" + (10 + k) + ")", x.ring(10 + k), duties[k]);
  }

  private static void rings(Document d) {
    d.says("RINGS: 2 to 4 DUTIES of one KIND, HELD by unlike ones,"
        + " each of whom MAY hold the DUTY of the one ahead in the row (the first the last one's): told with the least DUTY first.");
    FairTurns x = ownDisliked(5);
    // 3 likes 1's, 1 likes 4's, 4 likes 2's, 2 likes 3's: a row in which each likes the one ahead is 1, 3, 2, 4.
    x.dislike(3, 1, 0);
    x.dislike(1, 4, 0);
    x.dislike(4, 2, 0);
    x.dislike(2, 3, 0);
    ringIs("four, the least first", x, 36, 1, 3, 2, 4);
    Due.rules(x, 1, "d4-4");
    ringIs("1 may not hold 4's: 27 less 9 of three", x, 18, 1, 3, 2);
    FairTurns like = Due.with(2, "1h;2h;3h;4e");
    like.hold(0, 0);
    like.hold(1, 0);
    like.hold(3, 1);
    like.dislike(0, 0, 9);
    Due.is("both of 0, one OPEN, one of another KIND: ring(0)", like.ring(0), Due.NOBODY);
    like.hold(2, 1);
    ringIs("held by 0 and 1", like, 9, 0, 2);
  }

  private static void done(Document d) {
    d.says("DONE, each takes the DUTY ahead of its own (the first the last).");
    FairTurns x = ownDisliked(5);
    x.dislike(3, 1, 0);
    x.dislike(1, 4, 0);
    x.dislike(4, 2, 0);
    x.dislike(2, 3, 0);
    Due.is("turn(1)", x.turn(1), 1);
    holdersAre("the ring 1 3 2 4 is DONE", x, 0, 3, 4, 2, 1);
  }

  private static void gain(Document d) {
    d.says("GAIN: DISLIKES of holders for what they hold, less those behind it.");
    FairTurns x = Due.with(2, "1h;2h");
    x.hold(0, 0);
    x.hold(1, 1);
    x.dislike(0, 0, 7);
    x.dislike(1, 1, 4);
    x.dislike(0, 1, 2);
    x.dislike(1, 0, 3);
    Due.is("7 and 4 less 2 and 3", x.ring(0), 6);
    Due.is("disliked()", x.disliked(), 11);
    Due.is("turn(1)", x.turn(1), 1);
    Due.is("disliked()", x.disliked(), 5);
  }

  private static void bestRing(Document d) {
    d.says("BEST RING: the greatest GAIN (above 0);");
    FairTurns x = Due.withDuties(4, 4, 3);
    for (int one = 0; one < 4; one++) x.hold(one, one);
    Due.is("GAIN 0: ring(0)", x.ring(0), Due.NOBODY);
    x.dislike(2, 2, 1);
    for (int one = 0; one < 4; one++) if (one != 3) x.dislike(one, one == 2 ? 0 : 2, 1);
    x.dislike(2, 1, 1);
    ringIs("GAIN 1: 3 alone takes 2's, 2 takes 3's", x, 1, 2, 3);
    d.says("of like ones that with the fewest DUTIES,");
    FairTurns two = ownDisliked(5);
    for (int duty = 0; duty < 3; duty++) two.dislike(duty, (duty + 2) % 3, 3);
    ringIs("three of 6 each", two, 18, 0, 1, 2);
    two.dislike(3, 4, 0);
    two.dislike(4, 3, 0);
    ringIs("two of 9 each, too", two, 18, 3, 4);
    d.says("then with the least first DUTY, then second, and so on.");
    FairTurns y = ownDisliked(4);
    for (int one = 0; one < 4; one++) for (int duty = 0; duty < 4; duty++) if (one != duty) y.dislike(one, duty, 4);
    y.dislike(0, 0, 4);
    ringIs("each of four gains 5 but 0", y, 15, 1, 2, 3);
    y.dislike(0, 0, 9);
    ringIs("each of four gains 5", y, 20, 0, 1, 2, 3);
    Due.rules(y, 1, "d0-0");
    ringIs("1 may not hold 0's", y, 20, 0, 2, 1, 3);
    Due.rules(y, 0, "d3-3");
    ringIs("0 may not hold 3's", y, 20, 0, 2, 3, 1);
  }
}
