// Promises 17 to 23, and the terms they use: a test of its own for each sentence that names a boundary.
public final class SharingBoundsTest {
  public static void main(String[] args) {
    fillKinds();
    fillNothing();
    nobodyMay();
    fillTwentyFour();
    leastLoad();
    firstComeTo();
    asTheyStand();
    longestPath();
    eachOnce();
    onlyItsKind();
    load();
    lesserByTwo();
    lesserFirstHolder();
    lesserTo();
    lesserNone();
    easesAsOftenAsItCan();
    easesRefused();
    disliked();
    ringSizes();
    ringOfUnlikeHolders();
    ringGain();
    ringFewest();
    ringLeastDuties();
    ringWhat();
    turnBounds();
    turnAsLongAs();
    turnTwentyFour();
    theLastCall();
    Due.close("SharingBoundsTest");
  }

  // ---- promise 17

  private static void fillKinds() {
    Due.by("Promise 17: A KIND (-1: all) is FILLED: how many came to somebody");
    for (int kind = 0; kind < 4; kind++) {
      FairTurns x = Due.with(1, "1h;2e;3n;4p;5h;6e;7n;8p");
      Due.is("fill(" + kind + ")", x.fill(kind), 2);
      for (int each = 0; each < 4; each++) Due.is("told(" + (20 + each) + ")", x.told(20 + each), each == kind ? 0 : 2);
      Due.is("fill(-1)", x.fill(-1), 6);
      Due.is("fill(-1) again", x.fill(-1), 0);
    }
    Due.by("Promise 17: NONE");
    FairTurns x = Due.with(1, "1h;2e;3n;4p");
    for (int kind : Due.outside(-1, 3)) Due.is("fill(" + kind + ")", x.fill(kind), Due.NONE);
    Due.is("told(3)", x.told(3), 4);
  }

  private static void fillNothing() {
    Due.by("==== 2: FILLED: there is nobody: it stays OPEN");
    FairTurns nobody = Due.with(0, "1h;2e;3n;4p");
    for (int kind = -1; kind < 4; kind++) Due.is("fill(" + kind + "), nobody came", nobody.fill(kind), 0);
    Due.is("told(3)", nobody.told(3), 4);
    FairTurns gone = Due.with(2, "1h;2e;3n;4p");
    gone.goes(0);
    gone.goes(1);
    for (int kind = -1; kind < 4; kind++) Due.is("fill(" + kind + "), all gone", gone.fill(kind), 0);
    Due.is("told(3)", gone.told(3), 4);
    FairTurns none = Due.members(8);
    for (int kind = -1; kind < 4; kind++) Due.is("fill(" + kind + "), no DUTIES", none.fill(kind), 0);
  }

  private static void nobodyMay() {
    Due.by("==== 2: FILLED: its OPEN DUTIES one after the other: one for nobody is no end");
    FairTurns x = Due.with(1, "1h;2h;3h;4h");
    Due.rules(x, 0, "d1-1;d3-3");
    Due.is("fill(0)", x.fill(0), 2);
    Due.paperIs(x, "1h=-;2h=0;3h=-;4h=0");
    Due.is("fill(-1) again", x.fill(-1), 0);
  }

  private static void fillTwentyFour() {
    Due.by("==== 2: FILLED: 24 DUTIES, 8 PEOPLE");
    FairTurns x = Due.withDuties(8, 24, 2);
    Due.is("fill(2)", x.fill(2), 24);
    for (int duty = 0; duty < 24; duty++) Due.is("dutyOf(" + duty + ", 2)", x.dutyOf(duty, 2), duty % 8);
    FairTurns one = Due.withDuties(1, 24, 2);
    Due.is("fill(2) of one", one.fill(2), 24);
    Due.is("of(0, 3)", one.of(0, 3), 24);
    FairTurns more = Due.withDuties(8, 24, 2);
    for (int duty = 0; duty < 24; duty++) if (duty != 23) more.hold(duty, 0);
    Due.is("fill(2) of the last", more.fill(2), 1);
    Due.is("dutyOf(23, 2)", more.dutyOf(23, 2), 1);
  }

  private static void leastLoad() {
    Due.by("==== 2: FILLED: the one with the least LOAD (HEAD and PAST are of it)");
    FairTurns x = new FairTurns();
    x.comes(3);
    x.comes(2);
    x.comes(1);
    x.past(2, 0, 2);
    x.duty(1, 0);
    x.duty(2, 0);
    x.duty(3, 0);
    // LOADS 2 1 2, 2 2 2, 3 2 2, 3 3 2.
    Due.is("fill(0)", x.fill(0), 3);
    Due.paperIs(x, "1h=1;2h=0;3h=1");
    FairTurns y = Due.withDuties(3, 1, 3);
    y.past(0, 3, 1);
    y.past(1, 3, 0);
    y.past(2, 3, 999);
    Due.is("fill(3)", y.fill(3), 1);
    Due.is("dutyOf(0, 2)", y.dutyOf(0, 2), 1);
    Due.by("==== 2: FILLED: of all that the PATH from it comes to (and of no others)");
    FairTurns last = Due.withDuties(8, 2, 3);
    for (int one = 0; one < 7; one++) Due.rules(last, one, "d1-1");
    last.hold(0, 7);
    last.past(7, 3, 9);
    Due.is("lesser(3, 0), which comes to all", last.lesser(3, 0), 1);
    last.open(0);
    last.hold(0, 0);
    Due.is("fill(3), 7 alone may, who bears most", last.fill(3), 1);
    Due.is("dutyOf(1, 2)", last.dutyOf(1, 2), 7);
    Due.is("lesser(3, 0), 7's goes to none", last.lesser(3, 0), 0);
    FairTurns two = Due.withDuties(2, 1, 3);
    Due.rules(two, 0, "kp");
    two.past(1, 3, 1);
    Due.is("fill(3), 1 alone may", two.fill(3), 1);
    Due.is("dutyOf(0, 2)", two.dutyOf(0, 2), 1);
    Due.by("==== 2: FILLED: the one with the least LOAD, be it the greatest PAST");
    FairTurns most = Due.withDuties(1, 1, 3);
    most.past(0, 3, 999);
    Due.is("fill(3) of the greatest PAST", most.fill(3), 1);
    Due.is("of(0, 33)", most.of(0, 33), 1000);
  }

  private static void firstComeTo() {
    Due.by("==== 2: FILLED: of like ones the first come to");
    FairTurns x = Due.withDuties(8, 1, 0);
    x.goes(0);
    x.fill(0);
    Due.is("dutyOf(0, 2), by numbers", x.dutyOf(0, 2), 1);
    Due.by("==== 2: from one of PEOPLE to DUTIES of that KIND it holds, by numbers");
    // Duty 2 is for 0 alone, who holds duty 0 (which 3 may take) and duty 1 (which 1 and 2 may).
    FairTurns y = Due.with(4, "20e;10e;1e");
    Due.rules(y, 1, "d1-1;d20-20");
    Due.rules(y, 2, "d1-1;d20-20");
    Due.rules(y, 3, "d1-1;d10-10");
    y.hold(0, 0);
    y.hold(1, 0);
    Due.is("fill(1)", y.fill(1), 1);
    Due.paperIs(y, "1e=0;10e=0;20e=3");
    Due.by("==== 2: From a DUTY it goes on to each who MAY hold it, by numbers");
    FairTurns z = Due.with(4, "20e;10e;1e");
    Due.rules(z, 1, "d1-1;d20-20");
    Due.rules(z, 2, "d1-1;d20-20");
    Due.rules(z, 3, "d1-1;d10-10");
    z.past(3, 1, 1);
    z.hold(0, 0);
    z.hold(1, 0);
    Due.is("fill(1), 3 bears more", z.fill(1), 1);
    Due.paperIs(z, "1e=0;10e=1;20e=0");
  }

  private static void asTheyStand() {
    Due.by("==== 2: FILLED: its OPEN DUTIES as they stand");
    FairTurns x = Due.with(3, "9p;0p;9p;5p;0p");
    Due.is("fill(3)", x.fill(3), 5);
    int[] holders = {0, 0, 1, 2, 1};
    for (int duty = 0; duty < 5; duty++) Due.is("dutyOf(" + duty + ", 2)", x.dutyOf(duty, 2), holders[duty]);
    Due.by("==== 2: FILLED, all: KINDS");
    FairTurns all = Due.with(2, "1p;2n;3e;4h;5h;6e;7n;8p");
    Due.is("fill(-1)", all.fill(-1), 8);
    Due.paperIs(all, "1p=0;2n=0;3e=0;4h=0;5h=1;6e=1;7n=1;8p=1");
  }

  // One holds the night of its own number's day and may hold that of the day ahead beside it; 7 may hold that alone.
  // Night 7, of day 20, is for 0 alone.
  private static FairTurns chain() {
    FairTurns x = Due.withDuties(8, 7, 2);
    x.duty(20, 2);
    Due.rules(x, 0, "d1-19;d21-365");
    Due.rules(x, 1, "d2-365");
    for (int one = 2; one < 7; one++) Due.rules(x, one, "d0-" + (one - 2) + ";d" + (one + 1) + "-365");
    Due.rules(x, 7, "d0-5;d7-365");
    for (int one = 0; one < 7; one++) Due.is("hold(" + one + ", " + one + ")", x.hold(one, one), Due.NOBODY);
    return x;
  }

  private static void longestPath() {
    Due.by("==== 2: SHIFTED: who held that takes the one by which that one was come to, and so on to the beginning");
    FairTurns x = chain();
    Due.is("fill(2) along all eight", x.fill(2), 1);
    Due.paperIs(x, "0n=1;1n=2;2n=3;3n=4;4n=5;5n=6;6n=7;20n=0");
    FairTurns y = chain();
    Due.is("lesser(2, 0), 0 has one", y.lesser(2, 0), 0);
    Due.is("hold(7, 0)", y.hold(7, 0), Due.NOBODY);
    Due.is("lesser(2, 1)", y.lesser(2, 1), 0);
    Due.is("lesser(2, 2)", y.lesser(2, 2), 7);
    Due.is("eases(2) along all eight", y.eases(2), 1);
    Due.paperIs(y, "0n=1;1n=2;2n=3;3n=4;4n=5;5n=6;6n=7;20n=0");
    FairTurns shut = chain();
    Due.rules(shut, 7, "kn");
    Due.is("fill(2), 7 may not: 0 bears no more than all others", shut.fill(2), 1);
    Due.paperIs(shut, "0n=0;1n=1;2n=2;3n=3;4n=4;5n=5;6n=6;20n=0");
  }

  private static void eachOnce() {
    Due.by("==== 2: All are come to step by step, each once");
    FairTurns x = Due.withDuties(8, 24, 1);
    for (int duty = 0; duty < 23; duty++) x.hold(duty, duty % 7);
    Due.is("fill(1), all may hold all", x.fill(1), 1);
    Due.is("dutyOf(23, 2)", x.dutyOf(23, 2), 7);
    // 0 and 1 have four each, the others three, 7 has one.
    Due.is("eases(1)", x.eases(1), 2);
    for (int i = 0; i < 8; i++) Due.is("load(1, " + i + ")", x.load(1, i), 3);
    // Two who hand on to one another alone: round and round without an end.
    FairTurns two = Due.withDuties(2, 4, 1);
    for (int duty = 0; duty < 4; duty++) two.hold(duty, duty % 2);
    Due.is("lesser(1, 0) of two alike", two.lesser(1, 0), 0);
  }

  private static void onlyItsKind() {
    Due.by("==== 2: A PATH in a KIND: to DUTIES of that KIND it holds");
    FairTurns x = Due.with(2, "1h;2e");
    x.hold(0, 0);
    Due.rules(x, 1, "ke");
    x.past(0, 1, 9);
    Due.is("fill(1)", x.fill(1), 1);
    Due.paperIs(x, "1h=0;2e=0");
    Due.is("lesser(1, 0), 1 may hold the other KIND alone", x.lesser(1, 0), 0);
  }

  // ---- promise 18

  private static void load() {
    Due.by("==== 1: VECTOR of a KIND: LOADS of all who are HERE, the greatest first");
    FairTurns x = Due.members(8);
    int[] pasts = {3, 999, 0, 3, 7, 0, 1, 998};
    int[] vector = {999, 998, 7, 3, 3, 1, 0, 0};
    for (int one = 0; one < 8; one++) x.past(one, 3, pasts[one]);
    for (int i = 0; i < 8; i++) Due.is("load(3, " + i + ")", x.load(3, i), vector[i]);
    Due.by("Promise 18: NONE");
    for (int i : Due.outside(0, 7)) Due.is("load(3, " + i + ")", x.load(3, i), Due.NONE);
    for (int kind : Due.outside(0, 3)) Due.is("load(" + kind + ", 0)", x.load(kind, 0), Due.NONE);
    x.goes(1);
    Due.is("load(3, 0), the greatest gone", x.load(3, 0), 998);
    Due.is("load(3, 6), one gone", x.load(3, 6), 0);
    Due.is("load(3, 7), one gone", x.load(3, 7), Due.NONE);
    for (int one = 0; one < 8; one++) x.goes(one);
    Due.is("load(3, 0), all gone", x.load(3, 0), Due.NONE);
  }

  // ---- promise 19

  private static void lesserByTwo() {
    Due.by("==== 2: LESSER: one with a LOAD that is 2 or more below its own");
    for (int kind = 0; kind < 4; kind++) {
      FairTurns x = Due.withDuties(2, 3, kind);
      x.hold(0, 1);
      Due.is("lesser, 1 below", x.lesser(kind, 0), 0);
      Due.is("eases, 1 below", x.eases(kind), 0);
      x.hold(1, 1);
      Due.is("lesser, 2 below", x.lesser(kind, 0), 1);
      x.hold(2, 1);
      Due.is("lesser, 3 below", x.lesser(kind, 0), 1);
      x.past(0, kind, 2);
      Due.is("lesser, 1 below by PAST", x.lesser(kind, 0), 0);
      x.past(0, kind, 3);
      Due.is("lesser, alike", x.lesser(kind, 0), 0);
      x.past(0, kind, 9);
      Due.is("lesser, the greater one holds nothing", x.lesser(kind, 0), 0);
    }
  }

  private static void lesserFirstHolder() {
    Due.by("==== 2: LESSER: for holders by numbers: the first such holder is FROM");
    FairTurns x = Due.withDuties(8, 4, 0);
    x.hold(0, 6);
    x.hold(1, 6);
    x.hold(2, 7);
    x.hold(3, 7);
    x.past(7, 0, 9);
    Due.is("lesser(0, 1)", x.lesser(0, 1), 6);
    Due.is("lesser(0, 2)", x.lesser(0, 2), 0);
    x.hold(3, 5);
    // 5 has 1 and is no such holder: all others have 0.
    Due.is("lesser(0, 1), 5 has no more than 1", x.lesser(0, 1), 6);
    x.hold(1, 5);
    Due.is("lesser(0, 1), 5 has 2", x.lesser(0, 1), 5);
  }

  private static void lesserTo() {
    Due.by("==== 2: LESSER: the one with the least LOAD, of like ones the first come to");
    FairTurns x = Due.withDuties(8, 4, 0);
    for (int duty = 0; duty < 4; duty++) x.hold(duty, 7);
    Due.is("lesser(0, 2), all alike", x.lesser(0, 2), 0);
    for (int one = 0; one < 7; one++) x.past(one, 0, one == 6 ? 0 : 1);
    Due.is("lesser(0, 2), the last is the least", x.lesser(0, 2), 6);
    x.past(5, 0, 0);
    Due.is("lesser(0, 2), two alike", x.lesser(0, 2), 5);
    // Duty 0 may be taken by 1 alone, duty 1 by 0 alone: duties by numbers, so 1 is come to first.
    FairTurns y = Due.withDuties(3, 3, 0);
    for (int duty = 0; duty < 3; duty++) y.hold(duty, 2);
    Due.rules(y, 0, "d0-0;d2-2");
    Due.rules(y, 1, "d1-2");
    Due.is("lesser(0, 2), by duty 0 first", y.lesser(0, 2), 1);
    Due.is("lesser(0, 1)", y.lesser(0, 1), 2);
  }

  private static void lesserNone() {
    Due.by("Promise 19: FROM (1; -5), TO (2; -5)");
    FairTurns x = Due.withDuties(2, 2, 3);
    for (int kind = 0; kind < 4; kind++) {
      Due.is("lesser(" + kind + ", 0)", x.lesser(kind, 0), 0);
      Due.is("lesser(" + kind + ", 1)", x.lesser(kind, 1), Due.NOBODY);
      Due.is("lesser(" + kind + ", 2)", x.lesser(kind, 2), Due.NOBODY);
    }
    Due.by("Promise 19: NONE");
    for (int what : Due.outside(0, 2)) {
      Due.is("lesser(3, " + what + ")", x.lesser(3, what), Due.NONE);
      Due.is("lesser(4, " + what + ")", x.lesser(4, what), Due.NONE);
    }
    for (int kind : Due.outside(0, 3)) {
      for (int what = 0; what < 3; what++) Due.is("lesser(" + kind + ", " + what + ")", x.lesser(kind, what), Due.NONE);
    }
    x.hold(0, 0);
    x.hold(1, 0);
    for (int what : Due.outside(0, 2)) Due.is("lesser(3, " + what + "), there is one", x.lesser(3, what), Due.NONE);
    Due.rules(x, 1, "kp");
    Due.is("lesser(3, 0), nobody else may", x.lesser(3, 0), 0);
    x.goes(1);
    Due.is("lesser(3, 0), nobody else is here", x.lesser(3, 0), 0);
  }

  // ---- promise 20

  private static void easesAsOftenAsItCan() {
    Due.by("Promise 20: The VECTOR is made LESSER as often as it can be: how often");
    FairTurns x = Due.withDuties(8, 24, 1);
    for (int duty = 0; duty < 24; duty++) x.hold(duty, 7);
    Due.is("eases(1), 24 of one", x.eases(1), 21);
    for (int i = 0; i < 8; i++) Due.is("load(1, " + i + ")", x.load(1, i), 3);
    Due.is("lesser(1, 0)", x.lesser(1, 0), 0);
    Due.is("eases(1) again", x.eases(1), 0);
    FairTurns two = Due.withDuties(2, 2, 1);
    two.hold(0, 0);
    two.hold(1, 0);
    Due.is("eases(1), once", two.eases(1), 1);
    Due.paperIs(two, "0e=1;1e=0");
    FairTurns past = Due.withDuties(2, 3, 1);
    for (int duty = 0; duty < 3; duty++) past.hold(duty, 0);
    past.past(0, 1, 999);
    Due.is("eases(1), all are handed on", past.eases(1), 3);
    Due.is("of(0, 31)", past.of(0, 31), 999);
    Due.is("of(1, 31)", past.of(1, 31), 3);
  }

  private static void easesRefused() {
    Due.by("Promise 20: NONE");
    FairTurns x = Due.withDuties(2, 2, 0);
    x.hold(0, 0);
    x.hold(1, 0);
    for (int kind : Due.outside(0, 3)) Due.is("eases(" + kind + ")", x.eases(kind), Due.NONE);
    for (int kind = 1; kind < 4; kind++) Due.is("eases(" + kind + "), no DUTIES of it", x.eases(kind), 0);
    Due.paperIs(x, "0h=0;1h=0");
  }

  // ---- promise 21

  private static void disliked() {
    Due.by("Promise 21: DISLIKES of all holders for what they hold, together");
    FairTurns x = Due.withDuties(2, 24, 0);
    Due.is("disliked(), all OPEN", x.disliked(), 0);
    for (int duty = 0; duty < 24; duty++) x.dislike(0, duty, 9);
    Due.is("disliked(), all OPEN and disliked", x.disliked(), 0);
    for (int duty = 0; duty < 24; duty++) x.hold(duty, 1);
    Due.is("disliked(), all held by another", x.disliked(), 0);
    for (int duty = 0; duty < 24; duty++) x.hold(duty, 0);
    Due.is("disliked(), the most", x.disliked(), 216);
    x.goes(0);
    Due.is("disliked(), the holder gone", x.disliked(), 0);
  }

  // ---- promise 22

  // Each holds the duty of its number and dislikes all but that of the one ahead in a row of the first so many.
  private static FairTurns round(int people, int ring) {
    FairTurns x = Due.withDuties(people, people, 2);
    for (int one = 0; one < people; one++) {
      x.hold(one, one);
      for (int duty = 0; duty < people; duty++) x.dislike(one, duty, 9);
    }
    for (int one = 0; one < ring; one++) x.dislike(one, (one + ring - 1) % ring, 0);
    return x;
  }

  private static void ringSizes() {
    Due.by("==== 2: RINGS: 2 to 4 DUTIES");
    for (int size = 2; size <= 4; size++) {
      FairTurns x = round(8, size);
      Due.is("ring(0) of " + size, x.ring(0), 9 * size);
      Due.is("ring(1) of " + size, x.ring(1), size);
      for (int k = 0; k < 4; k++) Due.is("ring(" + (10 + k) + ") of " + size, x.ring(10 + k), k < size ? k : Due.NONE);
      Due.is("turn(24)", x.turn(24), 1);
      Due.is("disliked()", x.disliked(), 9 * (8 - size));
    }
    // Of five in a round four hand on and one takes what it doesn't want.
    FairTurns five = round(8, 5);
    Due.is("ring(0) of five", five.ring(0), 27);
    Due.is("ring(1) of five", five.ring(1), 4);
    FairTurns one = Due.withDuties(1, 1, 0);
    one.hold(0, 0);
    one.dislike(0, 0, 9);
    Due.is("ring(0) of one", one.ring(0), Due.NOBODY);
  }

  private static void ringOfUnlikeHolders() {
    Due.by("==== 2: RINGS: HELD by unlike ones");
    FairTurns x = Due.withDuties(2, 2, 0);
    x.dislike(0, 0, 9);
    Due.is("ring(0), both OPEN", x.ring(0), Due.NOBODY);
    x.hold(0, 0);
    Due.is("ring(0), the other OPEN", x.ring(0), Due.NOBODY);
    x.hold(1, 0);
    Due.is("ring(0), both held by 0", x.ring(0), Due.NOBODY);
    x.hold(1, 1);
    Due.is("ring(0)", x.ring(0), 9);
    Due.by("==== 2: RINGS: each of whom MAY hold the DUTY of the one ahead in the row (the first the last one's)");
    Due.rules(x, 0, "d1-1");
    Due.is("ring(0), 0 may not hold the last one's", x.ring(0), Due.NOBODY);
    x.frees(0);
    Due.rules(x, 1, "d0-0");
    Due.is("ring(0), 1 may not hold the one ahead", x.ring(0), Due.NOBODY);
    Due.by("==== 2: RINGS: DUTIES of one KIND");
    FairTurns y = Due.with(2, "1h;1e");
    y.hold(0, 0);
    y.hold(1, 1);
    y.dislike(0, 0, 9);
    Due.is("ring(0), two KINDS", y.ring(0), Due.NOBODY);
  }

  private static void ringGain() {
    Due.by("==== 2: BEST RING: the greatest GAIN (above 0)");
    FairTurns x = Due.withDuties(2, 2, 3);
    x.hold(0, 0);
    x.hold(1, 1);
    Due.is("ring(0), GAIN 0, nothing disliked", x.ring(0), Due.NOBODY);
    x.dislike(0, 0, 4);
    x.dislike(1, 0, 4);
    Due.is("ring(0), GAIN 0", x.ring(0), Due.NOBODY);
    Due.is("turn(24), GAIN 0", x.turn(24), 0);
    x.dislike(0, 0, 5);
    Due.is("ring(0), GAIN 1", x.ring(0), 1);
    x.dislike(0, 0, 3);
    Due.is("ring(0), GAIN -1", x.ring(0), Due.NOBODY);
    FairTurns most = round(4, 4);
    Due.is("ring(0), the greatest there can be", most.ring(0), 36);
    for (int disliked = 0; disliked < 4; disliked++) leastGainOfFour(disliked);
    // 0 and 1 change for 18; 2, which 2 doesn't dislike, is the least of four that gain 27.
    FairTurns later = Due.withDuties(6, 6, 1);
    for (int one = 0; one < 6; one++) {
      later.hold(one, one);
      for (int duty = 0; duty < 6; duty++) later.dislike(one, duty, 9);
    }
    int[] wants = {1, 0, 5, 2, 3, 4};
    for (int one = 0; one < 6; one++) later.dislike(one, wants[one], 0);
    later.dislike(2, 2, 0);
    Due.is("ring(0), the later and greater", later.ring(0), 27);
    ringIs("the later and greater", later, 2, 3, 4, 5);
  }

  // Each may hold its own and the one ahead alone, and one dislikes its own: a ring of all four or none.
  private static void leastGainOfFour(int disliked) {
    FairTurns x = Due.withDuties(4, 4, 0);
    Due.rules(x, 0, "d1-2");
    Due.rules(x, 1, "d2-3");
    Due.rules(x, 2, "d0-0;d3-3");
    Due.rules(x, 3, "d0-1");
    for (int one = 0; one < 4; one++) x.hold(one, one);
    Due.is("ring(0) of four, nothing disliked", x.ring(0), Due.NOBODY);
    x.dislike(disliked, disliked, 1);
    Due.is("ring(0) of four, GAIN 1", x.ring(0), 1);
    ringIs("GAIN 1 of four", x, 0, 1, 2, 3);
  }

  // Rows of so many duties, one behind the other, each of which gains 8 as a ring; nothing else gains as much.
  private static FairTurns rows(int... sizes) {
    int[][] gains = {{}, {}, {4, 4}, {3, 3, 2}, {2, 2, 2, 2}};
    FairTurns x = Due.withDuties(8, 8, 1);
    for (int one = 0; one < 8; one++) {
      x.hold(one, one);
      for (int duty = 0; duty < 8; duty++) x.dislike(one, duty, 9);
    }
    int first = 0;
    for (int size : sizes) {
      for (int i = 0; i < size; i++) x.dislike(first + i, first + (i + size - 1) % size, 9 - gains[size][i]);
      first += size;
    }
    return x;
  }

  private static void ringFewest() {
    Due.by("==== 2: BEST RING: of like ones that with the fewest DUTIES");
    ringIs("three and two", rows(3, 2), 3, 4);
    ringIs("two and three", rows(2, 3), 0, 1);
    ringIs("four and three", rows(4, 3), 4, 5, 6);
    ringIs("three and four", rows(3, 4), 0, 1, 2);
    ringIs("four and two", rows(4, 2), 4, 5);
    ringIs("three, three and two", rows(3, 3, 2), 6, 7);
    Due.is("ring(0)", rows(3, 3, 2).ring(0), 8);
    Due.by("==== 2: BEST RING: the greatest GAIN, ahead of the fewest DUTIES");
    FairTurns more = rows(2, 3);
    more.dislike(2, 4, 5);
    Due.is("ring(0)", more.ring(0), 9);
    ringIs("9 of three ahead of 8 of two", more, 2, 3, 4);
  }

  // Who dislikes its own duty alone, so that all rings it is in gain alike.
  private static FairTurns oneDislikes(int one, int people) {
    FairTurns x = Due.withDuties(people, people, 0);
    for (int duty = 0; duty < people; duty++) x.hold(duty, duty);
    x.dislike(one, one, 9);
    return x;
  }

  private static void ringIs(String what, FairTurns x, int... duties) {
    Due.is(what + ": ring(1)", x.ring(1), duties.length);
    for (int k = 0; k < duties.length; k++) Due.is(what + ": ring(" + (10 + k) + ")", x.ring(10 + k), duties[k]);
  }

  private static void ringLeastDuties() {
    Due.by("==== 2: BEST RING: then with the least first DUTY");
    ringIs("two and two", rows(2, 2, 2, 2), 0, 1);
    ringIs("three and three", rows(3, 3), 0, 1, 2);
    ringIs("four and four", rows(4, 4), 0, 1, 2, 3);
    ringIs("7 with any", oneDislikes(7, 8), 0, 7);
    // The later KIND has the lesser duty.
    FairTurns kinds = Due.with(2, "1p;2h;3p;4h");
    for (int duty = 0; duty < 4; duty++) kinds.hold(duty, duty / 2);
    kinds.dislike(0, 0, 5);
    kinds.dislike(0, 1, 5);
    ringIs("plain duties 0 and 2, holidays 1 and 3", kinds, 0, 2);
    FairTurns fours = Due.with(4, "1p;2p;3p;4p;1h;2h;3h;4h");
    for (int duty = 0; duty < 8; duty++) {
      fours.hold(duty, duty % 4);
      for (int one = 0; one < 4; one++) fours.dislike(one, duty, (one + 3) % 4 == duty % 4 ? 0 : 9);
    }
    Due.is("ring(0), the greatest of both KINDS", fours.ring(0), 36);
    ringIs("plain duties 0 to 3, holidays 4 to 7", fours, 0, 1, 2, 3);
    Due.by("==== 2: BEST RING: then second");
    ringIs("0 with any", oneDislikes(0, 8), 0, 1);
    Due.by("==== 2: BEST RING: and so on: the third");
    FairTurns x = ringsOfThree();
    ringIs("any of four", x, 0, 1, 3);
    Due.rules(x, 3, "d1-1");
    ringIs("3 may not hold 1: the second goes ahead of the third", x, 0, 1, 4);
    Due.rules(x, 4, "d1-1");
    ringIs("neither may hold 1", x, 0, 2, 3);
    Due.by("==== 2: BEST RING: and so on: the fourth");
    FairTurns y = ringsOfFour();
    ringIs("any of eight", y, 0, 1, 3, 5);
    Due.rules(y, 3, "d1-1");
    ringIs("3 may not hold 1: the second goes ahead of the third", y, 0, 1, 4, 5);
    Due.rules(y, 5, "d4-4");
    ringIs("5 may not hold 4: the third goes ahead of the fourth", y, 0, 1, 4, 6);
    Due.by("==== 2: RINGS: told with the least DUTY first");
    ringIs("each takes the one ahead", round(4, 4), 0, 1, 2, 3);
    FairTurns back = Due.withDuties(4, 4, 2);
    for (int one = 0; one < 4; one++) {
      back.hold(one, one);
      for (int duty = 0; duty < 4; duty++) back.dislike(one, duty, duty == (one + 1) % 4 ? 0 : 9);
    }
    ringIs("each takes the one behind", back, 0, 3, 2, 1);
  }

  // 0's own goes to 1 or 2 alone, and 0 may hold that of 3 or 4 alone.
  private static FairTurns ringsOfThree() {
    FairTurns x = oneDislikes(0, 5);
    Due.rules(x, 0, "d1-2");
    Due.rules(x, 3, "d0-0");
    Due.rules(x, 4, "d0-0");
    return x;
  }

  // 0's own goes to 1 or 2 alone, theirs to 3 or 4, theirs to 5 or 6, whose own 0 alone may hold beside them.
  private static FairTurns ringsOfFour() {
    FairTurns x = oneDislikes(0, 7);
    Due.rules(x, 0, "d1-4");
    for (int one = 3; one < 5; one++) Due.rules(x, one, "d0-0");
    for (int one = 5; one < 7; one++) Due.rules(x, one, "d0-2");
    return x;
  }

  private static void ringWhat() {
    Due.by("Promise 22: NONE: what (with fewer DUTIES, too)");
    int[] none = {Due.LEAST, -1, 2, 9, 14, Due.MOST};
    for (int size = 2; size <= 4; size++) {
      FairTurns x = round(5, size);
      for (int what : none) Due.is("ring(" + what + ") of " + size, x.ring(what), Due.NONE);
      Due.is("ring(" + (9 + size) + ") of " + size, x.ring(9 + size), size - 1);
      for (int what = 10 + size; what < 14; what++) Due.is("ring(" + what + ") of " + size, x.ring(what), Due.NONE);
    }
    Due.by("Promise 22: -5: there is none");
    FairTurns x = Due.withDuties(2, 2, 0);
    int[] whats = {0, 1, 10, 11, 12, 13};
    for (int what : whats) Due.is("ring(" + what + "), none", x.ring(what), Due.NOBODY);
    Due.by("Promise 22: -5: there is none. NONE: what, the first that a call's words name");
    for (int what : none) Due.is("ring(" + what + "), none", x.ring(what), Due.NOBODY);
  }

  // ---- promise 23

  private static void turnBounds() {
    Due.by("Promise 23: n times (1 .. 24) at most; BAD");
    for (int n : Due.outside(1, 24)) {
      FairTurns x = round(2, 2);
      Due.is("turn(" + n + ")", x.turn(n), Due.BAD);
      Due.is("disliked() stays", x.disliked(), 18);
    }
    FairTurns none = new FairTurns();
    Due.is("turn(1), no DUTIES", none.turn(1), 0);
    Due.is("turn(24), no DUTIES", none.turn(24), 0);
    Due.is("turn(0), no DUTIES", none.turn(0), Due.BAD);
    Due.is("turn(25), no DUTIES", none.turn(25), Due.BAD);
  }

  private static void turnAsLongAs() {
    Due.by("Promise 23: n times at most, as long as there is one: how many were");
    for (int n = 1; n <= 6; n++) {
      // Eight duties of four KINDS, two people: each KIND has one ring to turn.
      FairTurns x = Due.with(2, "1h;2h;1e;2e;1n;2n;1p;2p");
      for (int duty = 0; duty < 8; duty++) x.hold(duty, duty % 2);
      for (int duty = 0; duty < 8; duty += 2) x.dislike(0, duty, 9 - duty);
      Due.is("turn(" + n + ") of four", x.turn(n), Math.min(n, 4));
      int[] left = {24, 15, 8, 3, 0, 0, 0};
      Due.is("disliked() behind " + n, x.disliked(), left[n]);
    }
    Due.by("==== 2: DONE, each takes the DUTY ahead of its own (the first the last)");
    for (int size = 2; size <= 4; size++) {
      FairTurns x = round(5, size);
      Due.is("turn(1) of " + size, x.turn(1), 1);
      for (int duty = 0; duty < 5; duty++) {
        Due.is("dutyOf(" + duty + ", 2) of " + size, x.dutyOf(duty, 2), duty < size ? (duty + 1) % size : duty);
      }
    }
  }

  // What each holder dislikes each of eight duties, its own the one of its number: nine rings, one after the other.
  private static final String[] NINE_RINGS = {"37652818", "88851016", "31526166", "05682631", "44677784", "64391979", "13251483", "89916158"};

  private static FairTurns nineRings(int kinds) {
    FairTurns x = Due.members(8);
    for (int duty = 0; duty < 8 * kinds; duty++) {
      x.duty(duty, duty / 8);
      x.hold(duty, duty % 8);
      for (int one = 0; one < 8; one++) x.dislike(one, duty, NINE_RINGS[one].charAt(duty % 8) - '0');
    }
    return x;
  }

  private static void turnTwentyFour() {
    Due.by("Promise 23: n times (1 .. 24) at most, though there are more");
    Due.is("turn(24) of one KIND", nineRings(1).turn(24), 9);
    FairTurns x = nineRings(3);
    Due.is("disliked()", x.disliked(), 168);
    Due.is("turn(24) of three KINDS", x.turn(24), 24);
    Due.is("disliked() behind 24", x.disliked(), 33);
    Due.is("turn(24), what is left", x.turn(24), 3);
    Due.is("disliked() behind all", x.disliked(), 30);
    Due.is("ring(0), none is left", x.ring(0), Due.NOBODY);
  }

  private static void theLastCall() {
    Due.by("An object is used for at most 512 calls: the dearest ones, and the last as the first");
    FairTurns x = Due.withDuties(8, 24, 0);
    for (int duty = 0; duty < 24; duty++) x.hold(duty, duty % 8);
    for (int duty = 0; duty < 24; duty++) x.dislike(duty % 8, duty, 9);
    // 80 calls have been; each ring of four gains 36.
    for (int call = 81; call <= 512; call++) {
      switch (call % 3) {
        case 0: Due.is("ring(0), call " + call, x.ring(0), 36); break;
        case 1: Due.is("eases(0), call " + call, x.eases(0), 0); break;
        default: Due.is("ring(13), call " + call, x.ring(13), 3);
      }
    }
  }
}
