// Promises 17 to 23: filling, vectors, easing, dislikes and rings.
public final class SharingTest {
  public static void main(String[] args) {
    fillInTurn();
    fillShifts();
    fillLikeLoads();
    fillAll();
    load();
    lesser();
    easesAlongAPath();
    headsAndPast();
    disliked();
    ringOrder();
    ringTies();
    ringOfFour();
    ringMay();
    turn();
    Due.close("SharingTest");
  }

  private static void fillInTurn() {
    FairTurns x = Due.with(3, "8h;7h;6h;5h;4h");
    Due.is("fill(0)", x.fill(0), 5);
    Due.paperIs(x, "4h=0;5h=1;6h=2;7h=0;8h=1");
    Due.is("fill(0) again", x.fill(0), 0);
    Due.is("fill(4)", x.fill(4), Due.NONE);
    Due.is("fill(-2)", x.fill(-2), Due.NONE);
  }

  // The second duty is for 0 alone, who holds the first: 0 hands the first on to 1.
  private static void fillShifts() {
    FairTurns x = Due.with(2, "1n;2n;3n");
    Due.rules(x, 1, "d2-3");
    Due.is("fill(2)", x.fill(2), 3);
    Due.paperIs(x, "1n=1;2n=0;3n=0");
    x.open(1);
    x.open(2);
    Due.rules(x, 0, "d2-3");
    Due.is("fill(2), nobody may", x.fill(2), 0);
    Due.is("told(22)", x.told(22), 2);
    Due.paperIs(x, "1n=1;2n=-;3n=-");

    // A path of three: 3n is for 0 alone, 0 hands 2n on to 1, who hands 1n on to 2.
    FairTurns y = Due.with(3, "1n;2n;3n");
    Due.rules(y, 0, "d1-1");
    Due.rules(y, 1, "d3-3");
    Due.rules(y, 2, "d2-3");
    y.hold(0, 1);
    y.hold(1, 0);
    Due.is("fill(2) along three", y.fill(2), 1);
    Due.paperIs(y, "1n=2;2n=1;3n=0");
    // Other kinds are no part of the path.
    FairTurns z = Due.with(2, "1n;2h");
    z.hold(1, 0);
    Due.rules(z, 1, "kn");
    z.past(0, 2, 5);
    Due.is("fill(2), of one kind", z.fill(2), 1);
    Due.paperIs(z, "1n=0;2h=0");
  }

  // Of like loads the first come to: 1 comes by duty 0 ahead of 2, who comes by duty 1.
  private static void fillLikeLoads() {
    FairTurns x = Due.with(4, "9p;8p;1p");
    Due.rules(x, 0, "d200-200");
    Due.rules(x, 1, "d1-1;d9-9");
    Due.rules(x, 2, "d1-1;d8-8");
    Due.rules(x, 3, "d1-9");
    x.hold(0, 0);
    x.hold(1, 0);
    // 1p is for 0 alone; from 0 the path goes by duty 0 (day 9) to 2, then by duty 1 (day 8) to 1.
    Due.is("fill(3)", x.fill(3), 1);
    Due.paperIs(x, "1p=0;8p=0;9p=2");
  }

  private static void fillAll() {
    FairTurns x = Due.with(2, "1p;2n;3e;4h;5h");
    Due.is("fill(-1)", x.fill(-1), 5);
    Due.paperIs(x, "1p=0;2n=0;3e=0;4h=0;5h=1");
    FairTurns nobody = Due.with(0, "1p;2h");
    Due.is("fill(-1), nobody", nobody.fill(-1), 0);
  }

  private static void load() {
    FairTurns x = new FairTurns();
    x.comes(0);
    x.comes(3);
    x.comes(2);
    x.past(0, 0, 4);
    Due.feed(x, "1h;2h;3n");
    x.calendar();
    x.hold(0, 1);
    x.hold(1, 0);
    Due.is("load(0, 0)", x.load(0, 0), 5);
    Due.is("load(0, 1)", x.load(0, 1), 3);
    Due.is("load(0, 2)", x.load(0, 2), 1);
    Due.is("load(0, 3)", x.load(0, 3), Due.NONE);
    Due.is("load(0, -1)", x.load(0, -1), Due.NONE);
    Due.is("load(4, 0)", x.load(4, 0), Due.NONE);
    Due.is("load(-1, 0)", x.load(-1, 0), Due.NONE);
    x.goes(0);
    Due.is("load(0, 0), one gone", x.load(0, 0), 3);
    Due.is("load(0, 2), one gone", x.load(0, 2), Due.NONE);
  }

  private static void lesser() {
    FairTurns x = Due.with(3, "1h;2h;3n");
    Due.is("lesser(0, 0)", x.lesser(0, 0), 0);
    Due.is("lesser(0, 1)", x.lesser(0, 1), Due.NOBODY);
    Due.is("lesser(0, 2)", x.lesser(0, 2), Due.NOBODY);
    x.hold(0, 1);
    Due.is("lesser(0, 0), 1 apart", x.lesser(0, 0), 0);
    x.hold(1, 1);
    Due.is("lesser(0, 0), 2 apart", x.lesser(0, 0), 1);
    Due.is("lesser(0, 1)", x.lesser(0, 1), 1);
    Due.is("lesser(0, 2)", x.lesser(0, 2), 0);
    Due.is("lesser(2, 0)", x.lesser(2, 0), 0);
    x.past(0, 0, 1);
    Due.is("lesser(0, 2), 2 is least", x.lesser(0, 2), 2);
    Due.is("lesser(0, 3)", x.lesser(0, 3), Due.NONE);
    Due.is("lesser(0, -1)", x.lesser(0, -1), Due.NONE);
    Due.is("lesser(4, 0)", x.lesser(4, 0), Due.NONE);
    Due.is("eases(0)", x.eases(0), 1);
    Due.paperIs(x, "1h=2;2h=1;3n=-");
    Due.is("eases(0) again", x.eases(0), 0);
    Due.is("eases(4)", x.eases(4), Due.NONE);
    Due.is("eases(-1)", x.eases(-1), Due.NONE);
    // The holder with the least number is FROM, though another bears more.
    FairTurns y = Due.with(3, "1p;2p");
    y.past(0, 3, 5);
    y.past(1, 3, 9);
    y.hold(0, 0);
    y.hold(1, 1);
    Due.is("lesser(3, 1)", y.lesser(3, 1), 0);
    Due.is("lesser(3, 2)", y.lesser(3, 2), 2);
    // Load alone, without a duty to give, makes no FROM.
    y.open(0);
    Due.is("lesser(3, 1)", y.lesser(3, 1), 1);
    y.open(1);
    Due.is("lesser(3, 1)", y.lesser(3, 1), Due.NOBODY);
  }

  // 0 may hand only to 1, 1 only to 2; the shift goes by way of 1.
  private static void easesAlongAPath() {
    FairTurns x = Due.with(3, "1e;2e;3e");
    Due.rules(x, 2, "d1-2");
    Due.rules(x, 1, "d200-200");
    Due.rules(x, 0, "d3-3");
    x.hold(0, 0);
    x.hold(1, 0);
    x.hold(2, 1);
    Due.is("lesser(1, 1)", x.lesser(1, 1), 0);
    Due.is("lesser(1, 2)", x.lesser(1, 2), 2);
    Due.is("eases(1)", x.eases(1), 1);
    Due.paperIs(x, "1e=1;2e=0;3e=2");
  }

  private static void headsAndPast() {
    FairTurns x = new FairTurns();
    x.comes(3);
    x.comes(2);
    x.comes(0);
    for (int day = 0; day < 6; day++) x.duty(day, 0);
    for (int duty = 0; duty < 6; duty++) x.hold(duty, 0);
    Due.is("eases(0)", x.eases(0), 5);
    Due.is("guest's load", x.of(0, 30), 3);
    Due.is("chief's load", x.of(1, 30), 3);
    Due.is("member's load", x.of(2, 30), 3);
    Due.paperIs(x, "0h=2;1h=1;2h=2;3h=1;4h=2;5h=0");
  }

  private static void disliked() {
    FairTurns x = Due.with(2, "1h;2h;3n");
    x.dislike(0, 0, 5);
    x.dislike(0, 2, 3);
    x.dislike(1, 0, 8);
    Due.is("disliked(), open", x.disliked(), 0);
    x.hold(0, 0);
    x.hold(2, 0);
    Due.is("disliked()", x.disliked(), 8);
    x.hold(0, 1);
    Due.is("disliked()", x.disliked(), 11);
  }

  // Each takes the duty ahead of its own: of the two ways round only one gains all.
  private static void ringOrder() {
    FairTurns x = Due.with(3, "1n;2n;3n");
    for (int duty = 0; duty < 3; duty++) {
      x.hold(duty, duty);
      for (int one = 0; one < 3; one++) x.dislike(one, duty, 9);
    }
    x.dislike(0, 1, 0);
    x.dislike(1, 2, 0);
    x.dislike(2, 0, 0);
    Due.is("ring(0)", x.ring(0), 27);
    Due.is("ring(1)", x.ring(1), 3);
    Due.is("ring(10)", x.ring(10), 0);
    Due.is("ring(11)", x.ring(11), 2);
    Due.is("ring(12)", x.ring(12), 1);
    Due.is("ring(13)", x.ring(13), Due.NONE);
    Due.is("ring(14)", x.ring(14), Due.NONE);
    Due.is("ring(2)", x.ring(2), Due.NONE);
    Due.is("ring(9)", x.ring(9), Due.NONE);
    Due.is("ring(-1)", x.ring(-1), Due.NONE);
    Due.paperIs(x, "1n=0;2n=1;3n=2");
    Due.is("turn(1)", x.turn(1), 1);
    Due.paperIs(x, "1n=2;2n=0;3n=1");
    Due.is("disliked()", x.disliked(), 0);
    Due.is("ring(0), none", x.ring(0), Due.NOBODY);
    Due.is("ring(1), none", x.ring(1), Due.NOBODY);
    Due.is("ring(13), none", x.ring(13), Due.NOBODY);
    Due.is("ring(14), none", x.ring(14), Due.NOBODY);
    Due.is("ring(2), none", x.ring(2), Due.NOBODY);
  }

  private static void ringTies() {
    // Rings 0-1 and 2-3 gain 4 each, and so does the one of all four.
    FairTurns x = Due.with(4, "1p;2p;3p;4p");
    for (int duty = 0; duty < 4; duty++) {
      x.hold(duty, duty);
      for (int one = 0; one < 4; one++) x.dislike(one, duty, 2);
    }
    x.dislike(0, 1, 0);
    x.dislike(1, 0, 0);
    x.dislike(2, 3, 0);
    x.dislike(3, 2, 0);
    Due.is("ring(0)", x.ring(0), 4);
    Due.is("ring(1)", x.ring(1), 2);
    Due.is("ring(10)", x.ring(10), 0);
    Due.is("ring(11)", x.ring(11), 1);
    Due.is("turn(24)", x.turn(24), 2);
    Due.is("disliked()", x.disliked(), 0);
    // Fewer duties go ahead of a lesser first duty.
    FairTurns y = Due.with(5, "1p;2p;3p;4p;5p");
    for (int duty = 0; duty < 5; duty++) {
      y.hold(duty, duty);
      for (int one = 0; one < 5; one++) y.dislike(one, duty, 3);
    }
    y.dislike(1, 0, 0);
    y.dislike(2, 1, 1);
    y.dislike(0, 2, 2);
    y.dislike(4, 3, 0);
    y.dislike(3, 4, 0);
    Due.is("ring(0)", y.ring(0), 6);
    Due.is("ring(1)", y.ring(1), 2);
    Due.is("ring(10)", y.ring(10), 3);
    Due.is("ring(11)", y.ring(11), 4);
    // Of like ones of two kinds the one with the least first duty, though its kind is the later.
    FairTurns w = Due.with(2, "1p;2h;3p;4h");
    for (int duty = 0; duty < 4; duty++) w.hold(duty, duty / 2);
    w.dislike(0, 0, 5);
    w.dislike(0, 1, 5);
    Due.is("ring(10), two kinds", w.ring(10), 0);
    Due.is("ring(11), two kinds", w.ring(11), 2);
    // Of like ones with the same first duty that with the least second one.
    FairTurns z = Due.with(3, "1p;2p;3p");
    for (int duty = 0; duty < 3; duty++) z.hold(duty, duty);
    z.dislike(0, 0, 5);
    Due.is("ring(11)", z.ring(11), 1);
    Due.is("ring(0)", z.ring(0), 5);
  }

  private static void ringOfFour() {
    FairTurns x = Due.with(5, "1h;2h;3h;4h;5h");
    for (int duty = 0; duty < 5; duty++) {
      x.hold(duty, duty);
      for (int one = 0; one < 5; one++) x.dislike(one, duty, 9);
    }
    int[] round = {4, 3, 2, 1, 0};
    // 0 takes 4, 4 takes 3, 3 takes 2, 2 takes 1, 1 takes 0: five in a ring are too many.
    x.dislike(0, 4, 0);
    for (int i = 0; i < 4; i++) x.dislike(round[i], round[i] - 1, 0);
    Due.is("ring(0)", x.ring(0), 27);
    Due.is("ring(1)", x.ring(1), 4);
    for (int i = 0; i < 4; i++) Due.is("ring(" + (10 + i) + ")", x.ring(10 + i), i);
    Due.is("ring(14), of four", x.ring(14), Due.NONE);
    Due.is("turn(1)", x.turn(1), 1);
    Due.paperIs(x, "1h=1;2h=2;3h=3;4h=0;5h=4");
    // Now 0 and 4 change, and the five have gone round all the same.
    Due.is("turn(24)", x.turn(24), 1);
    Due.paperIs(x, "1h=1;2h=2;3h=3;4h=4;5h=0");
    Due.is("disliked()", x.disliked(), 0);
  }

  private static void ringMay() {
    FairTurns x = Due.with(3, "1n;2n;3h;4n");
    x.hold(0, 0);
    x.hold(1, 1);
    x.hold(2, 2);
    x.dislike(0, 0, 9);
    Due.rules(x, 0, "d2-2");
    Due.is("ring(0), 0 may not", x.ring(0), Due.NOBODY);
    x.frees(0);
    Due.is("ring(0)", x.ring(0), 9);
    x.hold(1, 0);
    Due.is("ring(0), both held by 0", x.ring(0), Due.NOBODY);
    x.hold(1, 2);
    Due.is("ring(0), with 2", x.ring(0), 9);
    x.hold(2, 0);
    x.dislike(2, 0, 9);
    Due.is("ring(0), no gain", x.ring(0), Due.NOBODY);
    Due.is("turn(5), no gain", x.turn(5), 0);
  }

  private static void turn() {
    FairTurns x = Due.with(2, "1n;2n;3h;4h");
    for (int duty = 0; duty < 4; duty++) x.hold(duty, duty % 2);
    x.dislike(0, 0, 3);
    x.dislike(0, 2, 4);
    Due.is("turn(0)", x.turn(0), Due.BAD);
    Due.is("turn(25)", x.turn(25), Due.BAD);
    Due.is("turn(-1)", x.turn(-1), Due.BAD);
    Due.is("turn(1)", x.turn(1), 1);
    Due.paperIs(x, "1n=0;2n=1;3h=1;4h=0");
    Due.is("turn(24)", x.turn(24), 1);
    Due.paperIs(x, "1n=1;2n=0;3h=1;4h=0");
    Due.is("turn(1), none", x.turn(1), 0);
    x.dislike(0, 0, 0);
    x.dislike(0, 1, 1);
    Due.is("ring(0), the least gain", x.ring(0), 1);
    Due.is("turn(24), the least gain", x.turn(24), 1);
  }
}
