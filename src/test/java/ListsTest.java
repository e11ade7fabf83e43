// Promises 37 to 43: what is told, lists, the image.
public final class ListsTest {
  public static void main(String[] args) {
    told();
    list();
    set();
    lay();
    image();
    constants();
    Due.close("ListsTest");
  }

  private static void told() {
    FairTurns x = Due.with(4, "9h;3h;9n;3h;200p");
    x.goes(2);
    x.hold(0, 1);
    x.hold(2, 1);
    Due.feed(x, "abc");
    x.spell();
    int[] told = {4, 3, 5, 3, 0, 3, 26, 3, 3, 200};
    for (int what = 0; what < told.length; what++) Due.is("told(" + what + ")", x.told(what), told[what]);
    int[] kinds = {3, 0, 1, 1};
    int[] open = {2, 0, 0, 1};
    for (int kind = 0; kind < 4; kind++) {
      Due.is("told(" + (10 + kind) + ")", x.told(10 + kind), kinds[kind]);
      Due.is("told(" + (20 + kind) + ")", x.told(20 + kind), open[kind]);
    }
    FairTurns days = Due.with(0, "7h;5h;7n;6p;5e;7h;9p;10p");
    Due.is("unlike days", days.told(7), 5);
    Due.is("the first day", days.told(8), 5);
    Due.is("the last day", days.told(9), 10);
    int[] none = {-1, 14, 19, 24, 30, Integer.MAX_VALUE, Integer.MIN_VALUE};
    for (int what : none) Due.is("told(" + what + ")", x.told(what), Due.NONE);
  }

  private static void list() {
    FairTurns x = new FairTurns();
    Due.is("list(-1, 3)", x.list(-1, 3), Due.NONE);
    Due.is("list(4, 31)", x.list(4, 31), Due.NONE);
    Due.is("list(0, 31)", x.list(0, 31), Due.BAD);
    Due.is("list(0, -1)", x.list(0, -1), Due.BELOW);
    Due.is("set(0, 0, 1)", x.set(0, 0, 1), Due.NOTHING);
    Due.is("list(0, 30)", x.list(0, 30), 1);
    Due.is("set(0, 29, 7)", x.set(0, 29, 7), 1);
    Due.is("get(0, 29)", x.get(0, 29), 7);
    Due.is("list(0, 31) again", x.list(0, 31), Due.BAD);
    Due.is("list(0, -1) again", x.list(0, -1), Due.BELOW);
    Due.is("get(0, 29), stays", x.get(0, 29), 7);
    Due.is("list(0, 30) again", x.list(0, 30), 1);
    Due.is("get(0, 29), anew", x.get(0, 29), 0);
    x.set(0, 0, 8);
    x.list(0, 1);
    Due.is("get(0, 0), anew", x.get(0, 0), 0);
    Due.is("get(0, 1), a lesser row", x.get(0, 1), Long.MIN_VALUE);
    Due.is("list(3, 0)", x.list(3, 0), 1);
    Due.is("set(3, 0, 1)", x.set(3, 0, 1), Due.BEYOND);
    Due.is("get(3, 0)", x.get(3, 0), Long.MIN_VALUE);
  }

  private static void set() {
    FairTurns x = new FairTurns();
    x.list(1, 2);
    Due.is("set(1, 1, least)", x.set(1, 1, Integer.MIN_VALUE), 1);
    Due.is("get(1, 1)", x.get(1, 1), Integer.MIN_VALUE);
    Due.is("get(1, 0)", x.get(1, 0), 0);
    Due.is("set(1, 2, 5)", x.set(1, 2, 5), Due.BEYOND);
    Due.is("set(1, -1, 5)", x.set(1, -1, 5), Due.BEYOND);
    Due.is("set(0, -1, 5)", x.set(0, -1, 5), Due.NOTHING);
    Due.is("set(4, 0, 5)", x.set(4, 0, 5), Due.NONE);
    Due.is("set(-1, 0, 5)", x.set(-1, 0, 5), Due.NONE);
    Due.is("get(1, 2)", x.get(1, 2), Long.MIN_VALUE);
    Due.is("get(1, -1)", x.get(1, -1), Long.MIN_VALUE);
    Due.is("get(2, 0)", x.get(2, 0), Long.MIN_VALUE);
    Due.is("get(4, 0)", x.get(4, 0), Long.MIN_VALUE);
    Due.is("get(-1, 0)", x.get(-1, 0), Long.MIN_VALUE);
  }

  private static void lay() {
    FairTurns x = Due.with(3, "9h;3h;5n");
    x.hold(0, 2);
    x.hold(1, 1);
    Due.is("lay(0, 0), nothing", x.lay(0, 0), Due.NOTHING);
    Due.is("lay(4, 0)", x.lay(4, 0), Due.NONE);
    Due.is("lay(-1, 0)", x.lay(-1, 0), Due.NONE);
    x.list(0, 5);
    for (int i = 0; i < 5; i++) x.set(0, i, 50 + i);
    Due.is("lay(0, 1)", x.lay(0, 1), 3);
    int[] laid = {50, 1, -1, 2, 54};
    for (int i = 0; i < 5; i++) Due.is("get(0, " + i + ")", x.get(0, i), laid[i]);
    Due.is("lay(0, 3)", x.lay(0, 3), Due.BEYOND);
    Due.is("get(0, 3)", x.get(0, 3), 1);
    Due.is("get(0, 4)", x.get(0, 4), -1);
    Due.is("lay(0, -1)", x.lay(0, -1), Due.BEYOND);
    Due.is("get(0, 0), stays", x.get(0, 0), 50);
    Due.is("get(0, 1), stays", x.get(0, 1), 1);
    Due.is("lay(0, 5)", x.lay(0, 5), Due.BEYOND);
    Due.is("lay(0, most)", x.lay(0, Integer.MAX_VALUE), Due.BEYOND);
    Due.is("lay(0, least)", x.lay(0, Integer.MIN_VALUE), Due.BEYOND);
    Due.is("lay(0, 2)", x.lay(0, 2), 3);
    Due.is("lay(0, 0)", x.lay(0, 0), 3);
    Due.is("get(0, 0), laid", x.get(0, 0), 1);
    FairTurns none = Due.members(1);
    none.list(2, 3);
    Due.is("lay(2, 0), no duties", none.lay(2, 0), 0);
  }

  private static void image() {
    FairTurns x = Due.with(3, "9h;3h");
    x.hold(0, 2);
    x.past(1, 1, 8);
    x.dislike(2, 0, 6);
    Due.feed(x, "kn");
    x.rules(1);
    x.goes(0);
    x.list(0, 2);
    Due.is("undo(), none", x.undo(), Due.STATE);
    Due.is("image()", x.image(), 3);
    x.comes(3);
    x.past(1, 1, 9);
    x.frees(1);
    x.dislike(2, 0, 1);
    x.goes(2);
    x.hold(1, 1);
    x.hold(0, 1);
    x.close();
    x.duty(50, 3);
    Due.feed(x, "abcd");
    x.set(0, 1, 77);
    x.spell();
    Due.is("undo()", x.undo(), 3);
    Due.is("people", x.told(0), 3);
    Due.is("here", x.told(1), 2);
    Due.is("0 has gone", x.of(0, 1), 0);
    Due.is("2 is here", x.of(2, 1), 1);
    Due.is("past", x.of(1, 11), 8);
    Due.is("rules", x.of(1, 4), 1);
    Due.is("duties", x.told(2), 2);
    Due.is("holder of 0", x.dutyOf(0, 2), 2);
    Due.is("holder of 1", x.dutyOf(1, 2), Due.NOBODY);
    Due.is("stands(0)", x.stands(0), 1);
    Due.is("dislike", x.dislike(2, 0, 6), 6);
    Due.is("year", x.told(4), 0);
    Due.is("tape stays", x.told(5), 4);
    Due.is("paper stays", x.told(6), 5);
    Due.is("list stays", x.get(0, 1), 77);
    x.comes(2);
    Due.is("rank of the newest", x.of(3, 0), 2);
    Due.is("undo() again", x.undo(), 3);
    x.goes(1);
    x.image();
    x.goes(2);
    x.comes(1);
    Due.is("undo() of the later image", x.undo(), 3);
    Due.is("1 has gone in the later image", x.of(1, 1), 0);
    Due.is("2 is here in the later image", x.of(2, 1), 1);
    imageOfRulesAndDuties();
  }

  private static void imageOfRulesAndDuties() {
    FairTurns x = Due.with(2, "10h;20n");
    Due.feed(x, "d10-12;kp;r3:1");
    x.rules(0);
    x.image();
    x.goes(0);
    x.frees(0);
    x.hold(0, 1);
    x.hold(1, 1);
    x.close();
    x.duty(5, 1);
    x.duty(6, 3);
    x.duty(7, 3);
    Due.is("undo()", x.undo(), 2);
    Due.is("0 is here again", x.of(0, 1), 1);
    Due.is("day of 0", x.dutyOf(0, 0), 10);
    Due.is("kind of 0", x.dutyOf(0, 1), 0);
    Due.is("day of 1", x.dutyOf(1, 0), 20);
    Due.is("kind of 1", x.dutyOf(1, 1), 2);
    int[] days = {9, 10, 13, 13, 16};
    int[] kinds = {0, 0, 0, 3, 1};
    int[] may = {0, 0, 1, 0, 1};
    for (int i = 0; i < 5; i++) {
      int duty = x.duty(days[i], kinds[i]);
      Due.is("may(0, " + duty + ") by the rules of the image", x.may(0, duty), may[i]);
    }
    // Other rules at the same places go as they came.
    x.undo();
    x.frees(0);
    Due.feed(x, "kh;d20-20;ke");
    x.rules(0);
    x.undo();
    for (int i = 0; i < 5; i++) {
      int duty = x.duty(days[i], kinds[i]);
      Due.is("may(0, " + duty + ") once more", x.may(0, duty), may[i]);
    }
  }

  private static void constants() {
    Due.is("NONE", FairTurns.NONE, -1);
    Due.is("BAD", FairTurns.BAD, -2);
    Due.is("STATE", FairTurns.STATE, -3);
    Due.is("FULL", FairTurns.FULL, -4);
    Due.is("NOT", FairTurns.NOT, -7);
  }
}
