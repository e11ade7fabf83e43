// Promises 1 to 8: a new object, people, their past, heads, loads and rules.
public final class PeopleTest {
  public static void main(String[] args) {
    newObject();
    comes();
    goes();
    past();
    of();
    neutral();
    rules();
    ruleFaults();
    roomForRules();
    frees();
    Due.close("PeopleTest");
  }

  private static void newObject() {
    FairTurns x = new FairTurns();
    for (int what = 0; what < 8; what++) Due.is("told(" + what + ") of a new object", x.told(what), 0);
    Due.is("told(8)", x.told(8), -1);
    Due.is("told(9)", x.told(9), -1);
    Due.is("of(0, 0)", x.of(0, 0), Due.NONE);
    Due.is("dutyOf(0, 0)", x.dutyOf(0, 0), Due.NONE);
    Due.is("get(0, 0)", x.get(0, 0), Long.MIN_VALUE);
    Due.is("undo()", x.undo(), Due.STATE);
  }

  private static void comes() {
    FairTurns x = new FairTurns();
    Due.is("comes(-1)", x.comes(-1), Due.NONE);
    Due.is("comes(4)", x.comes(4), Due.NONE);
    Due.is("told(0)", x.told(0), 0);
    for (int one = 0; one < 8; one++) Due.is("comes " + one, x.comes(one % 4), one);
    Due.is("comes, the ninth", x.comes(0), Due.FULL);
    Due.is("comes(4), the ninth", x.comes(4), Due.NONE);
    x.goes(3);
    Due.is("comes, when one has gone", x.comes(0), Due.FULL);
    Due.is("told(0)", x.told(0), 8);

    FairTurns y = Due.members(2);
    int[] kinds = {0, 1, 2, 3};
    for (int kind : kinds) {
      y.past(0, kind, 10 + kind);
      y.past(1, kind, 21);
    }
    Due.is("comes(3)", y.comes(3), 2);
    Due.is("past holidays", y.of(2, 10), 15);
    Due.is("past eves", y.of(2, 11), 16);
    Due.is("past nights", y.of(2, 12), 16);
    Due.is("past plain", y.of(2, 13), 17);
    Due.is("no rules", y.of(2, 4), 0);
    y.goes(0);
    y.goes(1);
    y.past(2, 0, 7);
    Due.is("comes, one is here", y.comes(0), 3);
    Due.is("past of the one who is here", y.of(3, 10), 7);
    y.goes(2);
    y.goes(3);
    Due.is("comes, nobody is here", y.comes(0), 4);
    Due.is("past, nobody was here", y.of(4, 10), 0);
  }

  private static void goes() {
    FairTurns x = Due.with(3, "5h;6n;7p");
    x.hold(0, 1);
    x.hold(1, 1);
    x.hold(2, 2);
    Due.is("goes(3)", x.goes(3), Due.NONE);
    Due.is("goes(-1)", x.goes(-1), Due.NONE);
    Due.is("goes(1)", x.goes(1), 2);
    Due.is("goes(1) again", x.goes(1), Due.STATE);
    Due.is("duty 0 is open", x.dutyOf(0, 2), Due.NOBODY);
    Due.is("duty 1 is open", x.dutyOf(1, 2), Due.NOBODY);
    Due.is("duty 2 stays", x.dutyOf(2, 2), 2);
    Due.is("people", x.told(0), 3);
    Due.is("here", x.told(1), 2);
    Due.is("may(1, 0)", x.may(1, 0), 0);
    Due.is("goes(0)", x.goes(0), 1);
    Due.is("goes(2)", x.goes(2), 0);
  }

  private static void past() {
    FairTurns x = Due.members(2);
    Due.is("past(0, 1, 999)", x.past(0, 1, 999), 0);
    Due.is("past(0, 1, 0)", x.past(0, 1, 0), 999);
    Due.is("past(0, 1, -1)", x.past(0, 1, -1), Due.BAD);
    Due.is("past(0, 1, 1000)", x.past(0, 1, 1000), Due.BAD);
    Due.is("past(2, 1, 5)", x.past(2, 1, 5), Due.NONE);
    Due.is("past(-1, 1, 5)", x.past(-1, 1, 5), Due.NONE);
    Due.is("past(0, 4, 5)", x.past(0, 4, 5), Due.NONE);
    Due.is("past(0, -1, 1000)", x.past(0, -1, 1000), Due.NONE);
    Due.is("past(1, 3, 8)", x.past(1, 3, 8), 0);
    Due.is("of(1, 13)", x.of(1, 13), 8);
    Due.is("of(0, 13)", x.of(0, 13), 0);
    x.goes(1);
    Due.is("past of one who has gone", x.past(1, 3, 9), 8);
  }

  private static void of() {
    FairTurns x = new FairTurns();
    for (int rank = 0; rank < 4; rank++) x.comes(rank);
    int[][] heads = {{0, 0, 0, 0}, {0, 0, 0, 0}, {1, 1, 0, 0}, {2, 2, 2, 2}};
    for (int one = 0; one < 4; one++) {
      Due.is("rank of " + one, x.of(one, 0), one);
      Due.is("here " + one, x.of(one, 1), 1);
      for (int kind = 0; kind < 4; kind++) Due.is("head of " + one + " in " + kind, x.of(one, 20 + kind), heads[one][kind]);
    }
    Due.feed(x, "1h;2e;3n;4p;5h");
    x.calendar();
    for (int duty = 0; duty < 5; duty++) x.hold(duty, 2);
    x.past(2, 0, 10);
    x.past(2, 1, 20);
    x.past(2, 2, 30);
    x.past(2, 3, 40);
    Due.is("burden", x.of(2, 2), 5 * 12 + 3 * 21 + 2 * 31 + 41);
    Due.is("held", x.of(2, 3), 5);
    Due.is("load h", x.of(2, 30), 13);
    Due.is("load e", x.of(2, 31), 22);
    Due.is("load n", x.of(2, 32), 31);
    Due.is("load p", x.of(2, 33), 41);
    Due.is("head is no burden", x.of(3, 2), 0);
    int[] none = {-1, 5, 9, 14, 19, 24, 29, 34, Integer.MAX_VALUE, Integer.MIN_VALUE};
    for (int what : none) Due.is("of(0, " + what + ")", x.of(0, what), Due.NONE);
    Due.is("of(4, 0)", x.of(4, 0), Due.NONE);
    x.goes(2);
    Due.is("here, gone", x.of(2, 1), 0);
    Due.is("rank, gone", x.of(2, 0), 2);
    Due.is("burden, gone", x.of(2, 2), 50 + 60 + 60 + 40);
    Due.is("load, gone", x.of(2, 30), 11);
  }

  private static void neutral() {
    FairTurns x = Due.members(3);
    x.past(0, 2, 4);
    x.past(1, 2, 5);
    x.past(2, 2, 8);
    Due.is("neutral(2)", x.neutral(2), 5);
    Due.is("neutral(0)", x.neutral(0), 0);
    x.goes(0);
    Due.is("neutral(2), one gone", x.neutral(2), 6);
    x.goes(1);
    x.goes(2);
    Due.is("neutral(2), all gone", x.neutral(2), 0);
    Due.is("neutral(-1)", x.neutral(-1), Due.NONE);
    Due.is("neutral(4)", x.neutral(4), Due.NONE);
  }

  private static void rules() {
    FairTurns x = Due.with(3, "0h;9h;10e;20n;21n;365p");
    for (int duty = 0; duty < 6; duty++) x.hold(duty, 0);
    Due.is("d10-20", Due.rules(x, 0, "d10-20"), 1);
    int[] may = {1, 1, 0, 0, 1, 1};
    for (int duty = 0; duty < 6; duty++) {
      Due.is("may(0, " + duty + ")", x.may(0, duty), may[duty]);
      Due.is("holder of " + duty, x.dutyOf(duty, 2), may[duty] == 1 ? 0 : Due.NOBODY);
    }
    Due.is("kh;d365-365", Due.rules(x, 0, "kh;d365-365"), 2);
    Due.is("of(0, 4)", x.of(0, 4), 3);
    int[] more = {0, 0, 0, 0, 1, 0};
    for (int duty = 0; duty < 6; duty++) Due.is("may(0, " + duty + ")", x.may(0, duty), more[duty]);
    Due.is("told(3)", x.told(3), 5);
    Due.is("r7:2", Due.rules(x, 1, "r7:2"), 1);
    int[] beat = {0, 1, 0, 0, 0, 0};
    for (int duty = 0; duty < 6; duty++) Due.is("may(1, " + duty + ")", x.may(1, duty), beat[duty]);
    Due.is("r2:0;r003:00", Due.rules(x, 2, "r2:0;r003:00"), 2);
    int[] both = {1, 0, 0, 0, 0, 0};
    for (int duty = 0; duty < 6; duty++) Due.is("may(2, " + duty + ")", x.may(2, duty), both[duty]);
    Due.is("tape is empty", x.told(5), 0);
    Due.feed(x, "kh");
    Due.is("rules(3)", x.rules(3), Due.NONE);
    Due.is("tape stays", x.told(5), 2);
    x.goes(1);
    Due.is("rules(1), gone", x.rules(1), Due.STATE);
    Due.is("tape stays", x.told(5), 2);
    Due.is("rules stay with one who has gone", x.of(1, 4), 1);
  }

  private static void ruleFaults() {
    String[] texts = {"", "x", "d", "d-", "d5", "d5-", "d5-4", "d5-366", "d366-x", "d1000-2", "d5-5x", "kx", "k", "r", "r1:0",
      "r10:0", "r2:2", "r9:9", "r2", "r2:", "r2;", "kh;", "kh;x", "kh,kn", " kh", "kh; kn", "d5-0009", "k", "D5-6", "kH", "d5:6", "r0:0",
      "r002:1;d0-365;kq", "kh;kh;d3-2"};
    int[] faults = {0, 0, 1, 1, 2, 3, 3, 3, 1, 4, 4, 1, 1, 1, 1,
      1, 3, 3, 2, 3, 2, 3, 3, 2, 0, 3, 3, 1, 0, 1, 2, 1,
      15, 9};
    for (int i = 0; i < texts.length; i++) {
      FairTurns x = Due.with(1, "5h");
      x.hold(0, 0);
      Due.is("rules(0) of '" + texts[i] + "'", Due.rules(x, 0, texts[i]), -100 - faults[i]);
      Due.is("tape behind '" + texts[i] + "'", x.told(5), 0);
      Due.is("no rule came by '" + texts[i] + "'", x.of(0, 4), 0);
      Due.is("nothing opened by '" + texts[i] + "'", x.dutyOf(0, 2), 0);
    }
    Due.is("r2:01 and d5-5", Due.rules(Due.members(1), 0, "r2:01;d5-5"), 2);
  }

  private static void roomForRules() {
    FairTurns x = Due.members(2);
    Due.is("five", Due.rules(x, 0, "kh;kh;ke;kn;kp"), 5);
    Due.is("four more", Due.rules(x, 0, "kh;kh;ke;kn"), -109);
    Due.is("four more, the last one wrong", Due.rules(x, 0, "kh;kh;ke;kx"), -109);
    Due.is("four more, the third wrong", Due.rules(x, 0, "kh;kh;kx;kn"), -107);
    Due.is("none came", x.of(0, 4), 5);
    Due.is("three more", Due.rules(x, 0, "kh;kh;ke"), 3);
    Due.is("one more", Due.rules(x, 0, "kn"), -100);
    Due.is("eight at once", Due.rules(x, 1, "kh;kh;ke;kn;kp;kh;kh;d1-2"), 8);
    x.frees(1);
    Due.is("nine at once", Due.rules(x, 1, "kh;kh;ke;kn;kp;kh;kh;kh;kh"), -124);
    Due.is("none of nine", x.of(1, 4), 0);
  }

  private static void frees() {
    FairTurns x = Due.with(2, "5h");
    Due.rules(x, 0, "kh;kn");
    Due.is("frees(0)", x.frees(0), 2);
    Due.is("frees(0) again", x.frees(0), 0);
    Due.is("of(0, 4)", x.of(0, 4), 0);
    Due.is("may(0, 0)", x.may(0, 0), 1);
    Due.is("frees(2)", x.frees(2), Due.NONE);
    Due.is("frees(-1)", x.frees(-1), Due.NONE);
    Due.rules(x, 1, "kh");
    x.goes(1);
    Due.is("frees(1), gone", x.frees(1), 1);
  }
}
