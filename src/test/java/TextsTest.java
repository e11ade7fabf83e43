// Promises 29 to 36: the tape, conditions, rosters judged, held and spelled, the paper.
public final class TextsTest {
  public static void main(String[] args) {
    feedAndClear();
    pick();
    pickFaults();
    openAll();
    judge();
    rosterFaults();
    roster();
    spellAndPaper();
    Due.close("TextsTest");
  }

  private static void feedAndClear() {
    FairTurns x = new FairTurns();
    Due.is("feed(0)", x.feed(0), Due.BAD);
    Due.is("feed(128)", x.feed(128), Due.BAD);
    Due.is("feed(-1)", x.feed(-1), Due.BAD);
    Due.is("clear()", x.clear(), 0);
    for (int i = 1; i <= 150; i++) Due.is("feed " + i, x.feed(i % 127 + 1), i);
    Due.is("feed, the 151st", x.feed(65), Due.FULL);
    Due.is("feed(128), the 151st", x.feed(128), Due.BAD);
    Due.is("told(5)", x.told(5), 150);
    Due.is("clear()", x.clear(), 150);
    Due.is("clear() again", x.clear(), 0);
    Due.is("feed(1)", x.feed(1), 1);
    Due.is("feed(127)", x.feed(127), 2);
  }

  // Duties 0: 5h of 0, disliked 4; 1: 13e open; 2: 14n of 1; 3: 365p of 7.
  private static FairTurns four() {
    FairTurns x = Due.with(8, "5h;13e;14n;365p");
    x.hold(0, 0);
    x.hold(2, 1);
    x.hold(3, 7);
    x.dislike(0, 0, 4);
    x.dislike(0, 1, 6);
    x.dislike(1, 0, 9);
    return x;
  }

  private static void pick() {
    String[] texts = {"day=5", "day<14", "day>13", "kind=2", "kind<1", "who=0", "who=10", "who=7", "who>1", "held=1", "held=0",
      "dislike=4", "dislike=0", "week=0", "week=1", "week=2", "week>51", "day>999", "day<999", "held=000",
      "!day=5", "!held=1|kind=2", "!(held=1|kind=2)", "day=5|day=13&kind=3", "(day=5|day=13)&kind=0", "day=5&kind=1|kind=3",
      "kind=0|kind=1|kind=2", "held=1&day>5&day<365", "!!held=1", "!!!!held=1", "((((held=1))))", "!(!(held=0))", "day>0", "day<0", "week>0",
      "!(held=0)&!(kind=0)&(((!day=14)))"};
    int[] bits = {1, 3, 12, 4, 1, 1, 2, 8, 10, 13, 2,
      1, 14, 1, 2, 4, 8, 0, 15, 2,
      14, 6, 2, 1, 1, 8,
      7, 4, 13, 13, 13, 2, 15, 0, 14,
      8};
    for (int i = 0; i < texts.length; i++) {
      FairTurns x = four();
      Due.is("pick() of " + texts[i], Due.pick(x, texts[i]), bits[i]);
      Due.is("tape behind " + texts[i], x.told(5), 0);
    }
    Due.is("pick(), no duties", Due.pick(new FairTurns(), "day=5"), 0);
    FairTurns all = new FairTurns();
    for (int i = 0; i < 24; i++) all.duty(i, 0);
    Due.is("pick(), 24 duties", Due.pick(all, "held=0"), (1 << 24) - 1);
    Due.is("pick(), the last", Due.pick(all, "day=23"), 1 << 23);
  }

  private static void pickFaults() {
    String[] texts = {"", "=", "5", "d=5", "days=5", "dayday=5", "day", "day5", "day==5", "day=", "day=x", "day=1234", "day=5 ", "day =5",
      "day=5|", "day=5&", "day=5||day=6", "day=5&&day=6", "(day=5", "(day=5))", "()", "!", "(", "!=5", "day!5", "Day=5",
      "!!!!!day=5", "(((((day=5)))))", "!(!(!day=5))", "!(!((day=5)))&d=3", "day=5)", "day=5|foo=6", "day=5&who=999&he=1", "day<=5",
      "week=1|(held=2&(kind=3)", "((((!day=1))))", "!(!(day=5)&!(!(day=1)))", "dayz=1", "bay=5", "held=1|xeek=1", "wee=1", "whoo=1"};
    int[] faults = {0, 0, 0, 0, 0, 0, 3, 3, 4, 4, 4, 7, 5, 3,
      6, 6, 6, 6, 6, 7, 1, 1, 1, 1, 3, 0,
      4, 4, 4, 4, 5, 6, 14, 4,
      23, 4, 13, 0, 0, 7, 0, 0};
    for (int i = 0; i < texts.length; i++) {
      FairTurns x = four();
      Due.is("pick() of '" + texts[i] + "'", Due.pick(x, texts[i]), -100 - faults[i]);
      Due.is("tape behind '" + texts[i] + "'", x.told(5), 0);
    }
    Due.is("a fault, no duties", Due.pick(new FairTurns(), "dax=5"), -100);
    FairTurns x = four();
    StringBuilder longest = new StringBuilder("held=1");
    while (longest.length() + 7 <= 150) longest.append("|held=0");
    Due.is("a long one", Due.pick(x, longest.toString()), 15);
    longest.append("|da");
    Due.is("a word that is none at the end of a full tape", Due.pick(x, longest.toString()), -247);
    longest.setLength(146);
    longest.append("|day");
    Due.is("a word at the end of a full tape", Due.pick(x, longest.toString()), -250);
  }

  private static void openAll() {
    FairTurns x = four();
    Due.feed(x, "kind<3|who=10");
    Due.is("openAll()", x.openAll(), 2);
    Due.paperIs(x, "5h=-;13e=-;14n=-;365p=7");
    Due.feed(x, "held=1&");
    Due.is("openAll(), a fault", x.openAll(), -107);
    Due.is("tape", x.told(5), 0);
    Due.paperIs(x, "5h=-;13e=-;14n=-;365p=7");
    Due.feed(x, "day<5");
    Due.is("openAll(), none", x.openAll(), 0);
    Due.feed(x, "!held=0");
    Due.is("openAll(), the last", x.openAll(), 1);
    Due.is("told(3)", x.told(3), 4);
    FairTurns none = new FairTurns();
    Due.feed(none, "day=1");
    Due.is("openAll(), no duties", none.openAll(), 0);
  }

  private static void judge() {
    FairTurns none = Due.members(1);
    Due.feed(none, "x");
    Due.is("judge(), no duties", none.judge(), Due.STATE);
    Due.is("tape, no duties", none.told(5), 0);
    // Stands as 1 (4h), 0 (5h), 2 (6e), 3 (7p).
    FairTurns x = Due.with(3, "5h;4h;6e;7p");
    x.hold(0, 0);
    x.hold(1, 0);
    x.hold(2, 1);
    Due.is("as now", Due.judge(x, "4h=0;5h=0;6e=1;7p=-"), Due.NOBODY);
    Due.is("more open h", Due.judge(x, "4h=-;5h=1;6e=1;7p=0"), 100);
    Due.is("more open e", Due.judge(x, "4h=1;5h=2;6e=-;7p=0"), 101);
    Due.is("lesser h", Due.judge(x, "4h=1;5h=0;6e=1;7p=0"), 200);
    Due.is("like h, like e, greater p", Due.judge(x, "4h=1;5h=1;6e=2;7p=2"), 303);
    x.past(0, 1, 1);
    // Now e is 1 1 0; by 0 it is 2 0 0.
    Due.is("greater e", Due.judge(x, "4h=2;5h=2;6e=0;7p=-"), 301);
    x.hold(2, 0);
    Due.is("lesser e ahead of greater p", Due.judge(x, "4h=2;5h=2;6e=1;7p=1"), 201);
    x.hold(1, 1);
    Due.is("greater h ahead of lesser e", Due.judge(x, "4h=2;5h=2;6e=1;7p=-"), 300);
    Due.feed(x, "d4-5;d7-7");
    x.rules(2);
    Due.is("may not, the first that stands", Due.judge(x, "4h=2;5h=2;6e=-;7p=2"), 1);
    Due.is("may not, the last", Due.judge(x, "4h=0;5h=-;6e=-;7p=2"), 3);
    Due.is("tape", x.told(5), 0);
    Due.paperIs(x, "4h=1;5h=0;6e=0;7p=-");
  }

  private static FairTurns oneGone() {
    FairTurns x = Due.with(3, "5h;4h;120e");
    x.goes(1);
    return x;
  }

  private static void rosterFaults() {
    String[] texts = {"", "4", "4h", "4h=", "4h=0", "4h=0;", "5h=0", "4e=0", "4x=0", "4h=1", "4h=3", "4h=8", "4h=x", "4h=00", "4h-0",
      "4h=0;5h=-;120e=0;", "4h=0;5h=-;120e=00", "4h=0;5h=-;12e=0", "4h=0;5h=-;1200e=0", "004h=0;05h=2;120e", "0004h=0", "4h=0,5h=0",
      "4h=0;4h=0", "x", " 4h=0", "999h=0", "4h=0;5h=-;120h=0", "4h=--", "4hh"};
    int[] faults = {0, 1, 2, 3, 4, 5, 0, 1, 1, 3, 3, 3, 3, 4, 2,
      16, 16, 10, 13, 17, 0, 4,
      5, 0, 0, 0, 13, 4, 2};
    for (int i = 0; i < texts.length; i++) {
      FairTurns x = oneGone();
      Due.is("judge() of '" + texts[i] + "'", Due.judge(x, texts[i]), -100 - faults[i]);
      Due.is("tape behind '" + texts[i] + "'", x.told(5), 0);
      Due.is("roster() of '" + texts[i] + "'", Due.roster(x, texts[i]), -100 - faults[i]);
      Due.is("tape behind '" + texts[i] + "'", x.told(5), 0);
      Due.paperIs(x, "4h=-;5h=-;120e=-");
    }
    Due.is("roster() with noughts ahead", Due.roster(oneGone(), "004h=0;05h=2;120e=-"), 2);
  }

  private static void roster() {
    FairTurns none = Due.members(1);
    Due.feed(none, "x");
    Due.is("roster(), no duties", none.roster(), Due.STATE);
    Due.is("tape, no duties", none.told(5), 0);
    FairTurns x = Due.with(3, "5h;4h;6e");
    x.hold(2, 1);
    Due.feed(x, "4h=2;5h=0;6e=-");
    Due.is("roster()", x.roster(), 2);
    Due.is("tape", x.told(5), 0);
    Due.is("holder of 0", x.dutyOf(0, 2), 0);
    Due.is("holder of 1", x.dutyOf(1, 2), 2);
    Due.is("holder of 2", x.dutyOf(2, 2), Due.NOBODY);
    Due.feed(x, "ke");
    x.rules(0);
    Due.feed(x, "4h=1;5h=1;6e=0");
    Due.is("roster(), 0 may not", x.roster(), Due.NOT);
    Due.is("tape", x.told(5), 0);
    Due.paperIs(x, "4h=2;5h=0;6e=-");
    Due.feed(x, "4h=1;5h=1;6e=0;");
    Due.is("roster(), a fault behind one who may not", x.roster(), -114);
    Due.feed(x, "4h=-;5h=-;6e=-");
    Due.is("roster(), all open", x.roster(), 0);
    Due.feed(x, "4h=1;5h=1;6e=1");
    Due.is("roster(), all held", x.roster(), 3);
  }

  private static void spellAndPaper() {
    FairTurns x = new FairTurns();
    Due.is("spell(), no duties", x.spell(), 0);
    Due.is("paper(0)", x.paper(0), Due.NONE);
    x = Due.with(8, "365p;0h;10e;99n;100n;9h");
    x.hold(0, 7);
    x.hold(1, 0);
    x.hold(3, 5);
    Due.paperIs(x, "0h=0;9h=-;10e=-;99n=5;100n=-;365p=7");
    Due.is("told(6)", x.told(6), 35);
    Due.is("paper(35)", x.paper(35), Due.NONE);
    Due.is("paper(34)", x.paper(34), '7');
    Due.is("paper(-1)", x.paper(-1), Due.NONE);
    x.open(0);
    Due.is("the paper stays", x.paper(34), '7');
    x.image();
    x.undo();
    Due.is("the paper stays by undo()", x.told(6), 35);
    FairTurns most = new FairTurns();
    most.comes(0);
    for (int i = 0; i < 24; i++) most.duty(100 + i, 0);
    Due.is("spell(), the longest", most.spell(), 24 * 6 + 23);
    Due.is("the last byte", most.paper(24 * 6 + 22), '-');
  }
}
