// DocumentTest's part of ==== 4 and of the answers: texts, faults, judging, spelling, lists, the image.
final class DocumentTexts {
  private DocumentTexts() {}

  static void read(Document d) {
    tape(d);
    ruleTexts(d);
    calendars(d);
    rosters(d);
    conditions(d);
    words(d);
    nesting(d);
    faultsWhereTheyBegin(d);
    otherFaults(d);
    doesNothing(d);
    judged(d);
    spelled(d);
    lists(d);
    laid(d);
    image(d);
    answers(d);
    answersChangeNothing(d);
  }

  private static void tape(Document d) {
    d.says("==== 4 THE TAPE holds 0 .. 150 bytes.");
    FairTurns x = new FairTurns();
    Due.is("told(5)", x.told(5), 0);
    for (int i = 1; i <= 150; i++) Due.is("feed", x.feed(48 + i % 10), i);
    Due.is("feed, a 151st", x.feed(48), Due.FULL);
    Due.is("told(5)", x.told(5), 150);
    d.says("A number is as many figures as stand there, 3 at most.");
    FairTurns y = new FairTurns();
    Due.is("1, 01 and 001", Due.calendar(y, "1h;01h;001h"), 3);
    Due.is("0001", Due.calendar(y, "0001h"), -103);
    Due.is("12 and 120", Due.calendar(y, "12h;120h"), 2);
    int[] days = {1, 1, 1, 12, 120};
    for (int duty = 0; duty < 5; duty++) Due.is("DAY of " + duty, y.dutyOf(duty, 0), days[duty]);
  }

  private static void ruleTexts(Document d) {
    d.says("RULES: one or more, parted by ; : d a - b (SPAN; DAYS, b not below a), k and a KIND's letter (SORT), r n : r (BEAT), no blanks.");
    FairTurns x = Due.with(1, "3h;4h;5h;6e;7h");
    Due.is("one", Due.rules(x, 0, "d3-4"), 1);
    Due.is("two more", Due.rules(x, 0, "ke;r7:5"), 2);
    for (int duty = 0; duty < 5; duty++) Due.is("may(0, " + duty + ")", x.may(0, duty), duty == 2 ? 1 : 0);
    String[] not = {"", ";kh", "kh;", "d4-3", "d4", "d-3", "d3-", "kx", "k", "r3", "r3:3", "k h", " kh", "kh ", "d3 -4", "kh,ke"};
    int[] faults = {0, 0, 3, 3, 2, 1, 3, 1, 1, 2, 3, 1, 0, 2, 2, 2};
    for (int i = 0; i < not.length; i++) Due.is("'" + not[i] + "'", Due.rules(x, 0, not[i]), -100 - faults[i]);
    Due.is("of(0, 4)", x.of(0, 4), 3);
  }

  private static void calendars(Document d) {
    d.says("A CALENDAR: DUTIES, one or more, parted by ; : a DAY and a KIND's letter.");
    FairTurns x = new FairTurns();
    Due.is("one", Due.calendar(x, "365p"), 1);
    Due.is("three more", Due.calendar(x, "0h;5e;5n"), 3);
    int[] days = {365, 0, 5, 5};
    int[] kinds = {3, 0, 1, 2};
    for (int duty = 0; duty < 4; duty++) {
      Due.is("DAY of " + duty, x.dutyOf(duty, 0), days[duty]);
      Due.is("KIND of " + duty, x.dutyOf(duty, 1), kinds[duty]);
    }
    String[] not = {"", ";5h", "5h;", "h", "5", "5x", "5H", "5hh", "5h5h", "5 h"};
    int[] faults = {0, 0, 3, 0, 1, 1, 1, 2, 2, 1};
    for (int i = 0; i < not.length; i++) Due.is("'" + not[i] + "'", Due.calendar(x, not[i]), -100 - faults[i]);
    Due.is("told(2)", x.told(2), 4);
  }

  private static void rosters(Document d) {
    d.says("A ROSTER: for each DUTY that there is, as they stand, parted by ; : its DAY and letter, =, and the number (1 figure) of one, or - (OPEN).");
    FairTurns x = Due.with(3, "9p;3h;9h");
    Due.is("roster()", Due.roster(x, "3h=2;9p=-;9h=0"), 2);
    Due.is("dutyOf(0, 2)", x.dutyOf(0, 2), Due.NOBODY);
    Due.is("dutyOf(1, 2)", x.dutyOf(1, 2), 2);
    Due.is("dutyOf(2, 2)", x.dutyOf(2, 2), 0);
    String[] not = {"", "3h=2", "3h=2;9p=-", "3h=2;9p=-;9h=0;", "3h=2;9h=0;9p=-", "3h2", "3h=02;9p=-;9h=0", "3h=2,9p=-", "3h="};
    int[] faults = {0, 4, 9, 14, 6, 2, 4, 4, 3};
    for (int i = 0; i < not.length; i++) Due.is("'" + not[i] + "'", Due.roster(x, not[i]), -100 - faults[i]);
    Due.paperIs(x, "3h=2;9p=-;9h=0");
  }

  // Which of the DUTIES 0 .. 5, of the DAYS 1 .. 6, a CONDITION is so of.
  private static FairTurns sixDays() {
    return Due.with(2, "1h;2e;3n;4p;5h;6e");
  }

  private static void conditions(Document d) {
    d.says("A CONDITION: E: T or E|T. T: F or T&F. F: !F, (E), or a WORD, < or = or >, a number.");
    FairTurns x = sixDays();
    Due.is("=", Due.pick(x, "day=3"), 0b000100);
    Due.is("<", Due.pick(x, "day<3"), 0b000011);
    Due.is(">", Due.pick(x, "day>3"), 0b111000);
    Due.is("|", Due.pick(x, "day=1|day=3|day=6"), 0b100101);
    Due.is("&", Due.pick(x, "day>1&day<5&kind>1"), 0b001100);
    Due.is("& ahead of |", Due.pick(x, "day=1|day>2&day<5"), 0b001101);
    Due.is("& ahead of |, the other way", Due.pick(x, "day>2&day<5|day=1"), 0b001101);
    Due.is("!", Due.pick(x, "!day=3"), 0b111011);
    Due.is("! ahead of &", Due.pick(x, "!day=3&day<5"), 0b001011);
    Due.is("!!", Due.pick(x, "!!day=3"), 0b000100);
    Due.is("()", Due.pick(x, "(day=1|day>2)&day<5"), 0b001101);
    Due.is("!()", Due.pick(x, "!(day=1|day>2)"), 0b000010);
    String[] not = {"", "day", "day=", "day=1|", "day=1&", "!", "(day=1", "day=1)", "day=1||day=2", "day==1", "day=1!", "day=1 ", "()", "1=day", "day<=1"};
    int[] faults = {0, 3, 4, 6, 6, 1, 6, 5, 6, 4, 5, 5, 1, 0, 4};
    for (int i = 0; i < not.length; i++) Due.is("'" + not[i] + "'", Due.pick(x, not[i]), -100 - faults[i]);
  }

  private static void words(Document d) {
    d.says("WORDS (as many of a .. z as stand there): day, kind, who (10: OPEN), held (1, 0), dislike (of its holder for it; 0: OPEN), week (DAY over 7, cut).");
    FairTurns x = Due.with(2, "6h;7e;13n;14p;365h");
    x.hold(1, 0);
    x.hold(2, 1);
    x.dislike(0, 1, 4);
    x.dislike(1, 1, 7);
    x.dislike(0, 0, 9);
    Due.is("day", Due.pick(x, "day=365"), 0b10000);
    Due.is("kind", Due.pick(x, "kind=0"), 0b10001);
    Due.is("who", Due.pick(x, "who=1"), 0b00100);
    Due.is("who, OPEN", Due.pick(x, "who=10"), 0b11001);
    Due.is("who, at most 9", Due.pick(x, "who<10"), 0b00110);
    Due.is("held", Due.pick(x, "held=1"), 0b00110);
    Due.is("held, OPEN", Due.pick(x, "held=0"), 0b11001);
    Due.is("dislike", Due.pick(x, "dislike=4"), 0b00010);
    Due.is("dislike, OPEN or none", Due.pick(x, "dislike=0"), 0b11101);
    Due.is("week", Due.pick(x, "week=1"), 0b00110);
    Due.is("week of 365", Due.pick(x, "week=52"), 0b10000);
    Due.is("daykind", Due.pick(x, "daykind=1"), -100);
  }

  private static void nesting(Document d) {
    d.says("A ( or ! within 4 others is none.");
    FairTurns x = sixDays();
    Due.is("((((", Due.pick(x, "((((day=1))))"), 0b000001);
    Due.is("(((((", Due.pick(x, "(((((day=1)))))"), -104);
    Due.is("!!!!", Due.pick(x, "!!!!day=1"), 0b000001);
    Due.is("!!!!!", Due.pick(x, "!!!!!day=1"), -104);
    Due.is("!(!(", Due.pick(x, "!(!(day=1))"), 0b000001);
    Due.is("!(!(!", Due.pick(x, "!(!(!day=1))"), -104);
    Due.is("side by side", Due.pick(x, "(((day=1)))&((((day=1))))|!!!!day=2&(!(!day=2))"), 0b000011);
  }

  private static void faultsWhereTheyBegin(Document d) {
    d.says("FAULT of a text (of several the least place):");
    FairTurns x = sixDays();
    Due.is("two of them", Due.pick(x, "day=1|dey=2&duy=3"), -106);
    Due.is("a WORD, then the end", Due.pick(x, "day=1&dey"), -106);
    d.says("of a number that may not be (looked at as soon as it is taken),");
    Due.is("DAY 366", Due.calendar(x, "5h;366h"), -103);
    Due.is("DAY 366, then a byte that may not be", Due.calendar(x, "5h;366x"), -103);
    Due.is("DAY 999, then a figure", Due.calendar(x, "9999h"), -100);
    Due.is("b below a", Due.rules(x, 0, "kh;d9-8x"), -106);
    Due.is("n 10", Due.rules(x, 0, "r10:0"), -101);
    Due.is("r as n", Due.rules(x, 0, "r4:4"), -103);
    d.says("of a WORD that is none (an empty one, too),");
    Due.is("days", Due.pick(x, "!days=1"), -101);
    Due.is("da, which ends", Due.pick(x, "da"), -100);
    Due.is("an empty one", Due.pick(x, "day=1&=2"), -106);
    Due.is("an empty one, which ends", Due.pick(x, "day=1&!"), -107);
    d.says("of a RULE or DUTY for which there is no room,");
    Due.is("six RULES", Due.rules(x, 0, "kh;kh;kh;kh;kh;kh"), 6);
    Due.is("three more", Due.rules(x, 0, "kh;kh;d1-2"), -106);
    FairTurns y = Due.withDuties(0, 22, 0);
    Due.is("three more DUTIES", Due.calendar(y, "11h;22h;33h"), -108);
    d.says("of a DAY or letter in a ROSTER that isn't the DUTY's,");
    FairTurns z = Due.with(2, "5h;120e");
    Due.is("DAY 6", Due.roster(z, "6h=0;120e=0"), -100);
    Due.is("DAY 12", Due.roster(z, "5h=0;12e=0"), -105);
    Due.is("letter e", Due.roster(z, "5e=0;120e=0"), -101);
    Due.is("letter x", Due.roster(z, "5h=0;120x"), -108);
    d.says("of one who isn't HERE, where it begins;");
    Due.is("2 of two", Due.roster(z, "5h=0;120e=2"), -110);
    z.goes(0);
    Due.is("0, who has gone", Due.roster(z, "5h=0;120e=1"), -103);
    Due.is("1 alone", Due.roster(z, "5h=1;120e=1"), 2);
  }

  private static void otherFaults(Document d) {
    d.says("otherwise the place (from 0) of the first byte with which no such text goes on;");
    FairTurns x = sixDays();
    Due.is("x at 0", Due.rules(x, 0, "x"), -100);
    Due.is("; at 2", Due.rules(x, 0, "d5;kh"), -102);
    Due.is("a fourth figure", Due.calendar(x, "1000h"), -103);
    Due.is("a second letter", Due.calendar(x, "100hh"), -104);
    Due.is("a byte behind all", Due.roster(x, "1h=0;2e=0;3n=0;4p=0;5h=0;6e=00"), -129);
    Due.is("a bracket that isn't closed", Due.pick(x, "(day=1;"), -106);
    d.says("the length, if it ends too early.");
    Due.is("nothing", Due.rules(x, 0, ""), -100);
    Due.is("d10-", Due.rules(x, 0, "d10-"), -104);
    Due.is("10", Due.calendar(x, "10"), -102);
    Due.is("five of six", Due.roster(x, "1h=0;2e=0;3n=0;4p=0;5h=0"), -124);
    Due.is("(day=1", Due.pick(x, "(day=1"), -106);
  }

  private static void doesNothing(Document d) {
    d.says("A text with a FAULT does nothing.");
    FairTurns x = sixDays();
    x.hold(0, 1);
    Due.is("rules(1)", Due.rules(x, 1, "kh;kx"), -104);
    Due.is("of(1, 4)", x.of(1, 4), 0);
    Due.is("calendar()", Due.calendar(x, "9h;9x"), -104);
    Due.is("told(2)", x.told(2), 6);
    Due.is("openAll()", Due.openAll(x, "held=1|"), -107);
    Due.is("roster()", Due.roster(x, "1h=-;2e=1;3n=1;4p=1;5h=1;6e=2"), -128);
    Due.paperIs(x, "1h=1;2e=-;3n=-;4p=-;5h=-;6e=-");
  }

  private static void judged(Document d) {
    d.says("JUDGED, a ROSTER: of the DUTIES as they stand the first with one who may not hold it: its number;");
    FairTurns x = Due.with(3, "8h;1h;3e;4e");
    Due.rules(x, 2, "d3-9");
    Due.is("2 on days 4 and 8", Due.judge(x, "1h=2;3e=0;4e=2;8h=2"), 3);
    Due.is("2 on day 8", Due.judge(x, "1h=2;3e=0;4e=0;8h=2"), 0);
    d.says("if there is none: 100 and the first KIND in which it leaves more OPEN than now;");
    Due.roster(x, "1h=0;3e=1;4e=-;8h=1");
    Due.is("more HOLIDAYS and EVES", Due.judge(x, "1h=-;3e=-;4e=-;8h=0"), 100);
    Due.is("more EVES", Due.judge(x, "1h=0;3e=-;4e=-;8h=0"), 101);
    d.says("else 200 and the first KIND whose VECTOR by it is lesser than now"
        + " (at the first place, from the greatest on, at which they aren't alike), or 300 and it, if it is greater, of the first KIND in which they aren't alike;");
    Due.is("HOLIDAYS 2 0 0, were 1 1 0", Due.judge(x, "1h=0;3e=1;4e=-;8h=0"), 300);
    Due.is("EVES 1 1 0, were 1 0 0", Due.judge(x, "1h=1;3e=1;4e=0;8h=0"), 301);
    Due.roster(x, "1h=0;3e=1;4e=1;8h=0");
    Due.is("HOLIDAYS 1 1 0, were 2 0 0", Due.judge(x, "1h=1;3e=1;4e=0;8h=0"), 200);
    Due.is("EVES 1 1 0, were 2 0 0", Due.judge(x, "1h=1;3e=1;4e=0;8h=1"), 201);
    x.open(1);
    Due.is("HOLIDAYS greater, EVES lesser", Due.judge(x, "1h=0;3e=1;4e=0;8h=0"), 300);
    d.says("-5: all are alike.");
    Due.is("as now", Due.judge(x, "1h=-;3e=1;4e=1;8h=0"), Due.NOBODY);
    Due.is("of others, VECTORS as now", Due.judge(x, "1h=1;3e=0;4e=0;8h=-"), Due.NOBODY);
  }

  private static void spelled(Document d) {
    d.says("SPELLED: as a ROSTER (nothing, if there are no DUTIES).");
    FairTurns x = Due.members(8);
    Due.paperIs(x, "");
    Due.calendar(x, "365p;0h;45n;45e");
    x.hold(0, 7);
    x.hold(3, 0);
    Due.paperIs(x, "0h=-;45n=-;45e=0;365p=7");
    d.says("THE PAPER holds the latest one (nothing at first).");
    Due.is("told(6)", x.told(6), 23);
    x.hold(1, 4);
    Due.is("paper(3), ahead of the next", x.paper(3), '-');
    x.spell();
    Due.is("paper(3), behind it", x.paper(3), '4');
    FairTurns y = new FairTurns();
    Due.is("told(6) at first", y.told(6), 0);
    Due.is("paper(0) at first", y.paper(0), Due.NONE);
  }

  private static void lists(Document d) {
    d.says("LISTS 0 .. 3 hold nothing (at first) or a row of 0 .. 30 ints.");
    FairTurns x = new FairTurns();
    for (int list = 0; list < 4; list++) {
      Due.is("get, at first", x.get(list, 0), Due.NO_PLACE);
      Due.is("set, at first", x.set(list, 0, 1), -11);
      Due.is("list of 30", x.list(list, 30), 1);
      Due.is("set, the last place", x.set(list, 29, Due.LEAST + list), 1);
      Due.is("get, the last place", x.get(list, 29), Due.LEAST + list);
    }
    Due.is("list(0, 31)", x.list(0, 31), Due.BAD);
    Due.is("list(0, 0)", x.list(0, 0), 1);
    Due.is("get(0, 0) of none", x.get(0, 0), Due.NO_PLACE);
    Due.is("list(4, 0)", x.list(4, 0), Due.NONE);
    d.says("NOTHING (-11): none is held; BEYOND (-13): no such place; BELOW (-14): a size below 0.");
    FairTurns y = new FairTurns();
    Due.is("set, none is held", y.set(1, 0, 0), -11);
    Due.is("lay, none is held", y.lay(1, 0), -11);
    y.list(1, 2);
    Due.is("set, no such place", y.set(1, 2, 0), -13);
    Due.is("set, no such place", y.set(1, -1, 0), -13);
    Due.is("list, below 0", y.list(1, -1), -14);
    Due.is("set(1, 1, 7), which is held as before", y.set(1, 1, 7), 1);
  }

  private static void laid(Document d) {
    d.says("LAID into a LIST from a place on: holders of DUTIES as they stand (-1: OPEN), until a place isn't there.");
    FairTurns x = Due.with(3, "9h;2h;5h;7h");
    x.hold(0, 2);
    x.hold(2, 1);
    x.list(0, 6);
    for (int i = 0; i < 6; i++) x.set(0, i, 50);
    Due.is("lay(0, 1)", x.lay(0, 1), 4);
    listIs(x, 0, 50, -1, 1, -1, 2, 50);
    x.list(1, 3);
    Due.is("lay(1, 1)", x.lay(1, 1), -13);
    listIs(x, 1, 0, -1, 1);
  }

  private static void listIs(FairTurns x, int list, int... want) {
    for (int i = 0; i < want.length; i++) Due.is("get(" + list + ", " + i + ")", x.get(list, i), want[i]);
    Due.is("get(" + list + ", " + want.length + ")", x.get(list, want.length), Due.NO_PLACE);
  }

  private static void image(Document d) {
    d.says("THE IMAGE: PEOPLE with RANKS, PAST, RULES, DUTIES with holders, DISLIKES, YEAR (THE TAPE, THE PAPER, LISTS stay by undo()).");
    FairTurns x = new FairTurns();
    x.comes(2);
    x.comes(1);
    x.comes(0);
    x.goes(2);
    x.past(0, 1, 30);
    Due.rules(x, 1, "kh;kn");
    Due.calendar(x, "5h;2e");
    x.hold(1, 0);
    x.dislike(0, 1, 8);
    Due.is("image()", x.image(), 3);
    x.goes(0);
    x.comes(3);
    x.past(0, 1, 31);
    x.frees(1);
    x.duty(1, 1);
    x.hold(0, 1);
    x.hold(1, 1);
    x.hold(2, 1);
    x.close();
    x.list(2, 2);
    x.set(2, 1, 9);
    x.duty(7, 0);
    x.spell();
    Due.tape(x, "xyz");
    Due.is("undo()", x.undo(), 3);
    int[] ranks = {2, 1, 0};
    for (int one = 0; one < 3; one++) {
      Due.is("RANK of " + one, x.of(one, 0), ranks[one]);
      Due.is("HERE of " + one, x.of(one, 1), one == 2 ? 0 : 1);
    }
    Due.is("of(3, 0)", x.of(3, 0), Due.NONE);
    Due.is("PAST of 0", x.of(0, 11), 30);
    Due.is("PAST of 1", x.of(1, 10), 0);
    Due.is("RULES of 1", x.of(1, 4), 2);
    Due.is("may(1, 0)", x.may(1, 0), 0);
    Due.is("DUTIES", x.told(2), 2);
    Due.is("dutyOf(0, 2)", x.dutyOf(0, 2), Due.NOBODY);
    Due.is("dutyOf(1, 2)", x.dutyOf(1, 2), 0);
    Due.is("stands(0)", x.stands(0), 1);
    Due.is("disliked()", x.disliked(), 8);
    Due.is("YEAR", x.told(4), 0);
    Due.is("THE TAPE stays", x.told(5), 3);
    Due.is("THE PAPER stays", x.told(6), 4);
    Due.is("paper(0)", x.paper(0), '7');
    Due.is("LISTS stay", x.get(2, 1), 9);
  }

  private static void answers(Document d) {
    d.says("Answers: NONE (-1) no such number; BAD (-2) a number is not as told; STATE (-3) as told; FULL (-4); NOT (-7) as told;");
    FairTurns x = Due.with(1, "1h");
    Due.is("NONE", FairTurns.NONE, -1);
    Due.is("BAD", FairTurns.BAD, -2);
    Due.is("STATE", FairTurns.STATE, -3);
    Due.is("FULL", FairTurns.FULL, -4);
    Due.is("NOT", FairTurns.NOT, -7);
    Due.is("no such number", x.past(1, 0, 5), -1);
    Due.is("a number is not as told", x.past(0, 0, 1000), -2);
    Due.is("close(), a DUTY is OPEN", x.close(), -3);
    Due.rules(x, 0, "kh");
    Due.is("hold(0, 0), it MAY not", x.hold(0, 0), -7);
    for (int one = 1; one < 8; one++) x.comes(0);
    Due.is("comes(0)", x.comes(0), -4);
    d.says("the first that a call's words name.");
    Due.is("comes: NONE; FULL", x.comes(4), -1);
    Due.is("past: NONE; BAD", x.past(8, 0, 1000), -1);
    Due.is("past: NONE (the KIND); BAD", x.past(0, 4, 1000), -1);
    Due.is("duty: NONE; BAD; FULL", x.duty(366, 4), -1);
    for (int duty = 1; duty < 24; duty++) x.duty(duty, 0);
    Due.is("duty: NONE; FULL", x.duty(1, 4), -1);
    Due.is("duty: BAD; FULL", x.duty(366, 0), -2);
    Due.is("duty: FULL", x.duty(1, 0), -4);
    Due.is("dislike: NONE; BAD", x.dislike(8, 0, 10), -1);
    Due.is("dislike: NONE (the DUTY); BAD", x.dislike(0, 24, 10), -1);
    Due.is("hold: NONE; NOT", x.hold(24, 0), -1);
    Due.is("list: NONE; BAD", x.list(4, 31), -1);
    Due.is("list: NONE; BELOW", x.list(-1, -1), -1);
    Due.is("set: NONE; NOTHING", x.set(4, 0, 0), -1);
    Due.is("set: NOTHING; BEYOND", x.set(0, 30, 0), -11);
    Due.is("lay: NOTHING; BEYOND", x.lay(0, -1), -11);
    Due.tape(x, Due.repeated("1h", ';', 50) + "x");
    Due.is("feed: BAD; FULL", x.feed(128), -2);
    Due.is("feed: FULL", x.feed(127), -4);
  }

  private static void answersChangeNothing(Document d) {
    d.says("What is answered so changes nothing;");
    FairTurns x = Due.with(2, "1h;2h");
    x.hold(0, 0);
    Due.is("past(0, 0, 1000)", x.past(0, 0, 1000), Due.BAD);
    Due.is("of(0, 10)", x.of(0, 10), 0);
    Due.is("duty(366, 0)", x.duty(366, 0), Due.BAD);
    Due.is("close()", x.close(), Due.STATE);
    Due.rules(x, 1, "kh");
    Due.is("hold(0, 1)", x.hold(0, 1), Due.NOT);
    Due.is("roster()", Due.roster(x, "1h=-;2h=1"), Due.NOT);
    Due.is("told(2)", x.told(2), 2);
    Due.is("told(4)", x.told(4), 0);
    Due.paperIs(x, "1h=0;2h=-");
    d.says("what is asked changes nothing but THE PAPER.");
    FairTurns asked = Due.with(2, "1h;2h;3h;4e");
    for (int duty = 0; duty < 3; duty++) asked.hold(duty, 0);
    asked.hold(2, 1);
    asked.hold(1, 0);
    asked.past(0, 0, 3);
    asked.dislike(0, 0, 3);
    int[] before = state(asked);
    Due.is("lesser(0, 0)", asked.lesser(0, 0), 1);
    Due.is("ring(0)", asked.ring(0), 3);
    Due.is("pick()", Due.pick(asked, "held=1"), 0b0111);
    Due.is("judge()", Due.judge(asked, "1h=1;2h=1;3h=1;4e=1"), 200);
    Due.is("next(0, 0)", asked.next(0, 0), 1);
    int[] behind = state(asked);
    for (int i = 0; i < before.length; i++) Due.is("answer " + i + " behind what is asked", behind[i], before[i]);
    Due.is("spell()", x.spell(), 9);
    Due.is("told(6)", x.told(6), 9);
    d.says("-100 less the FAULT of a text;");
    Due.is("a FAULT at 0", Due.pick(x, "x"), -100);
    Due.is("a FAULT at 149", Due.pick(x, "day=1" + "|day=1".repeat(24) + "x"), -249);
    Due.is("a FAULT at the length", Due.pick(x, "day=1" + "|day=1".repeat(23) + "|day=1&"), -250);
    d.says("THE TAPE is empty behind each call that reads it.");
    FairTurns y = Due.with(1, "1h");
    String[] texts = {"kn", "2h", "day=1", "day=2", "1h=0;2h=-", "1h=0;2h=-", "x"};
    for (String text : texts) {
      for (int call = 0; call < 6; call++) {
        Due.tape(y, text);
        readBy(y, call);
        Due.is("told(5) behind call " + call + " of " + text, y.told(5), 0);
      }
    }
  }

  private static void readBy(FairTurns x, int call) {
    switch (call) {
      case 0: x.rules(0); break;
      case 1: x.calendar(); break;
      case 2: x.pick(); break;
      case 3: x.openAll(); break;
      case 4: x.judge(); break;
      default: x.roster();
    }
  }

  private static int[] state(FairTurns x) {
    int[] all = new int[40];
    int count = 0;
    for (int what = 0; what < 10; what++) all[count++] = x.told(what);
    for (int one = 0; one < 2; one++) {
      for (int what = 0; what < 5; what++) all[count++] = x.of(one, what);
      for (int kind = 0; kind < 4; kind++) all[count++] = x.of(one, 30 + kind);
    }
    for (int duty = 0; duty < 4; duty++) all[count++] = x.dutyOf(duty, 2);
    return all;
  }
}
