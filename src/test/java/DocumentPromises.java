// DocumentTest's part of the promises 1 to 43, each call's words one after the other.
final class DocumentPromises {
  private DocumentPromises() {}

  static void read(Document d) {
    newObject(d);
    comesAndGoes(d);
    pastAndOf(d);
    rulesAndFrees(d);
    duties(d);
    mayAndDislike(d);
    holdAndOpen(d);
    fillAndLoad(d);
    lesserAndEases(d);
    dislikedAndRings(d);
    closeAndAudit(d);
    nextNearHeaviest(d);
    tape(d);
    pickAndOpenAll(d);
    judgeAndRoster(d);
    paper(d);
    told(d);
    lists(d);
    lay(d);
    image(d);
  }

  private static void newObject(Document d) {
    d.says("## Promise 1: A new object `FairTurns()`: Nobody, no DUTIES.");
    FairTurns x = new FairTurns();
    Due.is("told(0)", x.told(0), 0);
    Due.is("told(1)", x.told(1), 0);
    Due.is("told(2)", x.told(2), 0);
    Due.is("told(4)", x.told(4), 0);
  }

  private static void comesAndGoes(Document d) {
    d.says("## Promise 2: comes `int comes(int rank)`: ONE COMES: its number. NONE: rank; FULL.");
    FairTurns x = new FairTurns();
    for (int one = 0; one < 8; one++) {
      Due.is("comes(4)", x.comes(4), Due.NONE);
      Due.is("comes(-1)", x.comes(-1), Due.NONE);
      Due.is("comes", x.comes(one % 4), one);
    }
    Due.is("comes(0)", x.comes(0), Due.FULL);
    d.says("## Promise 3: goes `int goes(int one)`: One GOES: how many are HERE. NONE; STATE: it isn't HERE.");
    Due.is("goes(3)", x.goes(3), 7);
    Due.is("goes(0)", x.goes(0), 6);
    Due.is("goes(8)", x.goes(8), Due.NONE);
    Due.is("goes(-1)", x.goes(-1), Due.NONE);
    Due.is("goes(3), again", x.goes(3), Due.STATE);
  }

  private static void pastAndOf(Document d) {
    d.says("## Promise 4: past `int past(int one, int kind, int v)`: PAST becomes v: what it was. NONE; BAD.");
    FairTurns x = new FairTurns();
    x.comes(3);
    x.comes(2);
    Due.is("past(1, 2, 6)", x.past(1, 2, 6), 0);
    Due.is("past(1, 2, 7)", x.past(1, 2, 7), 6);
    Due.is("past(2, 2, 7)", x.past(2, 2, 7), Due.NONE);
    Due.is("past(1, 4, 7)", x.past(1, 4, 7), Due.NONE);
    Due.is("past(1, 2, 1000)", x.past(1, 2, 1000), Due.BAD);
    x.goes(1);
    Due.is("past(1, 2, 8) of one who has gone", x.past(1, 2, 8), 7);
    d.says("## Promise 5: of `int of(int one, int what)`: Of one what 0 RANK, 1 whether it is HERE (1, 0), 2 BURDEN, 3 how many it holds,"
        + " 4 how many RULES, 10 and k PAST, 20 and k HEAD, 30 and k LOAD in KIND k. NONE.");
    Due.calendar(x, "1h;2h;3n");
    for (int duty = 0; duty < 3; duty++) x.hold(duty, 0);
    x.past(0, 1, 4);
    Due.rules(x, 0, "kp;d9-9");
    int[] whats = {0, 1, 2, 3, 4, 10, 11, 12, 13, 20, 21, 22, 23, 30, 31, 32, 33, 5, 9, 14, 24, 34, -1};
    int[] wants = {3, 1, 24, 3, 2, 0, 4, 0, 0, 2, 2, 2, 2, 4, 6, 3, 2, -1, -1, -1, -1, -1, -1};
    for (int i = 0; i < whats.length; i++) Due.is("of(0, " + whats[i] + ")", x.of(0, whats[i]), wants[i]);
    Due.is("of(1, 1)", x.of(1, 1), 0);
    Due.is("of(2, 0)", x.of(2, 0), Due.NONE);
    d.says("## Promise 6: neutral `int neutral(int kind)`: NEUTRAL for one who came now. NONE.");
    Due.is("neutral(1)", x.neutral(1), 4);
    Due.is("neutral(2)", x.neutral(2), 0);
    Due.is("neutral(4)", x.neutral(4), Due.NONE);
    Due.is("neutral(-1)", x.neutral(-1), Due.NONE);
  }

  private static void rulesAndFrees(Document d) {
    d.says("## Promise 7: rules `int rules(int one)`: THE TAPE is RULES, which come to those of one;"
        + " what it held and MAY not hold any more is OPEN: how many came; -100 less the FAULT.");
    FairTurns x = Due.with(3, "1h;2h;3e;4h");
    for (int duty = 0; duty < 4; duty++) x.hold(duty, duty == 3 ? 1 : 0);
    Due.is("rules(0)", Due.rules(x, 0, "ke"), 1);
    Due.is("rules(0)", Due.rules(x, 0, "d2-5;r5:1"), 2);
    Due.is("of(0, 4)", x.of(0, 4), 3);
    Due.paperIs(x, "1h=0;2h=-;3e=-;4h=1");
    Due.is("rules(0)", Due.rules(x, 0, "kh;k"), -104);
    Due.is("of(0, 4)", x.of(0, 4), 3);
    d.says("NONE: one; STATE: it isn't HERE (THE TAPE stays by both).");
    x.goes(2);
    Due.tape(x, "x");
    Due.is("rules(3)", x.rules(3), Due.NONE);
    Due.is("rules(-1)", x.rules(-1), Due.NONE);
    Due.is("rules(2)", x.rules(2), Due.STATE);
    Due.is("told(5)", x.told(5), 1);
    d.says("## Promise 8: frees `int frees(int one)`: One has no RULES: how many it had. NONE.");
    Due.is("frees(0)", x.frees(0), 3);
    Due.is("frees(0)", x.frees(0), 0);
    Due.is("may(0, 2)", x.may(0, 2), 1);
    Due.is("frees(2) of one who has gone", x.frees(2), 0);
    Due.is("frees(3)", x.frees(3), Due.NONE);
  }

  private static void duties(Document d) {
    d.says("## Promise 9: duty `int duty(int day, int kind)`: A DUTY comes, OPEN: its number. NONE: kind; BAD; FULL.");
    FairTurns x = new FairTurns();
    Due.is("duty(365, 3)", x.duty(365, 3), 0);
    Due.is("duty(0, 0)", x.duty(0, 0), 1);
    Due.is("dutyOf(1, 2)", x.dutyOf(1, 2), Due.NOBODY);
    Due.is("duty(0, 4)", x.duty(0, 4), Due.NONE);
    Due.is("duty(0, -1)", x.duty(0, -1), Due.NONE);
    Due.is("duty(366, 0)", x.duty(366, 0), Due.BAD);
    Due.is("duty(-1, 0)", x.duty(-1, 0), Due.BAD);
    d.says("## Promise 10: calendar `int calendar()`: THE TAPE is a CALENDAR: how many DUTIES came; -100 less the FAULT.");
    Due.is("calendar()", Due.calendar(x, Due.repeated("5e", ';', 22)), 22);
    Due.is("calendar()", Due.calendar(x, "5e"), -100);
    Due.is("duty(5, 1)", x.duty(5, 1), Due.FULL);
    d.says("## Promise 11: dutyOf `int dutyOf(int duty, int what)`: Of a DUTY what 0 DAY, 1 KIND, 2 holder (-5: OPEN),"
        + " 3 at which place it stands (from 0), 4 how many MAY hold it. NONE.");
    x.comes(0);
    x.comes(0);
    x.comes(0);
    Due.rules(x, 1, "kp");
    x.goes(2);
    x.hold(0, 0);
    int[] wants = {365, 3, 0, 23, 1};
    int[] wantsOfTwo = {5, 1, Due.NOBODY, 1, 2};
    for (int what = 0; what < 5; what++) {
      Due.is("dutyOf(0, " + what + ")", x.dutyOf(0, what), wants[what]);
      Due.is("dutyOf(2, " + what + ")", x.dutyOf(2, what), wantsOfTwo[what]);
    }
    Due.is("dutyOf(0, 5)", x.dutyOf(0, 5), Due.NONE);
    Due.is("dutyOf(0, -1)", x.dutyOf(0, -1), Due.NONE);
    Due.is("dutyOf(24, 0)", x.dutyOf(24, 0), Due.NONE);
    Due.is("dutyOf(-1, 0)", x.dutyOf(-1, 0), Due.NONE);
    d.says("## Promise 12: stands `int stands(int i)`: The DUTY at place i. NONE.");
    Due.is("stands(0)", x.stands(0), 1);
    Due.is("stands(1)", x.stands(1), 2);
    Due.is("stands(22)", x.stands(22), 23);
    Due.is("stands(23)", x.stands(23), 0);
    Due.is("stands(24)", x.stands(24), Due.NONE);
    Due.is("stands(-1)", x.stands(-1), Due.NONE);
  }

  private static void mayAndDislike(Document d) {
    d.says("## Promise 13: may `int may(int one, int duty)`: Whether one MAY hold a DUTY: 1, 0. NONE.");
    FairTurns x = Due.with(2, "1h;2e");
    Due.rules(x, 1, "kh");
    Due.is("may(1, 1)", x.may(1, 1), 1);
    Due.is("may(1, 0)", x.may(1, 0), 0);
    Due.is("may(2, 0)", x.may(2, 0), Due.NONE);
    Due.is("may(1, 2)", x.may(1, 2), Due.NONE);
    d.says("## Promise 14: dislike `int dislike(int one, int duty, int v)`: DISLIKE becomes v: what it was. NONE; BAD.");
    Due.is("dislike(1, 0, 3)", x.dislike(1, 0, 3), 0);
    Due.is("dislike(1, 0, 9)", x.dislike(1, 0, 9), 3);
    Due.is("dislike(2, 0, 3)", x.dislike(2, 0, 3), Due.NONE);
    Due.is("dislike(1, 2, 3)", x.dislike(1, 2, 3), Due.NONE);
    Due.is("dislike(1, 0, 10)", x.dislike(1, 0, 10), Due.BAD);
    Due.is("dislike(1, 0, 0)", x.dislike(1, 0, 0), 9);
  }

  private static void holdAndOpen(Document d) {
    d.says("## Promise 15: hold `int hold(int duty, int one)`: A DUTY is HELD by one, whoever held it: who that was (-5: OPEN). NONE; NOT: it MAY not.");
    FairTurns x = Due.with(4, "1h;2e");
    Due.rules(x, 2, "kh");
    x.goes(3);
    Due.is("hold(0, 1)", x.hold(0, 1), Due.NOBODY);
    Due.is("hold(0, 0)", x.hold(0, 0), 1);
    Due.is("hold(0, 0), as it does", x.hold(0, 0), 0);
    Due.is("hold(2, 0)", x.hold(2, 0), Due.NONE);
    Due.is("hold(0, 4)", x.hold(0, 4), Due.NONE);
    Due.is("hold(0, 2)", x.hold(0, 2), Due.NOT);
    Due.is("hold(0, 3)", x.hold(0, 3), Due.NOT);
    d.says("## Promise 16: open `int open(int duty)`: A DUTY is OPEN: who held it. NONE; STATE: it is OPEN.");
    Due.is("open(0)", x.open(0), 0);
    Due.is("open(0), again", x.open(0), Due.STATE);
    Due.is("dutyOf(0, 2)", x.dutyOf(0, 2), Due.NOBODY);
    Due.is("open(2)", x.open(2), Due.NONE);
    Due.is("open(-1)", x.open(-1), Due.NONE);
  }

  private static void fillAndLoad(Document d) {
    d.says("## Promise 17: fill `int fill(int kind)`: A KIND (-1: all) is FILLED: how many came to somebody. NONE.");
    FairTurns x = Due.with(2, "1h;2h;3e;4n;5n");
    Due.rules(x, 0, "kn");
    Due.rules(x, 1, "d4-4");
    Due.is("fill(1)", x.fill(1), 1);
    Due.is("fill(-1): none may on day 4", x.fill(-1), 3);
    Due.paperIs(x, "1h=0;2h=1;3e=0;4n=-;5n=1");
    Due.is("fill(4)", x.fill(4), Due.NONE);
    Due.is("fill(-2)", x.fill(-2), Due.NONE);
    d.says("## Promise 18: load `int load(int kind, int i)`: The i-th of a KIND's VECTOR. NONE.");
    Due.is("load(2, 0)", x.load(2, 0), 1);
    Due.is("load(2, 1)", x.load(2, 1), 0);
    Due.is("load(2, 2)", x.load(2, 2), Due.NONE);
    Due.is("load(2, -1)", x.load(2, -1), Due.NONE);
    Due.is("load(4, 0)", x.load(4, 0), Due.NONE);
  }

  private static void lesserAndEases(Document d) {
    d.says("## Promise 19: lesser `int lesser(int kind, int what)`: Whether the VECTOR can be made LESSER (what 0; 1, 0), FROM (1; -5), TO (2; -5). NONE.");
    FairTurns x = Due.with(3, "1h;2h;3h;4h;5e");
    for (int duty = 0; duty < 5; duty++) x.hold(duty, 1);
    int[] wants = {1, 1, 0};
    int[] none = {0, Due.NOBODY, Due.NOBODY};
    for (int what = 0; what < 3; what++) {
      Due.is("lesser(0, " + what + ")", x.lesser(0, what), wants[what]);
      Due.is("lesser(1, " + what + ")", x.lesser(1, what), none[what]);
      Due.is("lesser(4, " + what + ")", x.lesser(4, what), Due.NONE);
    }
    Due.is("lesser(0, 3)", x.lesser(0, 3), Due.NONE);
    Due.is("lesser(1, 3)", x.lesser(1, 3), Due.NONE);
    Due.is("lesser(0, -1)", x.lesser(0, -1), Due.NONE);
    d.says("## Promise 20: eases `int eases(int kind)`: The VECTOR is made LESSER, FROM being SHIFTED to TO, as often as it can be: how often. NONE.");
    Due.is("eases(1)", x.eases(1), 0);
    Due.is("eases(0)", x.eases(0), 2);
    Due.paperIs(x, "1h=0;2h=2;3h=1;4h=1;5e=1");
    Due.is("eases(0), again", x.eases(0), 0);
    Due.is("eases(4)", x.eases(4), Due.NONE);
    Due.is("eases(-1)", x.eases(-1), Due.NONE);
  }

  private static void dislikedAndRings(Document d) {
    d.says("## Promise 21: disliked `int disliked()`: DISLIKES of all holders for what they hold, together.");
    FairTurns x = Due.with(4, "1h;2h;3h;4e;5e;6n");
    for (int duty = 0; duty < 5; duty++) x.hold(duty, duty % 3);
    x.dislike(0, 0, 5);
    x.dislike(1, 1, 4);
    x.dislike(2, 2, 3);
    x.dislike(0, 3, 6);
    x.dislike(0, 5, 9);
    x.dislike(1, 0, 1);
    x.dislike(3, 0, 9);
    Due.is("5 and 4 and 3 and 6", x.disliked(), 18);
    d.says("## Promise 22: ring `int ring(int what)`: Of the BEST RING what 0 GAIN, 1 how many DUTIES, 10 and k its k-th DUTY; -5: there is none.");
    x.dislike(0, 1, 1);
    x.dislike(1, 2, 1);
    x.dislike(2, 0, 1);
    // 2 takes 1's, 1 takes 0's for 1, and 0 takes 2's.
    int[] whats = {0, 1, 10, 11, 12};
    int[] wants = {11, 3, 0, 1, 2};
    for (int i = 0; i < 5; i++) Due.is("ring(" + whats[i] + ")", x.ring(whats[i]), wants[i]);
    FairTurns none = Due.members(1);
    for (int what : whats) Due.is("ring(" + what + "), there is none", none.ring(what), Due.NOBODY);
    d.says("NONE: what (with fewer DUTIES, too).");
    int[] not = {13, 14, 2, 9, -1};
    for (int what : not) {
      Due.is("ring(" + what + ")", x.ring(what), Due.NONE);
      Due.is("ring(" + what + "), there is none, which is named first", none.ring(what), Due.NOBODY);
    }
    d.says("## Promise 23: turn `int turn(int n)`: The BEST RING is DONE, n times (1 .. 24) at most, as long as there is one: how many were. BAD.");
    Due.is("turn(0)", x.turn(0), Due.BAD);
    Due.is("turn(25)", x.turn(25), Due.BAD);
    Due.is("turn(1)", x.turn(1), 1);
    Due.is("disliked()", x.disliked(), 7);
    Due.paperIs(x, "1h=1;2h=2;3h=0;4e=0;5e=1;6n=-");
    Due.is("turn(24): 0 and 1 hand on their EVES", x.turn(24), 1);
    Due.paperIs(x, "1h=1;2h=2;3h=0;4e=1;5e=0;6n=-");
    Due.is("turn(24), again", x.turn(24), 0);
  }

  private static void closeAndAudit(Document d) {
    d.says("## Promise 24: close `int close()`: A YEAR is CLOSED: YEAR. STATE: a DUTY is OPEN.");
    FairTurns x = Due.with(3, "1h;2h;3h");
    x.hold(0, 1);
    x.hold(1, 1);
    Due.is("close()", x.close(), Due.STATE);
    Due.is("told(4)", x.told(4), 0);
    x.hold(2, 2);
    Due.is("close()", x.close(), 1);
    Due.is("close(), no DUTIES", x.close(), 2);
    Due.is("of(1, 10)", x.of(1, 10), 2);
    d.says("## Promise 25: audit `int audit(int kind, int what)`: SPREAD (what 0), ENVY (1), LOADS of all HERE together (2). NONE.");
    x.comes(3);
    x.goes(2);
    Due.is("audit(0, 0), LOADS 0 2 3", x.audit(0, 0), 3);
    Due.is("audit(0, 1)", x.audit(0, 1), 2);
    Due.is("audit(0, 2)", x.audit(0, 2), 5);
    Due.is("audit(0, 3)", x.audit(0, 3), Due.NONE);
    Due.is("audit(0, -1)", x.audit(0, -1), Due.NONE);
    Due.is("audit(4, 0)", x.audit(4, 0), Due.NONE);
  }

  private static void nextNearHeaviest(Document d) {
    d.says("## Promise 26: next `int next(int kind, int i)`: The i-th of NEXT. NONE.");
    FairTurns x = Due.with(3, "1h;2h;2n;8p");
    x.hold(0, 0);
    x.hold(1, 0);
    x.hold(2, 0);
    x.hold(3, 2);
    int[] wants = {1, 2, 0, Due.NONE};
    for (int i = 0; i < 4; i++) Due.is("next(0, " + i + ")", x.next(0, i), wants[i]);
    Due.is("next(0, -1)", x.next(0, -1), Due.NONE);
    Due.is("next(4, 0)", x.next(4, 0), Due.NONE);
    d.says("## Promise 27: near `int near()`: CLOSE: how many twos.");
    Due.is("1 2, 1 2, 2 2", x.near(), 3);
    d.says("## Promise 28: heaviest `int heaviest()`: Of those HERE the one with the greatest BURDEN, of several the first. -5: nobody is.");
    Due.is("BURDENS 12 0 1", x.heaviest(), 0);
    x.goes(0);
    Due.is("BURDENS 0 1", x.heaviest(), 2);
    x.past(1, 3, 1);
    Due.is("BURDENS 1 1", x.heaviest(), 1);
    x.goes(1);
    x.goes(2);
    Due.is("nobody", x.heaviest(), Due.NOBODY);
  }

  private static void tape(Document d) {
    d.says("## Promise 29: feed `int feed(int letter)`: A byte (1 .. 127) comes behind THE TAPE's: how many it has. BAD; FULL.");
    FairTurns x = new FairTurns();
    Due.is("feed(1)", x.feed(1), 1);
    Due.is("feed(127)", x.feed(127), 2);
    Due.is("feed(0)", x.feed(0), Due.BAD);
    Due.is("feed(128)", x.feed(128), Due.BAD);
    for (int i = 3; i <= 150; i++) x.feed('5');
    Due.is("feed, a 151st", x.feed('5'), Due.FULL);
    d.says("## Promise 30: clear `int clear()`: THE TAPE is empty then: how many bytes it had.");
    Due.is("clear()", x.clear(), 150);
    Due.is("clear()", x.clear(), 0);
    Due.is("feed('5')", x.feed('5'), 1);
    x.feed('h');
    Due.is("calendar(), the bytes as they came", x.calendar(), 1);
    Due.is("dutyOf(0, 0)", x.dutyOf(0, 0), 5);
  }

  private static void pickAndOpenAll(Document d) {
    d.says("## Promise 31: pick `int pick()`: THE TAPE is a CONDITION: DUTIES (bits) of which it is so; -100 less the FAULT.");
    FairTurns x = Due.withDuties(2, 24, 0);
    Due.is("pick()", Due.pick(x, "day=0|day>21"), 1 | 1 << 22 | 1 << 23);
    Due.is("pick()", Due.pick(x, "day>24"), 0);
    Due.is("pick()", Due.pick(x, "day>24)"), -106);
    d.says("## Promise 32: openAll `int openAll()`: THE TAPE is a CONDITION: DUTIES of which it is so (by what is ahead of it) become OPEN:"
        + " how many were HELD; -100 less the FAULT.");
    for (int duty = 0; duty < 5; duty++) x.hold(duty, duty % 2);
    Due.is("openAll()", Due.openAll(x, "who=1|day>3"), 3);
    Due.is("pick()", Due.pick(x, "held=1"), 0b00101);
    Due.is("openAll()", Due.openAll(x, "held=1("), -106);
    Due.is("openAll()", Due.openAll(x, "held=0|held=1"), 2);
    Due.is("told(3)", x.told(3), 24);
  }

  private static void judgeAndRoster(Document d) {
    d.says("## Promise 33: judge `int judge()`: THE TAPE is a ROSTER: JUDGED; -100 less the FAULT.");
    FairTurns x = Due.with(2, "1h;2h");
    Due.rules(x, 1, "d2-2");
    Due.is("judge()", Due.judge(x, "1h=1;2h=1"), 1);
    Due.is("judge()", Due.judge(x, "1h=1;2h=0"), 300);
    Due.is("judge()", Due.judge(x, "1h=-;2h=-"), Due.NOBODY);
    Due.is("judge()", Due.judge(x, "1h=1;2e=0"), -106);
    Due.paperIs(x, "1h=-;2h=-");
    d.says("STATE, ahead of any FAULT: there are no DUTIES (THE TAPE is empty then, too).");
    FairTurns none = Due.members(1);
    Due.is("judge()", Due.judge(none, "x"), Due.STATE);
    Due.is("told(5)", none.told(5), 0);
    Due.is("judge()", none.judge(), Due.STATE);
    d.says("## Promise 34: roster `int roster()`: THE TAPE is a ROSTER, and becomes so: how many are HELD; -100 less the FAULT; NOT: some may not be held so.");
    Due.is("roster()", Due.roster(x, "1h=1;2h=0"), 2);
    Due.is("roster()", Due.roster(x, "1h=-;2h=1"), Due.NOT);
    Due.is("roster()", Due.roster(x, "1h=-;2h=2"), -108);
    Due.paperIs(x, "1h=1;2h=0");
    Due.is("roster()", Due.roster(x, "1h=0;2h=-"), 1);
    Due.paperIs(x, "1h=0;2h=-");
    d.says("STATE, ahead of any FAULT: there are no DUTIES (THE TAPE is empty by all of these).");
    Due.is("roster()", Due.roster(none, "x"), Due.STATE);
    Due.is("told(5)", none.told(5), 0);
    Due.is("roster()", Due.roster(x, "1h=-;2h=1"), Due.NOT);
    Due.is("told(5)", x.told(5), 0);
  }

  private static void paper(Document d) {
    d.says("## Promise 35: spell `int spell()`: THE PAPER becomes the ROSTER SPELLED: how many bytes.");
    FairTurns x = Due.with(1, "10n;9e");
    x.hold(0, 0);
    Due.is("spell()", x.spell(), 10);
    d.says("## Promise 36: paper `int paper(int i)`: Byte i of THE PAPER. NONE.");
    String want = "9e=-;10n=0";
    for (int i = 0; i < 10; i++) Due.is("paper(" + i + ")", x.paper(i), want.charAt(i));
    Due.is("paper(10)", x.paper(10), Due.NONE);
    Due.is("paper(-1)", x.paper(-1), Due.NONE);
  }

  private static void told(Document d) {
    d.says("## Promise 37: told `int told(int what)`: What 0 PEOPLE, 1 of them HERE, 2 DUTIES, 3 OPEN ones, 4 YEAR, 5 bytes of THE TAPE, 6 of THE PAPER,"
        + " 7 unlike DAYS of DUTIES, 8 the first DAY, 9 the last one (-1: no DUTIES), 10 and k DUTIES of KIND k, 20 and k OPEN ones of it.");
    FairTurns x = new FairTurns();
    Due.is("told(8)", x.told(8), -1);
    Due.is("told(9)", x.told(9), -1);
    x.close();
    for (int one = 0; one < 4; one++) x.comes(0);
    x.goes(1);
    Due.calendar(x, "9h;3h;9e;300p;3p;3p");
    x.hold(1, 0);
    x.hold(4, 2);
    x.spell();
    Due.tape(x, "abcde");
    int[] wants = {4, 3, 6, 4, 1, 5, 31, 3, 3, 300};
    for (int what = 0; what < 10; what++) Due.is("told(" + what + ")", x.told(what), wants[what]);
    int[] ofKinds = {2, 1, 0, 3};
    int[] openOfKinds = {1, 1, 0, 2};
    for (int kind = 0; kind < 4; kind++) {
      Due.is("told(" + (10 + kind) + ")", x.told(10 + kind), ofKinds[kind]);
      Due.is("told(" + (20 + kind) + ")", x.told(20 + kind), openOfKinds[kind]);
    }
    d.says("NONE (8, 9 may be that, too).");
    int[] none = {-1, 14, 19, 24, 30};
    for (int what : none) Due.is("told(" + what + ")", x.told(what), Due.NONE);
  }

  private static void lists(Document d) {
    d.says("## Promise 38: list `int list(int list, int n)`: A LIST becomes a row of n ints, all 0: 1. NONE: list; BAD: n above 30; BELOW.");
    FairTurns x = new FairTurns();
    Due.is("list(3, 2)", x.list(3, 2), 1);
    x.set(3, 1, 8);
    Due.is("list(3, 3)", x.list(3, 3), 1);
    for (int i = 0; i < 3; i++) Due.is("get(3, " + i + ")", x.get(3, i), 0);
    Due.is("list(4, 2)", x.list(4, 2), Due.NONE);
    Due.is("list(-1, 2)", x.list(-1, 2), Due.NONE);
    Due.is("list(3, 31)", x.list(3, 31), Due.BAD);
    Due.is("list(3, -1)", x.list(3, -1), -14);
    d.says("## Promise 39: set `int set(int list, int i, int v)`: Place i of a LIST becomes v: 1. NONE; NOTHING; BEYOND.");
    Due.is("set(3, 2, most)", x.set(3, 2, Due.MOST), 1);
    Due.is("set(4, 0, 1)", x.set(4, 0, 1), Due.NONE);
    Due.is("set(2, 0, 1)", x.set(2, 0, 1), -11);
    Due.is("set(3, 3, 1)", x.set(3, 3, 1), -13);
    Due.is("set(3, -1, 1)", x.set(3, -1, 1), -13);
    d.says("## Promise 40: get `long get(int list, int i)`: Place i of a LIST. The least long: no such LIST, nothing there, no such place.");
    Due.is("get(3, 2)", x.get(3, 2), Due.MOST);
    Due.is("get(4, 0)", x.get(4, 0), Long.MIN_VALUE);
    Due.is("get(2, 0)", x.get(2, 0), Long.MIN_VALUE);
    Due.is("get(3, 3)", x.get(3, 3), Long.MIN_VALUE);
    Due.is("get(3, -1)", x.get(3, -1), Long.MIN_VALUE);
  }

  private static void lay(Document d) {
    d.says("## Promise 41: lay `int lay(int list, int i)`: Holders are LAID into a LIST from i on: how many. NONE; NOTHING;");
    FairTurns x = Due.with(3, "1h;2h;3h");
    x.hold(0, 1);
    x.hold(2, 2);
    Due.is("lay(0, 0)", x.lay(0, 0), -11);
    Due.is("lay(4, 0)", x.lay(4, 0), Due.NONE);
    x.list(0, 5);
    Due.is("lay(0, 2)", x.lay(0, 2), 3);
    int[] wants = {0, 0, 1, -1, 2};
    for (int i = 0; i < 5; i++) Due.is("get(0, " + i + ")", x.get(0, i), wants[i]);
    d.says("BEYOND: not all were (those that had a place are there all the same; none, if i is below 0).");
    x.list(0, 5);
    Due.is("lay(0, -1)", x.lay(0, -1), -13);
    for (int i = 0; i < 5; i++) Due.is("get(0, " + i + ")", x.get(0, i), 0);
    Due.is("lay(0, 4)", x.lay(0, 4), -13);
    Due.is("get(0, 4)", x.get(0, 4), 1);
    Due.is("lay(0, 5)", x.lay(0, 5), -13);
    Due.is("get(0, 0)", x.get(0, 0), 0);
  }

  private static void image(Document d) {
    d.says("## Promise 42: image `int image()`: THE IMAGE is taken: how many PEOPLE.");
    FairTurns x = Due.with(2, "1h");
    x.goes(0);
    Due.is("image()", x.image(), 2);
    x.comes(0);
    x.hold(0, 2);
    d.says("## Promise 43: undo `int undo()`: All is as THE IMAGE: how many PEOPLE.");
    Due.is("undo()", x.undo(), 2);
    Due.is("dutyOf(0, 2)", x.dutyOf(0, 2), Due.NOBODY);
    Due.is("undo(), again", x.undo(), 2);
    x.hold(0, 1);
    Due.is("image(), another", x.image(), 2);
    x.open(0);
    Due.is("undo()", x.undo(), 2);
    Due.is("dutyOf(0, 2)", x.dutyOf(0, 2), 1);
    d.says("STATE: there is none.");
    Due.is("undo()", new FairTurns().undo(), Due.STATE);
  }
}
