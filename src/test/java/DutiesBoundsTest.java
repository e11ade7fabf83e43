// Promises 9 to 16, and the terms they use: a test of its own for each sentence that names a boundary.
public final class DutiesBoundsTest {
  public static void main(String[] args) {
    dutiesAreTwentyFour();
    daysOfDuties();
    kindsOfDuties();
    dutyRefused();
    dutiesStand();
    calendarReadsDays();
    calendarReadsLetters();
    calendarIsParted();
    calendarHasRoom();
    calendarOfAFullTape();
    dutyOfWhat();
    whoMayHold();
    standsAt();
    may();
    dislikeBounds();
    dislikeRefused();
    dislikesEndWithTheYear();
    hold();
    holdRefused();
    open();
    Due.close("DutiesBoundsTest");
  }

  // ---- promise 9

  private static void dutiesAreTwentyFour() {
    Due.by("==== 1: DUTIES 0 .. 23, as they come");
    FairTurns x = Due.members(1);
    for (int duty = 0; duty < 24; duty++) {
      Due.is("dutyOf(" + duty + ", 0) ahead of it", x.dutyOf(duty, 0), Due.NONE);
      Due.is("duty", x.duty(7, duty % 4), duty);
      Due.is("dutyOf(" + duty + ", 0)", x.dutyOf(duty, 0), 7);
    }
    Due.is("told(2)", x.told(2), 24);
    Due.by("Promise 9: FULL");
    for (int kind = 0; kind < 4; kind++) Due.is("duty(0, " + kind + "), the 25th", x.duty(0, kind), Due.FULL);
    Due.is("told(2)", x.told(2), 24);
    Due.is("told(8)", x.told(8), 7);
    x.fill(-1);
    Due.is("close()", x.close(), 1);
    Due.by("==== 3: no DUTIES are left: the next is 0 again");
    for (int duty = 0; duty < 24; duty++) Due.is("duty, another year", x.duty(365, 3), duty);
    Due.is("duty, the 25th of another year", x.duty(0, 0), Due.FULL);
  }

  private static void daysOfDuties() {
    Due.by("==== 1: a DAY (0 .. 365)");
    FairTurns x = new FairTurns();
    int[] days = {0, 1, 364, 365};
    for (int i = 0; i < 4; i++) {
      Due.is("duty(" + days[i] + ", 0)", x.duty(days[i], 0), i);
      Due.is("dutyOf(" + i + ", 0)", x.dutyOf(i, 0), days[i]);
    }
    Due.by("Promise 9: BAD");
    for (int day : Due.outside(0, 365)) Due.is("duty(" + day + ", 0)", x.duty(day, 0), Due.BAD);
    Due.is("told(2)", x.told(2), 4);
  }

  private static void kindsOfDuties() {
    Due.by("==== 1: KINDS, in this order: 0 HOLIDAY, 1 EVE, 2 NIGHT, 3 PLAIN");
    FairTurns x = new FairTurns();
    for (int kind = 0; kind < 4; kind++) {
      Due.is("duty(5, " + kind + ")", x.duty(5, kind), kind);
      Due.is("dutyOf(" + kind + ", 1)", x.dutyOf(kind, 1), kind);
      Due.is("dutyOf(" + kind + ", 2), a DUTY comes, OPEN", x.dutyOf(kind, 2), Due.NOBODY);
    }
    Due.paperIs(x, "5h=-;5e=-;5n=-;5p=-");
  }

  private static void dutyRefused() {
    Due.by("Promise 9: NONE: kind; BAD; FULL, the first that a call's words name");
    FairTurns x = new FairTurns();
    for (int kind : Due.outside(0, 3)) {
      Due.is("duty(0, " + kind + ")", x.duty(0, kind), Due.NONE);
      for (int day : Due.outside(0, 365)) Due.is("duty(" + day + ", " + kind + ")", x.duty(day, kind), Due.NONE);
    }
    Due.is("told(2)", x.told(2), 0);
    FairTurns full = Due.withDuties(0, 24, 0);
    for (int kind : Due.outside(0, 3)) Due.is("duty(0, " + kind + "), full", full.duty(0, kind), Due.NONE);
    for (int day : Due.outside(0, 365)) Due.is("duty(" + day + ", 0), full", full.duty(day, 0), Due.BAD);
  }

  private static void dutiesStand() {
    Due.by("==== 1: They stand by DAYS, of one DAY by numbers");
    FairTurns falling = new FairTurns();
    for (int day = 365; day > 365 - 24; day--) falling.duty(day, 0);
    for (int i = 0; i < 24; i++) {
      Due.is("stands(" + i + "), falling days", falling.stands(i), 23 - i);
      Due.is("dutyOf(" + i + ", 3), falling days", falling.dutyOf(i, 3), 23 - i);
    }
    FairTurns like = new FairTurns();
    for (int i = 0; i < 24; i++) like.duty(9, 3 - i % 4);
    for (int i = 0; i < 24; i++) Due.is("stands(" + i + "), all of one day", like.stands(i), i);
    FairTurns mixed = new FairTurns();
    int[] days = {5, 365, 0, 5, 365, 0, 4, 6};
    int[] standing = {2, 5, 6, 0, 3, 7, 1, 4};
    for (int day : days) mixed.duty(day, 1);
    for (int i = 0; i < 8; i++) Due.is("stands(" + i + ")", mixed.stands(i), standing[i]);
  }

  // ---- promise 10

  private static void calendarAnswers(String text, int want) {
    FairTurns x = new FairTurns();
    Due.is("calendar() of '" + text + "'", Due.calendar(x, text), want);
    Due.is("told(2) behind '" + text + "'", x.told(2), Math.max(want, 0));
    Due.is("told(5) behind '" + text + "'", x.told(5), 0);
  }

  private static void calendarReadsDays() {
    Due.by("==== 4: A CALENDAR: a DAY");
    String[] good = {"0h", "000h", "1h", "01h", "364h", "365h"};
    int[] days = {0, 0, 1, 1, 364, 365};
    for (int i = 0; i < good.length; i++) {
      FairTurns x = new FairTurns();
      Due.is("calendar() of " + good[i], Due.calendar(x, good[i]), 1);
      Due.is("dutyOf(0, 0) of " + good[i], x.dutyOf(0, 0), days[i]);
      Due.is("dutyOf(0, 2) of " + good[i], x.dutyOf(0, 2), Due.NOBODY);
    }
    Due.by("==== 4: FAULT of a number that may not be (looked at as soon as it is taken), where it begins");
    calendarAnswers("366h", -100);
    calendarAnswers("999h", -100);
    calendarAnswers("366", -100);
    calendarAnswers("366x", -100);
    calendarAnswers("3660h", -100);
    calendarAnswers("5h;366h", -103);
    calendarAnswers("5h;6h;400x", -106);
    Due.by("==== 4: A number is as many figures as stand there, 3 at most");
    calendarAnswers("0000h", -103);
    calendarAnswers("3650h", -103);
    calendarAnswers("12h;0365h", -107);
    Due.by("==== 4: FAULT: the length, if it ends too early");
    calendarAnswers("3", -101);
    calendarAnswers("36", -102);
    calendarAnswers("365", -103);
    calendarAnswers("5h;3", -104);
  }

  private static void calendarReadsLetters() {
    Due.by("==== 4: A CALENDAR: a KIND's letter");
    FairTurns x = new FairTurns();
    Due.is("calendar() of all letters", Due.calendar(x, "1h;2e;3n;4p"), 4);
    for (int kind = 0; kind < 4; kind++) Due.is("dutyOf(" + kind + ", 1)", x.dutyOf(kind, 1), kind);
    Due.by("==== 4: FAULT: the place of the first byte with which no such text goes on");
    for (char letter = 1; letter < 128; letter++) {
      boolean isFigure = letter >= '0' && letter <= '9';
      if ("henp".indexOf(letter) < 0 && !isFigure) calendarAnswers("5" + letter, -101);
      if (!isFigure) calendarAnswers("" + letter, -100);
      if (letter != ';') calendarAnswers("5h" + letter, -102);
    }
  }

  private static void calendarIsParted() {
    Due.by("==== 4: A CALENDAR: DUTIES, one or more, parted by ;");
    calendarAnswers("", -100);
    calendarAnswers(";", -100);
    calendarAnswers(";5h", -100);
    calendarAnswers("5h;", -103);
    calendarAnswers("5h;;6h", -103);
    calendarAnswers("5h,6h", -102);
    calendarAnswers("5h6h", -102);
    calendarAnswers("5h 6h", -102);
    calendarAnswers("5h; 6h", -103);
    calendarAnswers("5h;6h", 2);
    calendarAnswers("5h;5h;5h", 3);
    Due.by("Promise 10: how many DUTIES came (numbers go on, as they come)");
    FairTurns x = new FairTurns();
    x.duty(9, 2);
    Due.is("calendar()", Due.calendar(x, "9h;8e"), 2);
    Due.is("stands(0)", x.stands(0), 2);
    Due.is("stands(1)", x.stands(1), 0);
    Due.is("stands(2)", x.stands(2), 1);
  }

  private static void calendarHasRoom() {
    Due.by("==== 4: FAULT of a DUTY for which there is no room, where it begins");
    calendarAnswers(Due.repeated("7h", ';', 24), 24);
    calendarAnswers(Due.repeated("7h", ';', 25), -172);
    calendarAnswers(Due.repeated("7h", ';', 24) + ";", -172);
    calendarAnswers(Due.repeated("7h", ';', 24) + "x", -171);
    calendarAnswers(Due.repeated("7h", ';', 24) + ";x", -172);
    calendarAnswers(Due.repeated("7h", ';', 23) + ";7x;7h", -170);
    FairTurns one = Due.withDuties(0, 23, 0);
    Due.is("two for one", Due.calendar(one, "100h;100h"), -105);
    Due.is("told(2)", one.told(2), 23);
    Due.is("one for one", Due.calendar(one, "365p"), 1);
    Due.is("told(2)", one.told(2), 24);
    Due.is("told(9)", one.told(9), 365);
    FairTurns full = Due.withDuties(0, 24, 0);
    Due.is("one for none", Due.calendar(full, "1h"), -100);
    Due.is("no text for none", Due.calendar(full, ""), -100);
    Due.is("a wrong one for none", Due.calendar(full, "999x"), -100);
    Due.is("told(2)", full.told(2), 24);
  }

  private static void calendarOfAFullTape() {
    Due.by("==== 4: THE TAPE holds 0 .. 150 bytes: the longest CALENDAR, and one that fills it");
    String longest = Due.repeated("365h", ';', 24);
    Due.is("bytes of the longest", longest.length(), 119);
    calendarAnswers(longest, 24);
    String full = longest + ";" + Due.repeated("365h", ';', 6);
    Due.is("bytes of one more", full.length(), 149);
    calendarAnswers(full + ";", -220);
    calendarAnswers(Due.repeated("0", '0', 75) + "h", -103);
  }

  // ---- promise 11

  private static void dutyOfWhat() {
    Due.by("Promise 11: NONE");
    FairTurns x = Due.withDuties(2, 24, 1);
    int[] last = {23, 1, Due.NOBODY, 23, 2};
    for (int what = 0; what < 5; what++) {
      Due.is("dutyOf(23, " + what + ")", x.dutyOf(23, what), last[what]);
      for (int duty : Due.outside(0, 23)) Due.is("dutyOf(" + duty + ", " + what + ")", x.dutyOf(duty, what), Due.NONE);
    }
    for (int what : Due.outside(0, 4)) Due.is("dutyOf(0, " + what + ")", x.dutyOf(0, what), Due.NONE);
    FairTurns few = Due.withDuties(2, 2, 1);
    Due.is("dutyOf(1, 0) of two", few.dutyOf(1, 0), 1);
    Due.is("dutyOf(2, 0) of two", few.dutyOf(2, 0), Due.NONE);
    Due.is("dutyOf(2, 2) of two", few.dutyOf(2, 2), Due.NONE);
  }

  private static void whoMayHold() {
    Due.by("Promise 11: 4 how many MAY hold it");
    FairTurns x = Due.withDuties(0, 2, 2);
    Due.is("of nobody", x.dutyOf(1, 4), 0);
    for (int one = 0; one < 8; one++) x.comes(0);
    Due.is("of eight", x.dutyOf(1, 4), 8);
    for (int one = 0; one < 7; one++) Due.rules(x, one, "d1-1");
    Due.is("of one", x.dutyOf(1, 4), 1);
    Due.is("of eight, the day ahead", x.dutyOf(0, 4), 8);
    x.goes(7);
    Due.is("of none", x.dutyOf(1, 4), 0);
    for (int one = 0; one < 7; one++) x.goes(one);
    Due.is("of all gone", x.dutyOf(0, 4), 0);
  }

  // ---- promise 12

  private static void standsAt() {
    Due.by("Promise 12: NONE");
    FairTurns none = Due.members(2);
    for (int i : Due.outside(0, 0)) Due.is("stands(" + i + ") of none", none.stands(i), Due.NONE);
    Due.is("stands(0) of none", none.stands(0), Due.NONE);
    FairTurns two = Due.withDuties(0, 2, 0);
    Due.is("stands(1) of two", two.stands(1), 1);
    for (int i : Due.outside(0, 1)) Due.is("stands(" + i + ") of two", two.stands(i), Due.NONE);
    FairTurns full = Due.withDuties(0, 24, 0);
    Due.is("stands(23) of 24", full.stands(23), 23);
    for (int i : Due.outside(0, 23)) Due.is("stands(" + i + ") of 24", full.stands(i), Due.NONE);
  }

  // ---- promise 13

  private static void may() {
    Due.by("==== 1: One MAY hold a DUTY: HERE, and no RULE is against it");
    FairTurns x = Due.withDuties(8, 24, 0);
    Due.is("may(7, 23)", x.may(7, 23), 1);
    Due.rules(x, 7, "r2:0;kp;d300-365");
    Due.is("may(7, 22), no RULE is against it", x.may(7, 22), 1);
    Due.is("may(7, 23), one of three is", x.may(7, 23), 0);
    x.goes(7);
    Due.is("may(7, 22), gone", x.may(7, 22), 0);
    x.goes(0);
    Due.is("may(0, 0), gone, without RULES", x.may(0, 0), 0);
    Due.by("Promise 13: NONE");
    for (int one : Due.outside(0, 7)) Due.is("may(" + one + ", 0)", x.may(one, 0), Due.NONE);
    for (int duty : Due.outside(0, 23)) {
      Due.is("may(1, " + duty + ")", x.may(1, duty), Due.NONE);
      Due.is("may(0, " + duty + "), gone", x.may(0, duty), Due.NONE);
    }
    FairTurns few = Due.withDuties(1, 1, 0);
    Due.is("may(1, 0) of one", few.may(1, 0), Due.NONE);
    Due.is("may(0, 1) of one", few.may(0, 1), Due.NONE);
  }

  // ---- promise 14

  private static void dislikeBounds() {
    Due.by("==== 1: DISLIKE (0 .. 9; 0 at first) of one for a DUTY");
    FairTurns x = Due.withDuties(8, 24, 0);
    for (int one = 0; one < 8; one += 7) {
      for (int duty = 0; duty < 24; duty += 23) {
        Due.is("dislike(" + one + ", " + duty + ", 9)", x.dislike(one, duty, 9), 0);
        Due.is("dislike(" + one + ", " + duty + ", 0)", x.dislike(one, duty, 0), 9);
        Due.is("dislike(" + one + ", " + duty + ", 5)", x.dislike(one, duty, 5), 0);
      }
    }
    Due.by("Promise 14: BAD");
    for (int v : Due.outside(0, 9)) Due.is("dislike(7, 23, " + v + ")", x.dislike(7, 23, v), Due.BAD);
    Due.is("dislike(7, 23, 5)", x.dislike(7, 23, 5), 5);
    Due.is("dislike(7, 22, 0), another's", x.dislike(7, 22, 0), 0);
    Due.is("dislike(6, 23, 0), another's", x.dislike(6, 23, 0), 0);
    x.goes(7);
    Due.is("dislike(7, 23, 4) of one who has gone", x.dislike(7, 23, 4), 5);
  }

  private static void dislikeRefused() {
    Due.by("Promise 14: NONE; BAD, the first that a call's words name");
    FairTurns x = Due.withDuties(8, 24, 0);
    for (int v = -1; v <= 10; v += 11) {
      for (int one : Due.outside(0, 7)) Due.is("dislike(" + one + ", 0, " + v + ")", x.dislike(one, 0, v), Due.NONE);
      for (int duty : Due.outside(0, 23)) Due.is("dislike(0, " + duty + ", " + v + ")", x.dislike(0, duty, v), Due.NONE);
    }
    FairTurns few = Due.withDuties(1, 1, 0);
    Due.is("dislike(1, 0, 3) of one", few.dislike(1, 0, 3), Due.NONE);
    Due.is("dislike(0, 1, 3) of one", few.dislike(0, 1, 3), Due.NONE);
    few.comes(0);
    few.duty(5, 0);
    Due.is("dislike(1, 0, 0), nothing was kept", few.dislike(1, 0, 0), 0);
    Due.is("dislike(0, 1, 0), nothing was kept", few.dislike(0, 1, 0), 0);
  }

  private static void dislikesEndWithTheYear() {
    Due.by("==== 3: A YEAR is CLOSED: no DISLIKES");
    FairTurns x = Due.withDuties(8, 24, 0);
    for (int one = 0; one < 8; one++) {
      for (int duty = 0; duty < 24; duty += 23) x.dislike(one, duty, 9);
    }
    x.goes(3);
    x.fill(-1);
    x.close();
    for (int day = 0; day < 24; day++) x.duty(day, 1);
    for (int one = 0; one < 8; one++) {
      for (int duty = 0; duty < 24; duty += 23) Due.is("dislike(" + one + ", " + duty + ", 0)", x.dislike(one, duty, 0), 0);
    }
  }

  // ---- promise 15

  private static void hold() {
    Due.by("Promise 15: A DUTY is HELD by one, whoever held it: who that was (-5: OPEN)");
    FairTurns x = Due.withDuties(8, 24, 3);
    Due.is("hold(23, 7)", x.hold(23, 7), Due.NOBODY);
    Due.is("hold(23, 0)", x.hold(23, 0), 7);
    Due.is("hold(23, 0), the same", x.hold(23, 0), 0);
    Due.is("hold(0, 7)", x.hold(0, 7), Due.NOBODY);
    Due.is("of(7, 3)", x.of(7, 3), 1);
    Due.is("of(0, 3)", x.of(0, 3), 1);
    Due.is("told(3)", x.told(3), 22);
  }

  private static void holdRefused() {
    Due.by("Promise 15: NONE; NOT: it MAY not, the first that a call's words name");
    FairTurns x = Due.withDuties(8, 24, 3);
    x.hold(0, 5);
    x.goes(7);
    Due.rules(x, 6, "d0-0");
    for (int duty : Due.outside(0, 23)) {
      Due.is("hold(" + duty + ", 0)", x.hold(duty, 0), Due.NONE);
      Due.is("hold(" + duty + ", 7), gone", x.hold(duty, 7), Due.NONE);
    }
    for (int one : Due.outside(0, 7)) Due.is("hold(0, " + one + ")", x.hold(0, one), Due.NONE);
    Due.is("hold(0, 7), gone", x.hold(0, 7), Due.NOT);
    Due.is("hold(0, 6), a RULE is against it", x.hold(0, 6), Due.NOT);
    Due.is("dutyOf(0, 2) stays", x.dutyOf(0, 2), 5);
    Due.is("hold(1, 6), the day behind", x.hold(1, 6), Due.NOBODY);
    FairTurns few = Due.withDuties(1, 1, 0);
    Due.is("hold(1, 0) of one", few.hold(1, 0), Due.NONE);
    Due.is("hold(0, 1) of one", few.hold(0, 1), Due.NONE);
    Due.is("told(3)", few.told(3), 1);
  }

  // ---- promise 16

  private static void open() {
    Due.by("Promise 16: A DUTY is OPEN: who held it");
    FairTurns x = Due.withDuties(8, 24, 3);
    x.hold(23, 7);
    x.hold(0, 0);
    Due.is("open(23)", x.open(23), 7);
    Due.is("open(0)", x.open(0), 0);
    Due.is("told(3)", x.told(3), 24);
    Due.by("Promise 16: STATE: it is OPEN");
    for (int duty = 0; duty < 24; duty++) Due.is("open(" + duty + "), OPEN", x.open(duty), Due.STATE);
    Due.by("Promise 16: NONE");
    for (int duty : Due.outside(0, 23)) Due.is("open(" + duty + ")", x.open(duty), Due.NONE);
    FairTurns few = Due.withDuties(1, 1, 0);
    Due.is("open(1) of one", few.open(1), Due.NONE);
  }
}
