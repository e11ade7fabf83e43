// Promises 9 to 16: duties, where they stand, who may, dislikes, holding and opening.
public final class DutiesTest {
  public static void main(String[] args) {
    duty();
    calendar();
    calendarFaults();
    dutyOf();
    may();
    dislike();
    hold();
    open();
    Due.close("DutiesTest");
  }

  private static void duty() {
    FairTurns x = new FairTurns();
    Due.is("duty(0, -1)", x.duty(0, -1), Due.NONE);
    Due.is("duty(-1, 4)", x.duty(-1, 4), Due.NONE);
    Due.is("duty(-1, 0)", x.duty(-1, 0), Due.BAD);
    Due.is("duty(366, 0)", x.duty(366, 0), Due.BAD);
    for (int i = 0; i < 24; i++) Due.is("duty " + i, x.duty(365 - i, i % 4), i);
    Due.is("duty, the 25th", x.duty(1, 1), Due.FULL);
    Due.is("duty(366, 0), the 25th", x.duty(366, 0), Due.BAD);
    Due.is("told(2)", x.told(2), 24);
    for (int i = 0; i < 24; i++) Due.is("stands(" + i + ")", x.stands(i), 23 - i);
  }

  private static void calendar() {
    FairTurns x = new FairTurns();
    Due.is("one", Due.calendar(x, "005h"), 1);
    Due.is("four", Due.calendar(x, "0p;365n;5e;10h"), 4);
    Due.is("tape", x.told(5), 0);
    int[] days = {5, 0, 365, 5, 10};
    int[] kinds = {0, 3, 2, 1, 0};
    for (int duty = 0; duty < 5; duty++) {
      Due.is("day of " + duty, x.dutyOf(duty, 0), days[duty]);
      Due.is("kind of " + duty, x.dutyOf(duty, 1), kinds[duty]);
      Due.is("open " + duty, x.dutyOf(duty, 2), Due.NOBODY);
    }
  }

  private static void calendarFaults() {
    FairTurns x = new FairTurns();
    String[] texts = {"", "h", "5", "5x", "5h;", "5h;6", "5h;;", "5h,6h", "366h", "400", "5h;999x", "1000h", "0000h", "5hh", "5 h", ";5h", "5H", "-5h"};
    int[] faults = {0, 0, 1, 1, 3, 4, 3, 2, 0, 0, 3, 3, 3, 2, 1, 0, 1, 0};
    for (int i = 0; i < texts.length; i++) {
      Due.is("calendar() of '" + texts[i] + "'", Due.calendar(x, texts[i]), -100 - faults[i]);
      Due.is("tape behind '" + texts[i] + "'", x.told(5), 0);
      Due.is("duties behind '" + texts[i] + "'", x.told(2), 0);
    }
    for (int i = 0; i < 22; i++) x.duty(i, 0);
    Due.is("three for two", Due.calendar(x, "1h;2h;3h"), -106);
    Due.is("three for two, the third wrong", Due.calendar(x, "1h;2h;3x"), -106);
    Due.is("three for two, the second wrong", Due.calendar(x, "1h;2x;3h"), -104);
    Due.is("duties", x.told(2), 22);
    Due.is("two for two", Due.calendar(x, "1h;2h"), 2);
    Due.is("one for none", Due.calendar(x, "1h"), -100);
  }

  private static void dutyOf() {
    FairTurns x = Due.with(3, "9h;3n;9e;3h");
    int[] places = {2, 0, 3, 1};
    for (int duty = 0; duty < 4; duty++) {
      Due.is("place of " + duty, x.dutyOf(duty, 3), places[duty]);
      Due.is("stands(" + places[duty] + ")", x.stands(places[duty]), duty);
    }
    x.hold(1, 2);
    Due.is("holder", x.dutyOf(1, 2), 2);
    Due.feed(x, "kn");
    x.rules(0);
    x.goes(1);
    Due.is("may hold 1", x.dutyOf(1, 4), 1);
    Due.is("may hold 0", x.dutyOf(0, 4), 2);
    Due.is("dutyOf(4, 0)", x.dutyOf(4, 0), Due.NONE);
    Due.is("dutyOf(-1, 0)", x.dutyOf(-1, 0), Due.NONE);
    Due.is("dutyOf(0, 5)", x.dutyOf(0, 5), Due.NONE);
    Due.is("dutyOf(0, -1)", x.dutyOf(0, -1), Due.NONE);
    Due.is("stands(4)", x.stands(4), Due.NONE);
    Due.is("stands(-1)", x.stands(-1), Due.NONE);
  }

  private static void may() {
    FairTurns x = Due.with(2, "5h;6e");
    Due.feed(x, "ke");
    x.rules(0);
    Due.is("may(0, 0)", x.may(0, 0), 1);
    Due.is("may(0, 1)", x.may(0, 1), 0);
    Due.is("may(1, 1)", x.may(1, 1), 1);
    Due.is("may(2, 1)", x.may(2, 1), Due.NONE);
    Due.is("may(-1, 1)", x.may(-1, 1), Due.NONE);
    Due.is("may(0, 2)", x.may(0, 2), Due.NONE);
    Due.is("may(0, -1)", x.may(0, -1), Due.NONE);
    x.goes(1);
    Due.is("may(1, 1), gone", x.may(1, 1), 0);
  }

  private static void dislike() {
    FairTurns x = Due.with(2, "5h;6e");
    Due.is("dislike(1, 0, 9)", x.dislike(1, 0, 9), 0);
    Due.is("dislike(1, 0, 0)", x.dislike(1, 0, 0), 9);
    Due.is("dislike(1, 0, 10)", x.dislike(1, 0, 10), Due.BAD);
    Due.is("dislike(1, 0, -1)", x.dislike(1, 0, -1), Due.BAD);
    Due.is("dislike(2, 0, 10)", x.dislike(2, 0, 10), Due.NONE);
    Due.is("dislike(0, 2, 1)", x.dislike(0, 2, 1), Due.NONE);
    Due.is("dislike(0, 1, 3)", x.dislike(0, 1, 3), 0);
    Due.is("dislike(1, 1, 4)", x.dislike(1, 1, 4), 0);
    Due.is("dislike(0, 1, 3)", x.dislike(0, 1, 3), 3);
  }

  private static void hold() {
    FairTurns x = Due.with(2, "5h;6e");
    Due.feed(x, "ke");
    x.rules(0);
    Due.is("hold(0, 0)", x.hold(0, 0), Due.NOBODY);
    Due.is("hold(0, 1)", x.hold(0, 1), 0);
    Due.is("hold(0, 1)", x.hold(0, 1), 1);
    Due.is("hold(1, 0)", x.hold(1, 0), Due.NOT);
    Due.is("dutyOf(1, 2)", x.dutyOf(1, 2), Due.NOBODY);
    Due.is("hold(2, 0)", x.hold(2, 0), Due.NONE);
    Due.is("hold(0, 2)", x.hold(0, 2), Due.NONE);
    Due.is("hold(-1, 0)", x.hold(-1, 0), Due.NONE);
    Due.is("hold(0, -1)", x.hold(0, -1), Due.NONE);
    x.goes(0);
    Due.is("hold(0, 0), gone", x.hold(0, 0), Due.NOT);
    Due.is("dutyOf(0, 2)", x.dutyOf(0, 2), 1);
  }

  private static void open() {
    FairTurns x = Due.with(2, "5h;6e");
    x.hold(0, 1);
    Due.is("open(0)", x.open(0), 1);
    Due.is("open(0) again", x.open(0), Due.STATE);
    Due.is("open(2)", x.open(2), Due.NONE);
    Due.is("open(-1)", x.open(-1), Due.NONE);
    Due.is("told(3)", x.told(3), 2);
  }
}
