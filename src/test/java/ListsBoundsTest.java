// Promises 37 to 43, and the terms they use: a test of its own for each sentence that names a boundary.
public final class ListsBoundsTest {
  public static void main(String[] args) {
    toldAtItsEnds();
    toldDays();
    toldOfKinds();
    toldRefused();
    fourLists();
    thirtyPlaces();
    listAnew();
    listRefused();
    setPlaces();
    setRefused();
    getNowhere();
    layAll();
    layPlaces();
    layNone();
    layRefused();
    imageOfNobody();
    imageOfAll();
    imageOfPeople();
    imageOfDuties();
    imageOfTheYear();
    imageIsTheLatest();
    whatStaysByUndo();
    Due.close("ListsBoundsTest");
  }

  // ---- promise 37

  private static void toldAtItsEnds() {
    Due.by("Promise 37: 0 PEOPLE, 1 of them HERE, 2 DUTIES, 3 OPEN ones");
    FairTurns x = Due.withDuties(8, 24, 2);
    int[] full = {8, 8, 24, 24};
    for (int what = 0; what < 4; what++) Due.is("told(" + what + "), all there", x.told(what), full[what]);
    x.fill(2);
    Due.is("told(3), all HELD", x.told(3), 0);
    for (int one = 0; one < 8; one++) x.goes(one);
    int[] gone = {8, 0, 24, 24};
    for (int what = 0; what < 4; what++) Due.is("told(" + what + "), all gone", x.told(what), gone[what]);
    Due.by("Promise 37: 5 bytes of THE TAPE, 6 of THE PAPER");
    for (int i = 0; i < 150; i++) x.feed('x');
    Due.is("told(5), a full one", x.told(5), 150);
    Due.is("told(6), ahead of spell()", x.told(6), 0);
    x.spell();
    Due.is("told(6)", x.told(6), 10 * 4 + 14 * 5 + 23);
  }

  private static void toldDays() {
    Due.by("Promise 37: 7 unlike DAYS of DUTIES, 8 the first DAY, 9 the last one (-1: no DUTIES)");
    FairTurns none = Due.members(3);
    int[] wants = {0, -1, -1};
    for (int what = 7; what < 10; what++) Due.is("told(" + what + "), no DUTIES", none.told(what), wants[what - 7]);
    daysAre(Due.with(0, "0h"), 1, 0, 0);
    daysAre(Due.with(0, "365h"), 1, 365, 365);
    daysAre(Due.with(0, "365h;0p"), 2, 0, 365);
    daysAre(Due.with(0, "7h;7e;7n;7h"), 1, 7, 7);
    daysAre(Due.with(0, "9h;3h;9e;3e;4h"), 3, 3, 9);
    daysAre(Due.withDuties(0, 24, 0), 24, 0, 23);
    FairTurns same = new FairTurns();
    for (int duty = 0; duty < 24; duty++) same.duty(100, duty % 4);
    daysAre(same, 1, 100, 100);
  }

  private static void daysAre(FairTurns x, int unlike, int first, int last) {
    Due.is("told(7)", x.told(7), unlike);
    Due.is("told(8)", x.told(8), first);
    Due.is("told(9)", x.told(9), last);
  }

  private static void toldOfKinds() {
    Due.by("Promise 37: 10 and k DUTIES of KIND k, 20 and k OPEN ones of it");
    for (int kind = 0; kind < 4; kind++) {
      FairTurns x = Due.withDuties(1, 24, kind);
      for (int each = 0; each < 4; each++) {
        Due.is("told(" + (10 + each) + ")", x.told(10 + each), each == kind ? 24 : 0);
        Due.is("told(" + (20 + each) + ")", x.told(20 + each), each == kind ? 24 : 0);
      }
      x.fill(kind);
      Due.is("told(" + (10 + kind) + "), all HELD", x.told(10 + kind), 24);
      Due.is("told(" + (20 + kind) + "), all HELD", x.told(20 + kind), 0);
      x.open(23);
      Due.is("told(" + (20 + kind) + "), one OPEN", x.told(20 + kind), 1);
    }
  }

  private static void toldRefused() {
    Due.by("Promise 37: NONE");
    FairTurns x = Due.withDuties(8, 24, 0);
    int[] none = {Due.LEAST, -10, -1, 14, 15, 19, 24, 25, 30, Due.MOST};
    for (int what : none) Due.is("told(" + what + ")", x.told(what), Due.NONE);
  }

  // ---- promise 38

  private static void fourLists() {
    Due.by("==== 4: LISTS 0 .. 3 hold nothing (at first)");
    FairTurns x = new FairTurns();
    for (int list = 0; list < 4; list++) {
      Due.is("set(" + list + ", 0, 1)", x.set(list, 0, 1), Due.NOTHING);
      Due.is("lay(" + list + ", 0)", x.lay(list, 0), Due.NOTHING);
      Due.is("get(" + list + ", 0)", x.get(list, 0), Due.NO_PLACE);
    }
    for (int list = 0; list < 4; list++) Due.is("list(" + list + ", 1)", x.list(list, 1), 1);
    for (int list = 0; list < 4; list++) x.set(list, 0, 70 + list);
    for (int list = 0; list < 4; list++) Due.is("get(" + list + ", 0)", x.get(list, 0), 70 + list);
  }

  private static void thirtyPlaces() {
    Due.by("==== 4: a row of 0 .. 30 ints");
    for (int list = 0; list < 4; list++) {
      FairTurns x = new FairTurns();
      Due.is("list(" + list + ", 0)", x.list(list, 0), 1);
      Due.is("get(" + list + ", 0) of 0", x.get(list, 0), Due.NO_PLACE);
      Due.is("set(" + list + ", 0, 1) of 0", x.set(list, 0, 1), Due.BEYOND);
      Due.is("list(" + list + ", 1)", x.list(list, 1), 1);
      Due.is("get(" + list + ", 0) of 1", x.get(list, 0), 0);
      Due.is("get(" + list + ", 1) of 1", x.get(list, 1), Due.NO_PLACE);
      Due.is("list(" + list + ", 30)", x.list(list, 30), 1);
      for (int i = 0; i < 30; i++) Due.is("get(" + list + ", " + i + ") of 30", x.get(list, i), 0);
      Due.is("get(" + list + ", 30) of 30", x.get(list, 30), Due.NO_PLACE);
    }
  }

  private static void listAnew() {
    Due.by("Promise 38: A LIST becomes a row of n ints, all 0");
    FairTurns x = new FairTurns();
    for (int list = 0; list < 4; list++) {
      x.list(list, 30);
      for (int i = 0; i < 30; i++) x.set(list, i, 5);
    }
    Due.is("list(1, 30)", x.list(1, 30), 1);
    Due.is("list(2, 10)", x.list(2, 10), 1);
    Due.is("list(2, 30), longer again", x.list(2, 30), 1);
    for (int i = 0; i < 30; i++) {
      Due.is("get(0, " + i + "), another", x.get(0, i), 5);
      Due.is("get(1, " + i + ")", x.get(1, i), 0);
      Due.is("get(2, " + i + ")", x.get(2, i), 0);
      Due.is("get(3, " + i + "), another", x.get(3, i), 5);
    }
  }

  private static void listRefused() {
    Due.by("Promise 38: NONE: list; BAD: n above 30; BELOW, the first that a call's words name");
    FairTurns x = new FairTurns();
    x.list(0, 2);
    x.set(0, 1, 9);
    int[] sizes = {0, 30, 31, -1, Due.MOST, Due.LEAST};
    for (int list : Due.outside(0, 3)) {
      for (int n : sizes) Due.is("list(" + list + ", " + n + ")", x.list(list, n), Due.NONE);
    }
    for (int list = 0; list < 4; list++) {
      Due.is("list(" + list + ", 31)", x.list(list, 31), Due.BAD);
      Due.is("list(" + list + ", most)", x.list(list, Due.MOST), Due.BAD);
      Due.is("list(" + list + ", -1)", x.list(list, -1), Due.BELOW);
      Due.is("list(" + list + ", least)", x.list(list, Due.LEAST), Due.BELOW);
    }
    Due.is("get(0, 1) stays", x.get(0, 1), 9);
    Due.is("get(0, 2) stays", x.get(0, 2), Due.NO_PLACE);
    for (int list = 1; list < 4; list++) Due.is("set(" + list + ", 0, 1), nothing still", x.set(list, 0, 1), Due.NOTHING);
  }

  // ---- promises 39 and 40

  private static void setPlaces() {
    Due.by("Promise 39: Place i of a LIST becomes v: 1");
    FairTurns x = new FairTurns();
    int[] values = {Due.LEAST, -1, 0, 1, Due.MOST};
    x.list(3, 30);
    for (int v : values) {
      Due.is("set(3, 0, " + v + ")", x.set(3, 0, v), 1);
      Due.is("get(3, 0)", x.get(3, 0), v);
      Due.is("set(3, 29, " + v + ")", x.set(3, 29, v), 1);
      Due.is("get(3, 29)", x.get(3, 29), v);
    }
    for (int i = 1; i < 29; i++) Due.is("get(3, " + i + ")", x.get(3, i), 0);
    x.list(2, 30);
    Due.is("get(2, 29), another LIST", x.get(2, 29), 0);
  }

  private static void setRefused() {
    Due.by("Promise 39: NONE; NOTHING; BEYOND, the first that a call's words name");
    FairTurns x = new FairTurns();
    x.list(1, 5);
    for (int list : Due.outside(0, 3)) {
      Due.is("set(" + list + ", 0, 1)", x.set(list, 0, 1), Due.NONE);
      Due.is("set(" + list + ", 30, 1)", x.set(list, 30, 1), Due.NONE);
    }
    int[] places = {Due.LEAST, -1, 0, 29, 30, Due.MOST};
    for (int i : places) Due.is("set(0, " + i + ", 1)", x.set(0, i, 1), Due.NOTHING);
    for (int i : Due.outside(0, 4)) Due.is("set(1, " + i + ", 1)", x.set(1, i, 1), Due.BEYOND);
    for (int i = 0; i < 5; i++) Due.is("get(1, " + i + ")", x.get(1, i), 0);
    x.list(1, 30);
    for (int i : Due.outside(0, 29)) Due.is("set(1, " + i + ", 1) of 30", x.set(1, i, 1), Due.BEYOND);
    x.list(1, 0);
    for (int i : places) Due.is("set(1, " + i + ", 1) of an empty LIST", x.set(1, i, 1), Due.BEYOND);
  }

  private static void getNowhere() {
    Due.by("Promise 40: The least long: no such LIST, nothing there, no such place");
    FairTurns x = new FairTurns();
    x.list(1, 5);
    for (int list : Due.outside(0, 3)) Due.is("get(" + list + ", 0)", x.get(list, 0), Due.NO_PLACE);
    for (int i : Due.outside(0, 4)) {
      Due.is("get(0, " + i + "), nothing", x.get(0, i), Due.NO_PLACE);
      Due.is("get(1, " + i + ")", x.get(1, i), Due.NO_PLACE);
    }
    Due.is("get(0, 0), nothing", x.get(0, 0), Due.NO_PLACE);
    Due.is("get(1, 4)", x.get(1, 4), 0);
    x.set(1, 4, Due.LEAST);
    Due.is("get(1, 4), the least int is another", x.get(1, 4), Due.LEAST);
    x.list(1, 0);
    Due.is("get(1, 0) of an empty LIST", x.get(1, 0), Due.NO_PLACE);
  }

  // ---- promise 41

  private static void layAll() {
    Due.by("==== 4: LAID into a LIST from a place on: holders of DUTIES as they stand (-1: OPEN)");
    FairTurns x = Due.members(8);
    for (int day = 23; day >= 0; day--) x.duty(day, 0);
    x.fill(0);
    x.open(0);
    x.list(0, 30);
    for (int i = 0; i < 30; i++) x.set(0, i, 77);
    Due.is("lay(0, 6) of 24 into 30", x.lay(0, 6), 24);
    for (int i = 0; i < 6; i++) Due.is("get(0, " + i + ") stays", x.get(0, i), 77);
    for (int i = 0; i < 23; i++) Due.is("get(0, " + (6 + i) + ")", x.get(0, 6 + i), i % 8);
    Due.is("get(0, 29), OPEN", x.get(0, 29), -1);
    x.list(1, 24);
    Due.is("lay(1, 0) of 24 into 24", x.lay(1, 0), 24);
    Due.is("get(1, 0)", x.get(1, 0), 0);
    Due.is("get(1, 23)", x.get(1, 23), -1);
  }

  private static void layPlaces() {
    Due.by("Promise 41: BEYOND: not all were (those that had a place are there all the same)");
    FairTurns x = Due.withDuties(8, 24, 0);
    x.fill(0);
    x.list(0, 30);
    Due.is("lay(0, 7) of 24 into 30", x.lay(0, 7), Due.BEYOND);
    for (int i = 0; i < 30; i++) Due.is("get(0, " + i + ")", x.get(0, i), i < 7 ? 0 : (i - 7) % 8);
    x.list(0, 23);
    Due.is("lay(0, 0) of 24 into 23", x.lay(0, 0), Due.BEYOND);
    Due.is("get(0, 22)", x.get(0, 22), 6);
    Due.is("get(0, 23)", x.get(0, 23), Due.NO_PLACE);
    x.list(0, 30);
    x.open(0);
    Due.is("lay(0, 29)", x.lay(0, 29), Due.BEYOND);
    Due.is("get(0, 28)", x.get(0, 28), 0);
    Due.is("get(0, 29), OPEN", x.get(0, 29), -1);
    x.list(1, 1);
    Due.is("lay(1, 0) of 24 into 1", x.lay(1, 0), Due.BEYOND);
    Due.is("get(1, 0), OPEN", x.get(1, 0), -1);
    Due.is("lay(1, 1)", x.lay(1, 1), Due.BEYOND);
    Due.by("Promise 41: none, if i is below 0");
    x.list(2, 30);
    int[] below = {-1, -2, -23, -24, -30, Due.LEAST};
    for (int i : below) Due.is("lay(2, " + i + ")", x.lay(2, i), Due.BEYOND);
    for (int i = 0; i < 30; i++) Due.is("get(2, " + i + ")", x.get(2, i), 0);
    int[] behind = {30, 31, Due.MOST - 23, Due.MOST};
    for (int i : behind) Due.is("lay(2, " + i + ")", x.lay(2, i), Due.BEYOND);
    for (int i = 0; i < 30; i++) Due.is("get(2, " + i + ")", x.get(2, i), 0);
    x.list(3, 0);
    int[] empty = {-1, 0, 1};
    for (int i : empty) Due.is("lay(3, " + i + ") into an empty LIST", x.lay(3, i), Due.BEYOND);
  }

  private static void layNone() {
    Due.by("Promise 41: how many (no DUTIES: none was left out)");
    FairTurns x = Due.members(8);
    x.list(0, 30);
    x.set(0, 0, 5);
    x.list(1, 0);
    int[] places = {0, 29, 30, -1, Due.MOST, Due.LEAST};
    for (int i : places) {
      Due.is("lay(0, " + i + "), no DUTIES", x.lay(0, i), 0);
      Due.is("lay(1, " + i + ") into an empty LIST, no DUTIES", x.lay(1, i), 0);
    }
    Due.is("get(0, 0) stays", x.get(0, 0), 5);
  }

  private static void layRefused() {
    Due.by("Promise 41: NONE; NOTHING; BEYOND, the first that a call's words name");
    FairTurns x = Due.withDuties(1, 2, 0);
    x.list(0, 1);
    int[] places = {-1, 0, 30, Due.MOST, Due.LEAST};
    for (int i : places) {
      for (int list : Due.outside(0, 3)) Due.is("lay(" + list + ", " + i + ")", x.lay(list, i), Due.NONE);
      for (int list = 1; list < 4; list++) Due.is("lay(" + list + ", " + i + ")", x.lay(list, i), Due.NOTHING);
    }
    FairTurns none = new FairTurns();
    Due.is("lay(4, 0), no DUTIES", none.lay(4, 0), Due.NONE);
    Due.is("lay(3, 0), no DUTIES", none.lay(3, 0), Due.NOTHING);
  }

  // ---- promises 42 and 43

  private static void imageOfNobody() {
    Due.by("Promise 43: STATE: there is none");
    FairTurns x = Due.members(8);
    Due.is("undo()", x.undo(), Due.STATE);
    Due.is("told(0) stays", x.told(0), 8);
    Due.by("Promise 42: THE IMAGE is taken: how many PEOPLE");
    FairTurns y = new FairTurns();
    Due.is("image() of nobody", y.image(), 0);
    y.comes(3);
    y.duty(5, 1);
    y.fill(1);
    y.close();
    Due.is("undo() to nobody", y.undo(), 0);
    Due.is("told(0)", y.told(0), 0);
    Due.is("told(4)", y.told(4), 0);
    Due.is("comes, again the first", y.comes(0), 0);
    Due.is("of(0, 0)", y.of(0, 0), 0);
    Due.is("of(0, 11)", y.of(0, 11), 0);
    Due.is("undo() once more", y.undo(), 0);
    Due.is("told(0)", y.told(0), 0);
  }

  private static void imageOfAll() {
    Due.by("Promise 43: All is as THE IMAGE: 8 PEOPLE, 24 DUTIES, 8 RULES");
    FairTurns x = Due.withDuties(8, 24, 3);
    Due.rules(x, 7, "d1-1;d2-2;d3-3;d4-4;d5-5;d6-6;d7-7;d8-8");
    x.dislike(7, 23, 9);
    x.past(7, 3, 999);
    x.hold(23, 7);
    x.goes(0);
    Due.is("image() of eight, one gone", x.image(), 8);
    x.frees(7);
    x.dislike(7, 23, 0);
    x.past(7, 3, 0);
    x.fill(3);
    x.close();
    for (int one = 1; one < 8; one++) x.goes(one);
    Due.is("undo()", x.undo(), 8);
    Due.is("told(1)", x.told(1), 7);
    Due.is("told(2)", x.told(2), 24);
    Due.is("told(3)", x.told(3), 23);
    Due.is("of(0, 1)", x.of(0, 1), 0);
    Due.is("of(7, 1)", x.of(7, 1), 1);
    Due.is("of(7, 4)", x.of(7, 4), 8);
    for (int duty = 0; duty < 24; duty++) Due.is("may(7, " + duty + ")", x.may(7, duty), duty < 1 || duty > 8 ? 1 : 0);
    Due.is("of(7, 13)", x.of(7, 13), 999);
    Due.is("dutyOf(23, 2)", x.dutyOf(23, 2), 7);
    Due.is("dislike(7, 23, 9)", x.dislike(7, 23, 9), 9);
    Due.is("comes", x.comes(0), Due.FULL);
    Due.is("duty", x.duty(0, 0), Due.FULL);
  }

  private static void imageOfPeople() {
    Due.by("==== 4: THE IMAGE: PEOPLE with RANKS, PAST, RULES");
    FairTurns x = Due.members(1);
    x.past(0, 0, 4);
    x.image();
    Due.is("comes(3)", x.comes(3), 1);
    x.past(1, 0, 50);
    x.past(0, 0, 5);
    x.undo();
    Due.is("of(1, 0), undone", x.of(1, 0), Due.NONE);
    Due.is("of(0, 10)", x.of(0, 10), 4);
    Due.is("comes(2)", x.comes(2), 1);
    Due.is("of(1, 0)", x.of(1, 0), 2);
    Due.is("of(1, 10), NEUTRAL", x.of(1, 10), 4);
    x.image();
    x.goes(1);
    x.goes(0);
    Due.is("told(1)", x.told(1), 0);
    x.undo();
    Due.is("told(1)", x.told(1), 2);
    Due.is("of(1, 0)", x.of(1, 0), 2);
  }

  private static void imageOfDuties() {
    Due.by("==== 4: THE IMAGE: DUTIES with holders, DISLIKES");
    FairTurns x = Due.with(3, "9h;3e;6n");
    x.hold(0, 2);
    x.hold(2, 1);
    x.dislike(0, 1, 3);
    x.image();
    x.open(0);
    x.hold(1, 0);
    x.hold(2, 0);
    x.duty(0, 3);
    x.dislike(0, 1, 8);
    x.dislike(2, 0, 1);
    x.undo();
    Due.paperIs(x, "3e=-;6n=1;9h=2");
    Due.is("told(2)", x.told(2), 3);
    Due.is("stands(0)", x.stands(0), 1);
    Due.is("dislike(0, 1, 3)", x.dislike(0, 1, 3), 3);
    Due.is("dislike(2, 0, 0)", x.dislike(2, 0, 0), 0);
    Due.is("duty, the undone one's number", x.duty(365, 0), 3);
    Due.is("dislike(0, 3, 0)", x.dislike(0, 3, 0), 0);
    // A DISLIKE for a duty that was undone is undone with it.
    x.dislike(0, 3, 9);
    x.undo();
    x.duty(365, 0);
    Due.is("dislike(0, 3, 0) of another", x.dislike(0, 3, 0), 0);
  }

  private static void imageOfTheYear() {
    Due.by("==== 4: THE IMAGE: YEAR");
    FairTurns x = Due.with(1, "9h");
    x.fill(0);
    x.image();
    Due.is("close()", x.close(), 1);
    Due.is("close()", x.close(), 2);
    x.undo();
    Due.is("told(4)", x.told(4), 0);
    Due.is("of(0, 10)", x.of(0, 10), 0);
    Due.is("dutyOf(0, 2)", x.dutyOf(0, 2), 0);
    Due.is("close()", x.close(), 1);
    x.image();
    x.close();
    x.undo();
    Due.is("told(4) of the later", x.told(4), 1);
    Due.is("of(0, 10) of the later", x.of(0, 10), 1);
  }

  private static void imageIsTheLatest() {
    Due.by("Promise 43: All is as THE IMAGE (the latest; as often as it is asked for)");
    FairTurns x = Due.members(1);
    Due.is("image()", x.image(), 1);
    x.comes(0);
    Due.is("image(), the later", x.image(), 2);
    x.comes(0);
    for (int times = 0; times < 3; times++) {
      Due.is("undo()", x.undo(), 2);
      Due.is("told(0)", x.told(0), 2);
      x.comes(0);
      x.past(0, 0, 7);
    }
    Due.is("undo()", x.undo(), 2);
    Due.is("of(0, 10)", x.of(0, 10), 0);
  }

  private static void whatStaysByUndo() {
    Due.by("==== 4: THE IMAGE (THE TAPE, THE PAPER, LISTS stay by undo())");
    FairTurns x = Due.with(1, "9h");
    x.list(0, 3);
    x.set(0, 2, 4);
    x.list(3, 1);
    Due.feed(x, "ke");
    x.spell();
    x.image();
    Due.is("told(5) behind image()", x.told(5), 2);
    Due.is("told(6) behind image()", x.told(6), 4);
    x.feed(';');
    Due.feed(x, "kh");
    x.hold(0, 0);
    x.duty(100, 1);
    x.spell();
    x.list(0, 30);
    x.set(0, 29, 6);
    x.list(3, 0);
    x.list(1, 2);
    Due.is("undo()", x.undo(), 1);
    Due.is("told(5)", x.told(5), 5);
    Due.is("told(6)", x.told(6), 11);
    Due.is("paper(3)", x.paper(3), '0');
    Due.is("paper(10)", x.paper(10), '-');
    Due.is("get(0, 29)", x.get(0, 29), 6);
    Due.is("get(3, 0)", x.get(3, 0), Due.NO_PLACE);
    Due.is("get(1, 1)", x.get(1, 1), 0);
    Due.is("rules(0) of THE TAPE that stayed", x.rules(0), 2);
    Due.is("may(0, 0)", x.may(0, 0), 0);
  }
}
