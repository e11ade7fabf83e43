// Promises 33 to 36, and the terms they use: a test of its own for each sentence that names a boundary.
public final class RosterBoundsTest {
  public static void main(String[] args) {
    noDuties();
    oneDuty();
    dayFaults();
    letterFaults();
    holderFaults();
    partFaults();
    endsTooEarly();
    leastFault();
    twentyFourDuties();
    longerThanTheTape();
    faultsDoNothing();
    judgeWhoMayNot();
    judgeMoreOpen();
    judgeLesserAndGreater();
    judgeFirstKind();
    judgeAlike();
    rosterBecomes();
    rosterNot();
    spellNothing();
    spellDays();
    spellTheLongest();
    paperPlaces();
    paperIsTheLatest();
    Due.close("RosterBoundsTest");
  }

  // ---- promises 33 and 34

  private static void noDuties() {
    Due.by("Promises 33, 34: STATE, ahead of any FAULT: there are no DUTIES (THE TAPE is empty by all of these)");
    String[] texts = {"", "x", "5h=0", "-", Due.repeated("x", 'x', 75) + "x"};
    for (String text : texts) {
      FairTurns x = Due.members(2);
      Due.is("judge() of '" + text + "'", Due.judge(x, text), Due.STATE);
      Due.is("told(5) behind judge()", x.told(5), 0);
      Due.is("roster() of '" + text + "'", Due.roster(x, text), Due.STATE);
      Due.is("told(5) behind roster()", x.told(5), 0);
    }
    FairTurns closed = Due.withDuties(1, 1, 0);
    closed.fill(0);
    closed.close();
    Due.is("judge(), a YEAR is CLOSED", Due.judge(closed, "0h=0"), Due.STATE);
    Due.is("roster(), a YEAR is CLOSED", Due.roster(closed, "0h=0"), Due.STATE);
  }

  private static void oneDuty() {
    Due.by("==== 4: A ROSTER: for each DUTY: its DAY and letter, =, and the number of one, or - (OPEN)");
    String letters = "henp";
    for (int kind = 0; kind < 4; kind++) {
      FairTurns x = Due.members(8);
      x.duty(365, kind);
      String day = "365" + letters.charAt(kind);
      Due.is("roster(), OPEN", Due.roster(x, day + "=-"), 0);
      Due.is("roster(), 0", Due.roster(x, day + "=0"), 1);
      Due.is("dutyOf(0, 2)", x.dutyOf(0, 2), 0);
      Due.is("roster(), 7", Due.roster(x, day + "=7"), 1);
      Due.is("dutyOf(0, 2)", x.dutyOf(0, 2), 7);
      Due.is("roster(), OPEN again", Due.roster(x, day + "=-"), 0);
      Due.is("dutyOf(0, 2)", x.dutyOf(0, 2), Due.NOBODY);
    }
  }

  // Stands as 0e, 12n, 365h; 1 has gone, 2 is the last who came.
  private static FairTurns three() {
    FairTurns x = Due.with(3, "365h;0e;12n");
    x.hold(1, 2);
    x.goes(1);
    return x;
  }

  private static void faultAt(String text, int place) {
    FairTurns x = three();
    Due.is("judge() of '" + text + "'", Due.judge(x, text), -100 - place);
    Due.is("told(5) behind judge() of '" + text + "'", x.told(5), 0);
    Due.is("roster() of '" + text + "'", Due.roster(x, text), -100 - place);
    Due.is("told(5) behind roster() of '" + text + "'", x.told(5), 0);
    Due.paperIs(x, "0e=2;12n=-;365h=-");
  }

  private static void holds(String text, int held) {
    FairTurns x = three();
    Due.is("roster() of '" + text + "'", Due.roster(x, text), held);
  }

  private static void dayFaults() {
    Due.by("==== 4: FAULT of a DAY in a ROSTER that isn't the DUTY's, where it begins");
    faultAt("1e=0", 0);
    faultAt("12n=0;0e=0;365h=0", 0);
    faultAt("365e=0", 0);
    faultAt("999e=0", 0);
    faultAt("1", 0);
    faultAt("0e=0;1n=0", 5);
    faultAt("0e=0;1", 5);
    faultAt("0e=0;13n=0", 5);
    faultAt("0e=0;120n=0", 5);
    faultAt("0e=0;12n=0;366h=0", 11);
    faultAt("0e=0;12n=0;36h=0", 11);
    faultAt("0e=0;12n=0;36", 11);
    Due.by("==== 4: A number is as many figures as stand there, 3 at most");
    holds("000e=0;012n=0;365h=0", 3);
    holds("00e=0;12n=0;365h=0", 3);
    faultAt("0000e=0", 3);
    faultAt("0e=0;0012n=0", 5);
    faultAt("0e=0;12n=0;3650h=0", 14);
    faultAt("0e=0;12n=0;0365h=0", 11);
  }

  private static void letterFaults() {
    Due.by("==== 4: FAULT of a letter in a ROSTER that isn't the DUTY's, where it begins");
    faultAt("0h=0", 1);
    faultAt("0n=0", 1);
    faultAt("0p=0", 1);
    faultAt("0x=0", 1);
    faultAt("0E=0", 1);
    faultAt("0=0", 1);
    faultAt("0 e=0", 1);
    faultAt("0e=0;12e=0", 7);
    faultAt("0e=0;12n=0;365n=0", 14);
    faultAt("0ee=0", 2);
  }

  private static void holderFaults() {
    Due.by("==== 4: FAULT of one who isn't HERE, where it begins");
    faultAt("0e=1", 3);
    faultAt("0e=3", 3);
    faultAt("0e=7", 3);
    faultAt("0e=8", 3);
    faultAt("0e=9", 3);
    faultAt("0e=0;12n=1;365h=0", 9);
    faultAt("0e=0;12n=0;365h=1", 16);
    Due.by("==== 4: the number (1 figure) of one, or - (OPEN)");
    faultAt("0e=00", 4);
    faultAt("0e=02", 4);
    faultAt("0e=-0", 4);
    faultAt("0e=--", 4);
    faultAt("0e=x", 3);
    faultAt("0e=+", 3);
    faultAt("0e=;", 3);
    faultAt("0e= 0", 3);
    faultAt("0e=/", 3);
    faultAt("0e=:", 3);
    holds("0e=2;12n=0;365h=2", 3);
    holds("0e=-;12n=-;365h=-", 0);
    FairTurns all = Due.with(8, "5h");
    for (int one = 0; one < 8; one++) Due.is("roster() of " + one, Due.roster(all, "5h=" + one), 1);
    for (int one = 8; one < 10; one++) Due.is("roster() of " + one, Due.roster(all, "5h=" + one), -103);
    FairTurns nobody = Due.with(0, "5h");
    Due.is("roster(), nobody", Due.roster(nobody, "5h=0"), -103);
    Due.is("roster(), nobody, OPEN", Due.roster(nobody, "5h=-"), 0);
    Due.is("judge(), nobody, OPEN", Due.judge(nobody, "5h=-"), Due.NOBODY);
  }

  private static void partFaults() {
    Due.by("==== 4: A ROSTER: parted by ;");
    faultAt("0e=0,12n=0;365h=0", 4);
    faultAt("0e=012n=0;365h=0", 4);
    faultAt("0e=0;;12n=0", 5);
    faultAt(";0e=0", 0);
    faultAt("0e=0; 12n=0", 5);
    faultAt("0e=0 ;12n=0", 4);
    faultAt("0e-0", 2);
    faultAt("0e:0", 2);
    faultAt("0e==0", 3);
    Due.by("==== 4: A ROSTER: for each DUTY that there is, and no more");
    faultAt("0e=0;12n=0;365h=0;", 17);
    faultAt("0e=0;12n=0;365h=0;365h=0", 17);
    faultAt("0e=0;12n=0;365h=0 ", 17);
    faultAt("0e=0;12n=0;365h=-x", 17);
  }

  private static void endsTooEarly() {
    Due.by("==== 4: FAULT: the length, if it ends too early");
    String whole = "0e=0;12n=-;365h=2";
    for (int length = 0; length < whole.length(); length++) {
      // A DAY of which too little stands there isn't the DUTY's.
      int place = length == 6 ? 5 : length == 12 || length == 13 ? 11 : length;
      faultAt(whole.substring(0, length), place);
    }
    holds(whole, 2);
  }

  private static void leastFault() {
    Due.by("==== 4: FAULT (of several the least place)");
    faultAt("1h=9;x", 0);
    faultAt("0h=9;x", 1);
    faultAt("0e=9;x", 3);
    faultAt("0e=0;13x", 5);
    faultAt("0e=0;12x=1", 7);
    faultAt("0e=0;12n=1;366", 9);
    Due.by("Promise 34: -100 less the FAULT, ahead of NOT: some may not be held so");
    FairTurns x = Due.with(2, "5h;6h");
    Due.rules(x, 0, "kh");
    Due.is("roster(), 0 may not, and a fault behind", Due.roster(x, "5h=0;6h=2"), -108);
    Due.is("judge(), 0 may not, and a fault behind", Due.judge(x, "5h=0;6h=2"), -108);
    Due.is("roster(), 0 may not, and more behind", Due.roster(x, "5h=0;6h=1;"), -109);
  }

  private static FairTurns twentyFourEves() {
    FairTurns x = Due.members(8);
    for (int duty = 0; duty < 24; duty++) x.duty(10, 1);
    return x;
  }

  private static void twentyFourDuties() {
    Due.by("==== 4: A ROSTER of 24 DUTIES");
    String all = Due.repeated("10e=7", ';', 24);
    Due.is("bytes", all.length(), 143);
    FairTurns x = twentyFourEves();
    Due.is("judge() of 24", Due.judge(x, all), 301);
    Due.is("roster() of 24", Due.roster(x, all), 24);
    Due.is("of(7, 3)", x.of(7, 3), 24);
    FairTurns y = twentyFourEves();
    Due.is("roster(), the last OPEN", Due.roster(y, Due.repeated("10e=7", ';', 23) + ";10e=-"), 23);
    Due.is("dutyOf(23, 2)", y.dutyOf(23, 2), Due.NOBODY);
    Due.is("judge(), the first OPEN, too", Due.judge(y, "10e=-;" + Due.repeated("10e=7", ';', 22) + ";10e=-"), 101);
  }

  private static void longerThanTheTape() {
    Due.by("==== 4: THE TAPE holds 0 .. 150 bytes: a ROSTER that is longer ends too early");
    FairTurns x = Due.members(1);
    for (int duty = 0; duty < 24; duty++) x.duty(100, 0);
    String all = Due.repeated("100h=0", ';', 24);
    Due.is("judge() of the first 150 bytes", Due.judge(x, all.substring(0, 150)), -250);
    Due.is("roster() of the first 150 bytes", Due.roster(x, all.substring(0, 150)), -250);
    Due.is("told(3)", x.told(3), 24);
    FairTurns fits = Due.members(1);
    for (int duty = 0; duty < 21; duty++) fits.duty(100, 0);
    fits.duty(100, 0);
    String parts = Due.repeated("100h=0", ';', 21);
    Due.is("roster(), one left out", Due.roster(fits, parts), -246);
    Due.is("roster(), one begun", Due.roster(fits, parts + ";100"), -250);
    Due.is("roster(), another begun", Due.roster(fits, parts + ";101"), -247);
    FairTurns full = Due.members(1);
    for (int duty = 0; duty < 20; duty++) full.duty(100, 0);
    full.duty(200, 1);
    full.duty(365, 2);
    Due.is("roster(), the last is told in one byte too few", Due.roster(full, Due.repeated("100h=0", ';', 20) + ";200e=0;36"), -247);
  }

  private static void faultsDoNothing() {
    Due.by("==== 4: A text with a FAULT does nothing");
    FairTurns x = Due.with(3, "5h;6h");
    x.hold(0, 1);
    Due.is("roster(), a fault at its end", Due.roster(x, "5h=2;6h=2;"), -109);
    Due.paperIs(x, "5h=1;6h=-");
    Due.is("roster(), a fault in its last part", Due.roster(x, "5h=-;6h=3"), -108);
    Due.paperIs(x, "5h=1;6h=-");
  }

  // ---- promise 33: what is judged

  private static void judgeWhoMayNot() {
    Due.by("==== 4: JUDGED: of the DUTIES as they stand the first with one who may not hold it: its number");
    FairTurns x = Due.members(2);
    for (int day = 23; day >= 0; day--) x.duty(day, 0);
    Due.rules(x, 0, "d0-0;d23-23");
    StringBuilder text = new StringBuilder();
    for (int day = 0; day < 24; day++) text.append(day == 0 ? "" : ";").append(day).append("h=").append(day == 0 ? 1 : 0);
    Due.is("judge(), the last that stands is duty 0", Due.judge(x, text.toString()), 0);
    text.setCharAt(3, '0');
    Due.is("judge(), the first that stands is duty 23", Due.judge(x, text.toString()), 23);
    Due.is("told(3)", x.told(3), 24);
    Due.by("==== 4: JUDGED: if there is none: 100 and ... (one who may not goes ahead of it)");
    FairTurns y = Due.with(2, "5h;6h");
    y.hold(0, 1);
    Due.rules(y, 0, "d6-6");
    Due.is("judge(), 0 may not, and 5h is left OPEN", Due.judge(y, "5h=-;6h=0"), 1);
    Due.is("judge(), 5h is left OPEN", Due.judge(y, "5h=-;6h=-"), 100);
  }

  private static void judgeMoreOpen() {
    Due.by("==== 4: JUDGED: 100 and the first KIND in which it leaves more OPEN than now");
    FairTurns x = Due.with(2, "1h;2e;3n;4p");
    for (int duty = 0; duty < 4; duty++) x.hold(duty, 0);
    Due.is("all OPEN", Due.judge(x, "1h=-;2e=-;3n=-;4p=-"), 100);
    Due.is("from EVE on", Due.judge(x, "1h=0;2e=-;3n=-;4p=-"), 101);
    Due.is("from NIGHT on", Due.judge(x, "1h=0;2e=0;3n=-;4p=-"), 102);
    Due.is("PLAIN alone", Due.judge(x, "1h=0;2e=0;3n=0;4p=-"), 103);
    FairTurns y = Due.with(2, "1h;2h;3e");
    y.hold(0, 0);
    y.hold(2, 0);
    Due.is("as many OPEN, another one", Due.judge(y, "1h=-;2h=0;3e=0"), Due.NOBODY);
    Due.is("fewer OPEN of one KIND, more of another", Due.judge(y, "1h=0;2h=1;3e=-"), 101);
    Due.is("fewer OPEN", Due.judge(y, "1h=0;2h=1;3e=0"), 300);
    Due.is("more OPEN goes ahead of a greater VECTOR", Due.judge(y, "1h=0;2h=0;3e=-"), 101);
  }

  private static void judgeLesserAndGreater() {
    Due.by("==== 4: JUDGED: 200 and the first KIND whose VECTOR by it is lesser than now, or 300 and it, if it is greater");
    String letters = "henp";
    for (int kind = 0; kind < 4; kind++) {
      char letter = letters.charAt(kind);
      FairTurns x = Due.withDuties(8, 2, kind);
      x.hold(0, 0);
      x.hold(1, 0);
      Due.is("2 0 to 1 1", Due.judge(x, "0" + letter + "=0;1" + letter + "=7"), 200 + kind);
      x.hold(1, 7);
      Due.is("1 1 to 2 0", Due.judge(x, "0" + letter + "=7;1" + letter + "=7"), 300 + kind);
      Due.is("1 1 to 1 1", Due.judge(x, "0" + letter + "=6;1" + letter + "=5"), Due.NOBODY);
    }
    Due.by("==== 4: JUDGED: at the first place, from the greatest on, at which they aren't alike");
    // PAST 9 5 0: what 1 takes shows at the second place, what 2 takes at the third.
    FairTurns x = Due.with(3, "1n;2n");
    x.past(0, 2, 9);
    x.past(1, 2, 5);
    x.hold(0, 1);
    Due.is("9 6 0 to 9 5 1", Due.judge(x, "1n=2;2n=-"), 202);
    Due.is("9 6 0 to 9 6 1", Due.judge(x, "1n=1;2n=2"), 302);
    Due.is("9 6 0 to 10 5 0", Due.judge(x, "1n=0;2n=-"), 302);
    Due.is("9 6 0 to 9 5 2", Due.judge(x, "1n=2;2n=2"), 202);
    Due.is("9 6 0 to 10 6 0", Due.judge(x, "1n=1;2n=0"), 302);
    FairTurns last = Due.withDuties(8, 1, 3);
    for (int one = 0; one < 7; one++) last.past(one, 3, 2);
    Due.is("at the last place of eight", Due.judge(last, "0p=7"), 303);
  }

  private static void judgeFirstKind() {
    Due.by("==== 4: JUDGED: of the first KIND in which they aren't alike");
    FairTurns x = Due.with(2, "1h;2h;3e;4e;5n;6n;7p;8p");
    for (int duty = 0; duty < 8; duty++) x.hold(duty, duty < 4 ? 0 : duty % 2);
    Due.is("lesser, lesser, greater, greater", Due.judge(x, "1h=0;2h=1;3e=0;4e=1;5n=0;6n=0;7p=1;8p=1"), 200);
    Due.is("alike, lesser, greater, greater", Due.judge(x, "1h=1;2h=1;3e=0;4e=1;5n=0;6n=0;7p=1;8p=1"), 201);
    Due.is("alike, alike, greater, greater", Due.judge(x, "1h=1;2h=1;3e=1;4e=1;5n=0;6n=0;7p=1;8p=1"), 302);
    Due.is("alike, alike, alike, greater", Due.judge(x, "1h=1;2h=1;3e=1;4e=1;5n=1;6n=0;7p=1;8p=1"), 303);
    x.hold(0, 1);
    Due.is("greater, lesser", Due.judge(x, "1h=0;2h=0;3e=0;4e=1;5n=1;6n=0;7p=1;8p=0"), 300);
    Due.is("greater, alike, alike, lesser", Due.judge(x, "1h=0;2h=0;3e=0;4e=0;5n=1;6n=0;7p=1;8p=0"), 300);
  }

  private static void judgeAlike() {
    Due.by("==== 4: JUDGED: -5: all are alike");
    FairTurns x = Due.with(3, "1h;2e");
    Due.is("all OPEN, and so now", Due.judge(x, "1h=-;2e=-"), Due.NOBODY);
    x.hold(0, 0);
    x.hold(1, 1);
    Due.is("as now", Due.judge(x, "1h=0;2e=1"), Due.NOBODY);
    Due.is("held by others, VECTORS alike", Due.judge(x, "1h=2;2e=0"), Due.NOBODY);
    Due.is("told(5)", x.told(5), 0);
    FairTurns fewer = Due.with(4, "1h;2h");
    for (int one = 0; one < 4; one++) fewer.past(one, 0, 9 - one);
    Due.is("9 8 7 6 to 9 8 7 7", Due.judge(fewer, "1h=3;2h=-"), 300);
    fewer.goes(3);
    fewer.hold(0, 0);
    Due.is("10 8 7, the fourth has gone", Due.judge(fewer, "1h=-;2h=0"), Due.NOBODY);
    for (int one = 0; one < 3; one++) fewer.goes(one);
    Due.is("alike of nobody HERE", Due.judge(fewer, "1h=-;2h=-"), Due.NOBODY);
    Due.by("Promise 33: what is asked changes nothing");
    Due.paperIs(x, "1h=0;2e=1");
    FairTurns guest = new FairTurns();
    guest.comes(0);
    guest.comes(3);
    guest.duty(1, 0);
    guest.hold(0, 0);
    Due.is("HEAD is LOAD: 2 1 to 3 0", Due.judge(guest, "1h=1"), 300);
  }

  // ---- promise 34

  private static void rosterBecomes() {
    Due.by("Promise 34: THE TAPE is a ROSTER, and becomes so: how many are HELD");
    FairTurns x = Due.with(3, "5h;4h;6e");
    for (int duty = 0; duty < 3; duty++) x.hold(duty, 0);
    Due.is("all OPEN", Due.roster(x, "4h=-;5h=-;6e=-"), 0);
    Due.is("told(3)", x.told(3), 3);
    Due.is("one HELD", Due.roster(x, "4h=-;5h=-;6e=2"), 1);
    Due.is("all HELD", Due.roster(x, "4h=1;5h=0;6e=2"), 3);
    Due.paperIs(x, "4h=1;5h=0;6e=2");
    Due.is("told(5)", x.told(5), 0);
    Due.is("as it is", Due.roster(x, "4h=1;5h=0;6e=2"), 3);
    Due.paperIs(x, "4h=1;5h=0;6e=2");
  }

  private static void rosterNot() {
    Due.by("Promise 34: NOT: some may not be held so (THE TAPE is empty)");
    for (int wrong = 0; wrong < 3; wrong++) {
      FairTurns x = Due.with(3, "5h;6h;7h");
      Due.rules(x, 2, "d" + (5 + wrong) + "-" + (5 + wrong));
      for (int duty = 0; duty < 3; duty++) x.hold(duty, 1);
      Due.is("roster(), duty " + wrong + " may not", Due.roster(x, "5h=2;6h=2;7h=2"), Due.NOT);
      Due.is("told(5)", x.told(5), 0);
      Due.paperIs(x, "5h=1;6h=1;7h=1");
      x.frees(2);
      Due.is("roster(), all may", Due.roster(x, "5h=2;6h=2;7h=2"), 3);
    }
  }

  // ---- promises 35 and 36

  private static void spellNothing() {
    Due.by("==== 4: SPELLED: nothing, if there are no DUTIES; THE PAPER: nothing at first");
    FairTurns x = Due.members(1);
    Due.is("told(6) at first", x.told(6), 0);
    Due.is("paper(0) at first", x.paper(0), Due.NONE);
    Due.is("spell(), no DUTIES", x.spell(), 0);
    Due.is("paper(0)", x.paper(0), Due.NONE);
    x.hold(x.duty(5, 0), 0);
    Due.is("spell()", x.spell(), 4);
    x.close();
    Due.is("told(6), a YEAR is CLOSED", x.told(6), 4);
    Due.is("spell(), no DUTIES are left", x.spell(), 0);
    Due.is("told(6)", x.told(6), 0);
    Due.is("paper(0)", x.paper(0), Due.NONE);
  }

  private static void spellDays() {
    Due.by("==== 4: SPELLED: as a ROSTER");
    FairTurns x = Due.members(8);
    int[] days = {0, 9, 10, 11, 99, 100, 101, 200, 365};
    for (int i = 0; i < days.length; i++) x.duty(days[i], i % 4);
    for (int one = 0; one < 8; one++) x.hold(one, one);
    Due.paperIs(x, "0h=0;9e=1;10n=2;11p=3;99h=4;100e=5;101n=6;200p=7;365h=-");
    String spelled = Due.paper(x);
    Due.is("roster() of what was SPELLED", Due.roster(x, spelled), 8);
    Due.is("judge() of what was SPELLED", Due.judge(x, spelled), Due.NOBODY);
    for (int first = 0; first <= 365; first += 20) spellFrom(first);
  }

  private static void spellFrom(int first) {
    FairTurns x = new FairTurns();
    StringBuilder text = new StringBuilder();
    for (int day = first; day < first + 20 && day <= 365; day++) {
      x.duty(day, 2);
      text.append(day == first ? "" : ";").append(day).append("n=-");
    }
    Due.paperIs(x, text.toString());
  }

  private static void spellTheLongest() {
    Due.by("Promise 35: THE PAPER becomes the ROSTER SPELLED: how many bytes");
    FairTurns x = Due.members(8);
    for (int duty = 0; duty < 24; duty++) x.duty(365, 3);
    x.fill(3);
    Due.is("spell() of 24 of three figures", x.spell(), 167);
    Due.is("told(6)", x.told(6), 167);
    Due.is("paper(0)", x.paper(0), '3');
    Due.is("paper(166)", x.paper(166), '7');
    Due.is("paper(167)", x.paper(167), Due.NONE);
    Due.paperIs(x, Due.repeated("365p=0;365p=1;365p=2;365p=3;365p=4;365p=5;365p=6;365p=7", ';', 3));
  }

  private static void paperPlaces() {
    Due.by("Promise 36: NONE");
    FairTurns x = Due.with(1, "5h");
    for (int i : Due.outside(0, 0)) Due.is("paper(" + i + ") ahead of spell()", x.paper(i), Due.NONE);
    Due.is("spell()", x.spell(), 4);
    String text = "5h=-";
    for (int i = 0; i < 4; i++) Due.is("paper(" + i + ")", x.paper(i), text.charAt(i));
    for (int i : Due.outside(0, 3)) Due.is("paper(" + i + ")", x.paper(i), Due.NONE);
  }

  private static void paperIsTheLatest() {
    Due.by("==== 4: THE PAPER holds the latest one");
    FairTurns x = Due.with(1, "5h;365e");
    Due.is("spell() of two", x.spell(), 11);
    x.hold(0, 0);
    Due.is("paper(3) stays", x.paper(3), '-');
    Due.is("told(6) stays", x.told(6), 11);
    x.fill(1);
    x.close();
    x.duty(7, 3);
    Due.is("spell() of one", x.spell(), 4);
    Due.is("paper(0)", x.paper(0), '7');
    Due.is("paper(4), nothing of the longer one", x.paper(4), Due.NONE);
    Due.is("paper(10), nothing of the longer one", x.paper(10), Due.NONE);
  }
}
