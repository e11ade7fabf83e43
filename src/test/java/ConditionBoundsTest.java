// Promises 29 to 32, and the terms they use: a test of its own for each sentence that names a boundary.
public final class ConditionBoundsTest {
  private static final String[] WORDS = {"day", "kind", "who", "held", "dislike", "week"};

  public static void main(String[] args) {
    bytes();
    tapeIsFull();
    clear();
    days();
    kinds();
    who();
    held();
    dislikes();
    weeks();
    numbers();
    numberFaults();
    wordFaults();
    signFaults();
    eitherAndBoth();
    notAndBrackets();
    fourDeep();
    tooDeep();
    bracketFaults();
    endsTooEarly();
    aFullTape();
    pickBits();
    pickNothing();
    openAll();
    openAllByWhatIsAhead();
    openAllFaults();
    Due.close("ConditionBoundsTest");
  }

  // ---- promises 29 and 30

  private static void bytes() {
    Due.by("Promise 29: A byte (1 .. 127); BAD");
    FairTurns x = new FairTurns();
    Due.is("feed(1)", x.feed(1), 1);
    Due.is("feed(127)", x.feed(127), 2);
    for (int letter : Due.outside(1, 127)) Due.is("feed(" + letter + ")", x.feed(letter), Due.BAD);
    Due.is("told(5)", x.told(5), 2);
    FairTurns all = new FairTurns();
    for (int letter = 1; letter <= 127; letter++) Due.is("feed(" + letter + ")", all.feed(letter), letter);
  }

  private static void tapeIsFull() {
    Due.by("==== 4: THE TAPE holds 0 .. 150 bytes");
    FairTurns x = new FairTurns();
    Due.is("told(5) at first", x.told(5), 0);
    for (int i = 1; i <= 150; i++) Due.is("feed, byte " + i, x.feed('x'), i);
    Due.by("Promise 29: FULL");
    Due.is("feed(1), the 151st", x.feed(1), Due.FULL);
    Due.is("feed(127), the 151st", x.feed(127), Due.FULL);
    Due.is("told(5)", x.told(5), 150);
    Due.by("Promise 29: BAD; FULL, the first that a call's words name");
    for (int letter : Due.outside(1, 127)) Due.is("feed(" + letter + "), the 151st", x.feed(letter), Due.BAD);
    Due.is("told(5)", x.told(5), 150);
  }

  private static void clear() {
    Due.by("Promise 30: THE TAPE is empty then: how many bytes it had");
    FairTurns x = new FairTurns();
    Due.is("clear() of none", x.clear(), 0);
    x.feed('5');
    Due.is("clear() of one", x.clear(), 1);
    for (int i = 0; i < 150; i++) x.feed('5');
    Due.is("clear() of 150", x.clear(), 150);
    Due.is("told(5)", x.told(5), 0);
    Due.is("clear() again", x.clear(), 0);
    Due.is("feed behind it", x.feed('7'), 1);
    x.feed('h');
    Due.is("calendar(), nothing is left of what was there", x.calendar(), 1);
    Due.is("dutyOf(0, 0)", x.dutyOf(0, 0), 7);
  }

  // ---- promise 31: what the words are

  private static void picks(FairTurns x, String text, int want) {
    Due.is("pick() of '" + text + "'", Due.pick(x, text), want);
    Due.is("told(5) behind '" + text + "'", x.told(5), 0);
  }

  private static void days() {
    Due.by("==== 4: WORDS: day; <, = or >");
    FairTurns x = Due.with(0, "0h;1h;364h;365h");
    picks(x, "day=0", 1);
    picks(x, "day<0", 0);
    picks(x, "day>0", 14);
    picks(x, "day<1", 1);
    picks(x, "day=365", 8);
    picks(x, "day>365", 0);
    picks(x, "day>364", 8);
    picks(x, "day<365", 7);
    picks(x, "day<366", 15);
    picks(x, "day=366", 0);
  }

  private static void kinds() {
    Due.by("==== 4: WORDS: kind");
    FairTurns x = Due.with(0, "5h;5e;5n;5p");
    for (int kind = 0; kind < 4; kind++) {
      picks(x, "kind=" + kind, 1 << kind);
      picks(x, "kind<" + kind, (1 << kind) - 1);
      picks(x, "kind>" + kind, 15 - (2 << kind) + 1);
    }
    picks(x, "kind=4", 0);
    picks(x, "kind>3", 0);
  }

  private static void who() {
    Due.by("==== 4: WORDS: who (10: OPEN)");
    FairTurns x = Due.with(8, "5h;5h;5h");
    x.hold(0, 0);
    x.hold(1, 7);
    picks(x, "who=0", 1);
    picks(x, "who=7", 2);
    picks(x, "who=10", 4);
    picks(x, "who>7", 4);
    picks(x, "who>9", 4);
    picks(x, "who>10", 0);
    picks(x, "who<10", 3);
    picks(x, "who<1", 1);
    picks(x, "who=8|who=9|who=11|who=5", 0);
  }

  private static void held() {
    Due.by("==== 4: WORDS: held (1, 0)");
    FairTurns x = Due.with(1, "5h;5h");
    x.hold(1, 0);
    picks(x, "held=1", 2);
    picks(x, "held=0", 1);
    picks(x, "held>0", 2);
    picks(x, "held<1", 1);
    picks(x, "held>1", 0);
    picks(x, "held<0", 0);
    picks(x, "held=2", 0);
  }

  private static void dislikes() {
    Due.by("==== 4: WORDS: dislike (of its holder for it; 0: OPEN)");
    FairTurns x = Due.with(2, "5h;5h;5h;5h");
    for (int duty = 0; duty < 4; duty++) {
      x.dislike(0, duty, 9);
      x.dislike(1, duty, duty);
    }
    x.hold(0, 0);
    x.hold(1, 1);
    x.hold(3, 1);
    picks(x, "dislike=9", 1);
    picks(x, "dislike>9", 0);
    picks(x, "dislike=1", 2);
    picks(x, "dislike=3", 8);
    picks(x, "dislike=0", 4);
    picks(x, "dislike<0", 0);
    picks(x, "dislike>0", 11);
    picks(x, "dislike=10", 0);
  }

  private static void weeks() {
    Due.by("==== 4: WORDS: week (DAY over 7, cut)");
    FairTurns x = Due.with(0, "0h;6h;7h;13h;14h;363h;364h;365h");
    picks(x, "week=0", 3);
    picks(x, "week=1", 12);
    picks(x, "week=2", 16);
    picks(x, "week=51", 32);
    picks(x, "week=52", 192);
    picks(x, "week>52", 0);
    picks(x, "week<1", 3);
  }

  private static void numbers() {
    Due.by("==== 4: A number is as many figures as stand there, 3 at most");
    FairTurns x = Due.with(0, "0h;9h;10h;99h;100h;365h");
    picks(x, "day=000", 1);
    picks(x, "day=009", 2);
    picks(x, "day=09", 2);
    picks(x, "day=010", 4);
    picks(x, "day=99", 8);
    picks(x, "day=100", 16);
    picks(x, "day<999", 63);
    picks(x, "day>999", 0);
    picks(x, "day=999", 0);
    for (String word : WORDS) picks(x, word + ">999", 0);
  }

  // ---- promise 31: faults

  private static void faultAt(String text, int place) {
    FairTurns x = Due.with(1, "5h;6e");
    x.hold(0, 0);
    Due.is("pick() of '" + text + "'", Due.pick(x, text), -100 - place);
    Due.is("told(5) behind '" + text + "'", x.told(5), 0);
    Due.is("dutyOf(0, 2) behind '" + text + "'", x.dutyOf(0, 2), 0);
  }

  private static void numberFaults() {
    Due.by("==== 4: FAULT: the first byte with which no such text goes on: a fourth figure, no figure");
    faultAt("day=0000", 7);
    faultAt("day=9999", 7);
    faultAt("day=1234&xx=1", 7);
    faultAt("day=", 4);
    faultAt("day=x", 4);
    faultAt("day=-1", 4);
    faultAt("day= 5", 4);
    faultAt("day=&", 4);
    faultAt("day=5x", 5);
    faultAt("day=5 ", 5);
    faultAt("day=5=5", 5);
    faultAt("day=5;", 5);
  }

  private static void wordFaults() {
    Due.by("==== 4: FAULT of a WORD that is none, where it begins");
    for (String word : WORDS) {
      faultAt(word + "s=1", 0);
      faultAt("x" + word + "=1", 0);
      faultAt(word + word + "=1", 0);
      faultAt(word.substring(1) + "=1", 0);
      faultAt(word.substring(0, word.length() - 1) + "=1", 0);
      faultAt(word.substring(0, word.length() - 1) + "z=1", 0);
      faultAt("day=5&(" + word.charAt(0) + "=1)", 7);
    }
    faultAt("a", 0);
    faultAt("zzz=1", 0);
    faultAt("wordwordword", 0);
    Due.by("==== 4: FAULT of a WORD that is none (an empty one, too)");
    String[] empty = {"", "=5", "<5", ">5", "5", "5=5", "&", "|", ")", "DAY=5", " day=5", "`day=5", "{day=5", "-"};
    for (String text : empty) faultAt(text, 0);
    faultAt("day=5&=5", 6);
    faultAt("day=5|5", 6);
    faultAt("!=5", 1);
    faultAt("(=5)", 1);
    Due.by("==== 4: as many of a .. z as stand there");
    faultAt("dayDay=5", 3);
    faultAt("day`=5", 3);
    faultAt("day{=5", 3);
    faultAt("day =5", 3);
    faultAt("dayday=5", 0);
  }

  private static void signFaults() {
    Due.by("==== 4: a WORD, < or = or >, a number");
    for (String word : WORDS) faultAt(word, word.length());
    faultAt("day5", 3);
    faultAt("day!5", 3);
    faultAt("day:5", 3);
    faultAt("day;5", 3);
    faultAt("day?5", 3);
    faultAt("day==5", 4);
    faultAt("day<=5", 4);
    faultAt("day>=5", 4);
    faultAt("day<>5", 4);
  }

  private static void eitherAndBoth() {
    Due.by("==== 4: E: T or E|T. T: F or T&F");
    FairTurns x = Due.with(0, "1h;2e;3n;4p");
    picks(x, "day=1|day=2", 3);
    picks(x, "day=1|day=2|day=4", 11);
    picks(x, "day>1&day<4", 6);
    picks(x, "day>1&day<4&kind=2", 4);
    picks(x, "day=1|day>1&day<3", 3);
    picks(x, "day>1&day<3|day=1", 3);
    picks(x, "day=1&day=2|day=3&day=4", 0);
    picks(x, "day=1&day=1|day=3&day=3", 5);
    faultAt("day=5|", 6);
    faultAt("day=5&", 6);
    faultAt("day=5||day=6", 6);
    faultAt("day=5&&day=6", 6);
    faultAt("day=5&|day=6", 6);
    faultAt("|day=5", 0);
    faultAt("&day=5", 0);
  }

  private static void notAndBrackets() {
    Due.by("==== 4: F: !F, (E)");
    FairTurns x = Due.with(0, "1h;2e;3n;4p");
    picks(x, "!day=1", 14);
    picks(x, "!day=1&day<3", 2);
    picks(x, "!(day=1|day=2)", 12);
    picks(x, "!day=1|day=1", 15);
    picks(x, "(day=1|day=2)&kind=1", 2);
    picks(x, "day=1|day=2&kind=0", 1);
    picks(x, "kind=1&(day=1|day=2)", 2);
    picks(x, "(day=1)", 1);
    picks(x, "!!day=1", 1);
    picks(x, "!!!day=1", 14);
  }

  private static void fourDeep() {
    Due.by("==== 4: A ( or ! within 4 others is none: within 3 it is one");
    FairTurns x = Due.with(0, "1h;2e");
    picks(x, "((((day=1))))", 1);
    picks(x, "!!!!day=1", 1);
    picks(x, "!(!(day=1))", 1);
    picks(x, "(!(!day=1))", 1);
    picks(x, "!!((day=1))", 1);
    picks(x, "((!!day=1))", 1);
    picks(x, "(!!!day=1)", 2);
    picks(x, "!(((day=1)))", 2);
    picks(x, "((((day=1))))|((((day=2))))", 3);
    picks(x, "!!!!day=1|!!!!day=2", 3);
    picks(x, "(((!day=1|!day=1)))&(((!day=5)))", 2);
    picks(x, "(((day=1|(day=2))))", 3);
    picks(x, "(day=1)|(day=1)|(day=1)|(day=1)|(day=1)|(day=2)", 3);
    picks(x, "!day=1&!day=3&!day=3&!day=3&!day=3&!day=4", 2);
  }

  private static void tooDeep() {
    Due.by("==== 4: A ( or ! within 4 others is none");
    faultAt("(((((day=1)))))", 4);
    faultAt("!!!!!day=1", 4);
    faultAt("((((!day=1))))", 4);
    faultAt("!!!!(day=1)", 4);
    faultAt("!(!(!day=1))", 4);
    faultAt("(!(!(day=1)))", 4);
    faultAt("((((day=1&!day=1))))", 10);
    faultAt("((((day=1|(day=1)))))", 10);
    faultAt("((((day=1))))&(((((day=1)))))", 18);
    faultAt("!!!!day=1|!!!!!day=1", 14);
    faultAt("(((((", 4);
    faultAt("!!!!!", 4);
    faultAt("((((", 4);
    faultAt("!!!!", 4);
  }

  private static void bracketFaults() {
    Due.by("==== 4: FAULT: brackets that end nowhere or begin nowhere");
    faultAt("(", 1);
    faultAt("()", 1);
    faultAt("(day=5", 6);
    faultAt("(day=5;", 6);
    faultAt("((day=5)", 8);
    faultAt("(day=5))", 7);
    faultAt("day=5)", 5);
    faultAt("day=5(", 5);
    faultAt("day=5!", 5);
    faultAt("day=5day=5", 5);
    faultAt("(day=5)(day=5)", 7);
    faultAt("(day=5)day=5", 7);
    faultAt("!", 1);
    faultAt("!)", 1);
  }

  private static void endsTooEarly() {
    Due.by("==== 4: FAULT: the length, if it ends too early");
    String text = "!(day=5|who=10)&kind";
    int whole = "!(day=5|who=10)".length();
    for (int length = 0; length <= text.length(); length++) {
      if (length != whole) faultAt(text.substring(0, length), placeOf(text.substring(0, length)));
    }
    picks(Due.with(0, "5h;6e"), text.substring(0, whole), 0);
  }

  // A WORD of which too little stands there is none: where it begins; else the length.
  private static int placeOf(String cut) {
    int begin = cut.length();
    while (begin > 0 && cut.charAt(begin - 1) >= 'a' && cut.charAt(begin - 1) <= 'z') begin--;
    String word = cut.substring(begin);
    for (String each : WORDS) if (each.equals(word)) return cut.length();
    return begin;
  }

  private static void aFullTape() {
    Due.by("==== 4: THE TAPE holds 0 .. 150 bytes: a CONDITION of 150");
    FairTurns x = Due.with(1, "5h;6e");
    String many = Due.repeated("day=6", '|', 25);
    Due.is("bytes of 25 parts", many.length(), 149);
    picks(x, many, 2);
    picks(x, many.substring(0, 144) + "day=05", 3);
    faultAt(many + "|", 150);
    faultAt(many + "&", 150);
    faultAt(many + "x", 149);
    faultAt(many.substring(0, 144) + "da", 144);
    faultAt(many.substring(0, 144) + "day", 147);
    faultAt(many.substring(0, 144) + "day=", 148);
    faultAt(many.substring(0, 144) + "kind=x", 149);
    faultAt(many.substring(0, 144) + "dislik", 144);
    faultAt(many.substring(0, 138) + "who=1|dislik", 144);
    faultAt(many.substring(0, 138) + "held=dislike", 143);
    faultAt(many.substring(0, 138) + "held=1&!week", 150);
    faultAt(Due.repeated("d", 'd', 75) + "d", 0);
    faultAt("!" + Due.repeated("d", 'd', 75), 1);
    faultAt(Due.repeated("!", '!', 75) + "!", 4);
    faultAt(Due.repeated("(", '(', 75) + "(", 4);
    faultAt("day=" + Due.repeated("1", '1', 73) + "1", 7);
    picks(x, Due.repeated("day=6", '&', 25), 2);
  }

  private static void pickBits() {
    Due.by("Promise 31: DUTIES (bits) of which it is so");
    FairTurns x = Due.withDuties(1, 24, 0);
    picks(x, "held=0", (1 << 24) - 1);
    picks(x, "held=1", 0);
    picks(x, "day=0", 1);
    picks(x, "day=23", 1 << 23);
    picks(x, "day>22", 1 << 23);
    picks(x, "day<1|day>22", 1 << 23 | 1);
    FairTurns falling = Due.with(0, "9h;8h;7h");
    picks(falling, "day=9", 1);
    picks(falling, "day=7", 4);
  }

  private static void pickNothing() {
    Due.by("Promise 31: no DUTIES");
    picks(new FairTurns(), "day=5", 0);
    picks(new FairTurns(), "!day=5", 0);
    picks(new FairTurns(), "held=0|held=1", 0);
    Due.by("Promise 31: -100 less the FAULT, though there are no DUTIES");
    picks(new FairTurns(), "", -100);
    picks(new FairTurns(), "day=5&", -106);
    picks(new FairTurns(), "days=5", -100);
    FairTurns none = new FairTurns();
    Due.is("pick() of a new object", none.pick(), -100);
    Due.is("openAll() of a new object", none.openAll(), -100);
  }

  // ---- promise 32

  private static void openAll() {
    Due.by("Promise 32: DUTIES of which it is so become OPEN: how many were HELD");
    FairTurns x = Due.withDuties(8, 24, 3);
    Due.is("openAll(), none HELD", Due.openAll(x, "day<366"), 0);
    x.fill(3);
    Due.is("openAll(), of none it is so", Due.openAll(x, "day>23"), 0);
    Due.is("told(3)", x.told(3), 0);
    Due.is("openAll(), the first and the last", Due.openAll(x, "day=0|day=23"), 2);
    Due.is("told(3)", x.told(3), 2);
    Due.is("dutyOf(0, 2)", x.dutyOf(0, 2), Due.NOBODY);
    Due.is("dutyOf(23, 2)", x.dutyOf(23, 2), Due.NOBODY);
    Due.is("dutyOf(22, 2)", x.dutyOf(22, 2), 6);
    Due.is("openAll(), all, two are OPEN", Due.openAll(x, "held<2"), 22);
    Due.is("told(3)", x.told(3), 24);
    Due.is("told(5)", x.told(5), 0);
    Due.is("openAll(), no DUTIES", Due.openAll(Due.members(2), "held=0"), 0);
  }

  private static void openAllByWhatIsAhead() {
    Due.by("Promise 32: of which it is so (by what is ahead of it)");
    FairTurns x = Due.with(2, "5h;6h;7h");
    for (int duty = 0; duty < 3; duty++) x.hold(duty, duty % 2);
    Due.is("openAll() of what is HELD", Due.openAll(x, "held=1"), 3);
    for (int duty = 0; duty < 3; duty++) x.hold(duty, duty % 2);
    Due.is("openAll() of what is HELD by 0", Due.openAll(x, "who=0"), 2);
    Due.paperIs(x, "5h=-;6h=1;7h=-");
  }

  private static void openAllFaults() {
    Due.by("Promise 32: -100 less the FAULT; a text with a FAULT does nothing");
    String[] texts = {"", "held=1|", "held=1&days=1", "held=1)", "held=1111", "!!!!!held=1"};
    int[] faults = {0, 7, 7, 6, 8, 4};
    for (int i = 0; i < texts.length; i++) {
      FairTurns x = Due.withDuties(8, 24, 3);
      x.fill(3);
      Due.is("openAll() of '" + texts[i] + "'", Due.openAll(x, texts[i]), -100 - faults[i]);
      Due.is("told(3) behind '" + texts[i] + "'", x.told(3), 0);
      Due.is("told(5) behind '" + texts[i] + "'", x.told(5), 0);
    }
  }
}
