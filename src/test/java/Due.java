// What the project's tests share: calls are told with what is due, wrong ones are printed and counted.
final class Due {
  static final int NONE = -1, BAD = -2, STATE = -3, FULL = -4, NOBODY = -5, NOT = -7;
  static final int NOTHING = -11, BEYOND = -13, BELOW = -14;
  static final int LEAST = Integer.MIN_VALUE, MOST = Integer.MAX_VALUE;
  static final long NO_PLACE = Long.MIN_VALUE;

  private static int wrong = 0;
  private static int asked = 0;
  private static int sentences = 0;
  private static String sentence = "";

  private Due() {}

  static int asked() {
    return asked;
  }

  static void holds(String what, boolean so) {
    is(what, so ? 1 : 0, 1);
  }

  // The words of the document that the calls behind this one hold to.
  static void by(String words) {
    sentence = "   (" + words + ")";
    sentences++;
  }

  static void is(String call, long got, long want) {
    asked++;
    if (got == want) return;
    wrong++;
    if (wrong <= 50) System.out.println(call + " answered " + got + ", due is " + want + sentence);
  }

  static void feed(FairTurns x, String text) {
    for (int i = 0; i < text.length(); i++) x.feed(text.charAt(i));
  }

  // THE TAPE holds this text alone.
  static void tape(FairTurns x, String text) {
    x.clear();
    feed(x, text);
    if (x.told(5) != text.length()) is("bytes of " + text, x.told(5), text.length());
  }

  static int rules(FairTurns x, int one, String text) {
    tape(x, text);
    return x.rules(one);
  }

  static int calendar(FairTurns x, String text) {
    tape(x, text);
    return x.calendar();
  }

  static int pick(FairTurns x, String text) {
    tape(x, text);
    return x.pick();
  }

  static int openAll(FairTurns x, String text) {
    tape(x, text);
    return x.openAll();
  }

  static int judge(FairTurns x, String text) {
    tape(x, text);
    return x.judge();
  }

  static int roster(FairTurns x, String text) {
    tape(x, text);
    return x.roster();
  }

  static String paper(FairTurns x) {
    StringBuilder text = new StringBuilder();
    int size = x.spell();
    for (int i = 0; i < size; i++) text.append((char) x.paper(i));
    return text.toString();
  }

  static void paperIs(FairTurns x, String want) {
    String got = paper(x);
    is("spell() of " + got + ", due is " + want + ": ", got.equals(want) ? 1 : 0, 1);
  }

  static FairTurns members(int count) {
    FairTurns x = new FairTurns();
    for (int one = 0; one < count; one++) x.comes(0);
    return x;
  }

  // A new object with members and a calendar.
  static FairTurns with(int members, String calendar) {
    FairTurns x = members(members);
    feed(x, calendar);
    if (x.calendar() < 0) is("calendar() of " + calendar, -1, 0);
    return x;
  }

  // A new object with members and as many duties of a kind, on the days 0, 1, 2 and so on.
  static FairTurns withDuties(int members, int duties, int kind) {
    FairTurns x = members(members);
    for (int day = 0; day < duties; day++) x.duty(day, kind);
    return x;
  }

  // The nearest numbers and the farthest that a range from first to last leaves out.
  static int[] outside(int first, int last) {
    return new int[] {LEAST, first - 1, last + 1, MOST};
  }

  // The same part so many times, parted by a sign.
  static String repeated(String part, char sign, int times) {
    StringBuilder text = new StringBuilder();
    for (int i = 0; i < times; i++) {
      if (i > 0) text.append(sign);
      text.append(part);
    }
    return text.toString();
  }

  static void close(String test) {
    String by = sentences == 0 ? "" : ", by " + sentences + " sentences of the document";
    System.out.println(test + ": " + asked + " calls asked" + by + ", " + wrong + " wrong");
    if (wrong != 0) System.exit(1);
  }
}
