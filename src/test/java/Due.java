// What the project's tests share: calls are told with what is due, wrong ones are printed and counted.
final class Due {
  static final int NONE = -1, BAD = -2, STATE = -3, FULL = -4, NOBODY = -5, NOT = -7;
  static final int NOTHING = -11, BEYOND = -13, BELOW = -14;

  private static int wrong = 0;
  private static int asked = 0;

  private Due() {}

  static void is(String call, long got, long want) {
    asked++;
    if (got == want) return;
    wrong++;
    if (wrong <= 50) System.out.println(call + " answered " + got + ", due is " + want);
  }

  static void feed(FairTurns x, String text) {
    for (int i = 0; i < text.length(); i++) x.feed(text.charAt(i));
  }

  static String paper(FairTurns x) {
    StringBuilder text = new StringBuilder();
    int size = x.spell();
    for (int i = 0; i < size; i++) text.append((char) x.paper(i));
    return text.toString();
  }

  static void paperIs(FairTurns x, String want) {
    String got = paper(x);
    is("spell() of " + got + ", due is " + want + ": ", got.equals(want) ? 1 : 0, 1);
  }

  static FairTurns members(int count) {
    FairTurns x = new FairTurns();
    for (int one = 0; one < count; one++) x.comes(0);
    return x;
  }

  // A new object with members and a calendar.
  static FairTurns with(int members, String calendar) {
    FairTurns x = members(members);
    feed(x, calendar);
    if (x.calendar() < 0) is("calendar() of " + calendar, -1, 0);
    return x;
  }

  static void close(String test) {
    System.out.println(test + ": " + asked + " calls asked, " + wrong + " wrong");
    if (wrong != 0) System.exit(1);
  }
}
