import java.util.Arrays;

// The document read from its first line to its last, each sentence with calls that hold to it; what it says of the
// public face is in FaceTest.
public final class DocumentTest {
  public static void main(String[] args) throws Exception {
    Document d = new Document(args.length > 1 ? args[1] : "../shared/DOC.md");
    whatItIs(d);
    howLong(d);
    d.tells("## The public face");
    d.tells("## Terms");
    DocumentPeople.read(d);
    DocumentSharing.read(d);
    DocumentYears.read(d);
    DocumentTexts.read(d);
    DocumentPromises.read(d);
    d.tells("## Not promised How the state is held inside the object is free, as are the speed of each call, the text of toString and"
        + " the behaviour of equals and hashCode. Use of one object from several threads at once is not promised to be safe."
        + " Nothing is promised beyond the answers and state changes described above, and nothing about an object after its 512th call.");
    d.end();
    Due.close("DocumentTest");
  }

  private static void whatItIs(Document d) {
    d.tells("# FairTurns ## What it is");
    d.says("A roster by fair turns: duties of days, holidays first, shared among people over years so that no one bears more than must be;");
    overYears();
    for (int seed = 1; seed <= 80; seed++) noneBearsMoreThanMustBe(seed);
    d.says("who may by rules told as texts;");
    FairTurns x = Due.with(2, "1h;2e");
    Due.is("rules(0) of kh", Due.rules(x, 0, "kh"), 1);
    Due.is("may(0, 0), a HOLIDAY", x.may(0, 0), 0);
    Due.is("may(0, 1), an EVE", x.may(0, 1), 1);
    d.says("layers filled one duty after the other along shifting paths to whom bears least;");
    layers();
    d.says("loads as vectors, the greatest first, whether they can be made lesser, and how;");
    for (int seed = 1; seed <= 80; seed++) lesserAsOftenAsItCanBe(seed);
    d.says("duties that are disliked, rings in which each hands one on and nobody bears more;");
    for (int seed = 1; seed <= 40; seed++) nobodyBearsMoreByRings(seed);
    d.says("joiners who start neutral, people who go;");
    FairTurns y = Due.members(2);
    y.past(0, 0, 7);
    y.past(1, 0, 4);
    Due.is("comes(0)", y.comes(0), 2);
    Due.is("of(2, 10)", y.of(2, 10), 5);
    Due.is("goes(0)", y.goes(0), 2);
    d.says("years closed and audited;");
    y.hold(y.duty(1, 0), 2);
    Due.is("close()", y.close(), 1);
    Due.is("audit(0, 0): 6 less 4", y.audit(0, 0), 2);
    d.says("who is next;");
    Due.is("next(0, 0)", y.next(0, 0), 1);
    d.says("rosters told and judged, spelled;");
    y.duty(8, 0);
    Due.is("judge() of more that are HELD", Due.judge(y, "8h=1"), 300);
    Due.is("roster()", Due.roster(y, "8h=1"), 1);
    Due.paperIs(y, "8h=1");
    d.says("an image.");
    Due.is("image()", y.image(), 3);
    y.open(0);
    Due.is("undo()", y.undo(), 3);
    Due.is("dutyOf(0, 2)", y.dutyOf(0, 2), 1);
  }

  // Three holidays a year for two: by turns one bears one more, and behind two years they are alike.
  private static void overYears() {
    FairTurns x = Due.with(2, "1h;2h;3h");
    Due.is("fill(-1), the first year", x.fill(-1), 3);
    Due.is("of(0, 30)", x.of(0, 30), 2);
    Due.is("of(1, 30)", x.of(1, 30), 1);
    Due.is("close()", x.close(), 1);
    Due.calendar(x, "1h;2h;3h");
    Due.is("fill(-1), the second year", x.fill(-1), 3);
    Due.is("of(0, 30)", x.of(0, 30), 3);
    Due.is("of(1, 30)", x.of(1, 30), 3);
    Due.is("close()", x.close(), 2);
    Due.is("audit(0, 0)", x.audit(0, 0), 0);
  }

  private static void noneBearsMoreThanMustBe(int seed) {
    Small s = new Small(seed);
    s.x.fill(0);
    for (int duty = 0; duty < Small.DUTIES; duty++) {
      Due.is("duty " + duty + " of " + seed + " is OPEN", s.x.dutyOf(duty, 2) < 0 ? 1 : 0, s.x.dutyOf(duty, 4) == 0 ? 1 : 0);
    }
    Due.is("lesser(0, 0) of " + seed, s.x.lesser(0, 0), 0);
    s.vectorIs("fill(0) of " + seed, s.least());
  }

  private static void layers() {
    FairTurns x = Due.with(2, "1h;2h");
    Due.rules(x, 1, "d2-2");
    Due.is("fill(0): 0 takes one, and hands it on to 1 for the other", x.fill(0), 2);
    Due.paperIs(x, "1h=1;2h=0");
    Due.is("load(0, 0)", x.load(0, 0), 1);
  }

  // All that can be held are held anyhow; LESSER must be told as long as there is a lesser VECTOR, and no longer.
  private static void lesserAsOftenAsItCanBe(int seed) {
    Small s = new Small(seed);
    s.holdAnyhow(seed);
    int[] least = s.least();
    boolean canBe = !Arrays.equals(s.vector(), least);
    Due.is("lesser(0, 0) of " + seed, s.x.lesser(0, 0), canBe ? 1 : 0);
    if (canBe) {
      int from = s.x.lesser(0, 1);
      int to = s.x.lesser(0, 2);
      Due.holds("FROM bears 2 more than TO, of " + seed, s.x.of(from, 30) >= s.x.of(to, 30) + 2);
    }
    Due.holds("eases(0) of " + seed, s.x.eases(0) > 0 == canBe);
    s.vectorIs("eases(0) of " + seed, least);
  }

  private static void nobodyBearsMoreByRings(int seed) {
    Small s = new Small(seed);
    s.holdAnyhow(seed);
    int[] loads = new int[Small.PEOPLE];
    for (int one = 0; one < Small.PEOPLE; one++) {
      loads[one] = s.x.of(one, 30);
      for (int duty = 0; duty < Small.DUTIES; duty++) s.x.dislike(one, duty, s.upTo(10));
    }
    int gain = s.x.ring(0);
    int disliked = s.x.disliked();
    Due.is("turn(1) of " + seed, s.x.turn(1), gain < 0 ? 0 : 1);
    Due.is("disliked() of " + seed, s.x.disliked(), disliked - Math.max(gain, 0));
    for (int one = 0; one < Small.PEOPLE; one++) Due.is("LOAD of " + one + " of " + seed, s.x.of(one, 30), loads[one]);
  }

  private static void howLong(Document d) {
    d.says("An object is used for at most 512 calls after it has been made;");
    FairTurns x = new FairTurns();
    x.comes(0);
    x.duty(5, 0);
    for (int call = 3; call <= 512; call++) {
      if (call % 2 == 1) Due.is("hold(0, 0), call " + call, x.hold(0, 0), Due.NOBODY);
      else Due.is("open(0), call " + call, x.open(0), 0);
    }
    FairTurns y = new FairTurns();
    Due.is("another object has nobody", y.told(0), 0);
    d.tells("what later calls answer is free.");
  }

  // Few enough that all ways to share them out can be tried: six holidays, four people with PAST and RULES.
  private static final class Small {
    static final int PEOPLE = 4, DUTIES = 6;
    final FairTurns x = Due.members(PEOPLE);
    private long state;

    Small(int seed) {
      state = 7919L * seed;
      for (int duty = 0; duty < DUTIES; duty++) x.duty(upTo(10), 0);
      for (int one = 0; one < PEOPLE; one++) {
        x.past(one, 0, upTo(4));
        int from = upTo(10);
        if (upTo(4) > 0) Due.rules(x, one, "d" + from + "-" + Math.min(365, from + upTo(6)));
        if (upTo(4) == 0) Due.rules(x, one, "r2:" + upTo(2));
      }
    }

    int upTo(int bound) {
      state = state * 6364136223846793005L + 1442695040888963407L;
      return (int) ((state >>> 33) % bound);
    }

    void holdAnyhow(int seed) {
      for (int duty = 0; duty < DUTIES; duty++) {
        int first = seed % 3 == 0 ? 0 : upTo(PEOPLE);
        for (int step = 0; step < PEOPLE && x.dutyOf(duty, 2) < 0; step++) x.hold(duty, (first + step) % PEOPLE);
      }
    }

    int[] vector() {
      int[] loads = new int[PEOPLE];
      for (int i = 0; i < PEOPLE; i++) loads[i] = x.load(0, i);
      return loads;
    }

    void vectorIs(String call, int[] want) {
      Due.holds("VECTOR " + Arrays.toString(vector()) + " behind " + call + ", the least is " + Arrays.toString(want), Arrays.equals(vector(), want));
    }

    int[] least() {
      int[] loads = new int[PEOPLE];
      boolean[][] may = new boolean[PEOPLE][DUTIES];
      for (int one = 0; one < PEOPLE; one++) {
        loads[one] = x.of(one, 10);
        for (int duty = 0; duty < DUTIES; duty++) may[one][duty] = x.may(one, duty) == 1;
      }
      return leastFrom(0, loads, may);
    }

    private static int[] leastFrom(int duty, int[] loads, boolean[][] may) {
      if (duty == DUTIES) return falling(loads);
      int[] least = null;
      for (int one = 0; one < PEOPLE; one++) {
        if (!may[one][duty]) continue;
        loads[one]++;
        int[] found = leastFrom(duty + 1, loads, may);
        if (least == null || Arrays.compare(found, least) < 0) least = found;
        loads[one]--;
      }
      // Nobody may: it stays open.
      return least == null ? leastFrom(duty + 1, loads, may) : least;
    }

    private static int[] falling(int[] loads) {
      int[] row = loads.clone();
      Arrays.sort(row);
      for (int i = 0; i < PEOPLE / 2; i++) {
        int low = row[i];
        row[i] = row[PEOPLE - 1 - i];
        row[PEOPLE - 1 - i] = low;
      }
      return row;
    }
  }
}
