// Promises 24 to 28: years closed, audits, who is next, close duties and the heaviest burden.
public final class YearsTest {
  public static void main(String[] args) {
    close();
    audit();
    next();
    near();
    heaviest();
    Due.close("YearsTest");
  }

  private static void close() {
    FairTurns x = Due.with(2, "1h;2h;3n;4p");
    x.past(0, 0, 998);
    x.past(1, 3, 5);
    x.hold(0, 0);
    x.hold(1, 0);
    x.hold(2, 1);
    x.dislike(0, 0, 7);
    Due.is("close(), one open", x.close(), Due.STATE);
    Due.is("told(2)", x.told(2), 4);
    Due.is("told(4)", x.told(4), 0);
    x.hold(3, 1);
    Due.feed(x, "ke");
    x.rules(0);
    Due.is("close()", x.close(), 1);
    Due.is("past at most 999", x.of(0, 10), 999);
    Due.is("past nights", x.of(1, 12), 1);
    Due.is("past plain", x.of(1, 13), 6);
    Due.is("past plain of 0", x.of(0, 13), 0);
    Due.is("told(2)", x.told(2), 0);
    Due.is("told(4)", x.told(4), 1);
    Due.is("rules stay", x.of(0, 4), 1);
    Due.is("held", x.of(0, 3), 0);
    Due.is("load", x.of(1, 33), 6);
    Due.is("duty(9, 0)", x.duty(9, 0), 0);
    Due.is("no dislike stays", x.dislike(0, 0, 0), 0);
    Due.is("close(), open", x.close(), Due.STATE);
    x.hold(0, 1);
    Due.is("close() again", x.close(), 2);
    Due.is("close(), no duties", x.close(), 3);
    Due.is("past h of 1", x.of(1, 10), 1);
  }

  private static void audit() {
    FairTurns x = new FairTurns();
    Due.is("spread, nobody", x.audit(0, 0), 0);
    Due.is("envy, nobody", x.audit(0, 1), 0);
    Due.is("sum, nobody", x.audit(0, 2), 0);
    int[] pasts = {3, 5, 1, 4};
    for (int past : pasts) x.past(x.comes(0), 2, past);
    Due.is("spread", x.audit(2, 0), 4);
    Due.is("envy", x.audit(2, 1), 4);
    Due.is("sum", x.audit(2, 2), 13);
    Due.is("spread of holidays", x.audit(0, 0), 0);
    x.goes(2);
    Due.is("spread, one gone", x.audit(2, 0), 2);
    Due.is("envy, one gone", x.audit(2, 1), 1);
    Due.is("sum, one gone", x.audit(2, 2), 12);
    x.comes(3);
    Due.is("sum with a guest", x.audit(2, 2), 12 + 4 + 2);
    FairTurns all = Due.members(8);
    for (int one = 0; one < 8; one++) all.past(one, 1, one);
    Due.is("spread of eight", all.audit(1, 0), 7);
    Due.is("envy of eight", all.audit(1, 1), 21);
    Due.is("sum of eight", all.audit(1, 2), 28);
    Due.is("audit(2, 3)", x.audit(2, 3), Due.NONE);
    Due.is("audit(2, -1)", x.audit(2, -1), Due.NONE);
    Due.is("audit(4, 0)", x.audit(4, 0), Due.NONE);
    Due.is("audit(-1, 0)", x.audit(-1, 0), Due.NONE);
  }

  private static void next() {
    FairTurns x = Due.members(5);
    x.past(0, 0, 2);
    x.past(1, 0, 1);
    x.past(1, 3, 9);
    x.past(2, 0, 1);
    x.past(2, 3, 8);
    x.past(3, 0, 1);
    x.past(3, 3, 9);
    int[] order = {4, 2, 1, 3, 0};
    for (int i = 0; i < 5; i++) Due.is("next(0, " + i + ")", x.next(0, i), order[i]);
    Due.is("next(0, 5)", x.next(0, 5), Due.NONE);
    Due.is("next(0, -1)", x.next(0, -1), Due.NONE);
    Due.is("next(4, 0)", x.next(4, 0), Due.NONE);
    Due.is("next(-1, 0)", x.next(-1, 0), Due.NONE);
    x.goes(2);
    int[] left = {4, 1, 3, 0};
    for (int i = 0; i < 4; i++) Due.is("next(0, " + i + "), one gone", x.next(0, i), left[i]);
    Due.is("next(0, 4), one gone", x.next(0, 4), Due.NONE);
  }

  private static void near() {
    FairTurns x = Due.with(2, "5h;6n;5p;8e;7h;365n");
    Due.is("near(), all open", x.near(), 0);
    for (int duty = 0; duty < 6; duty++) x.hold(duty, 0);
    // 5-6, 5-5, 6-5, 6-7, 8-7.
    Due.is("near()", x.near(), 5);
    x.hold(1, 1);
    Due.is("near(), 6n by another", x.near(), 2);
    x.open(2);
    Due.is("near(), 5p open", x.near(), 1);
  }

  private static void heaviest() {
    FairTurns x = new FairTurns();
    Due.is("heaviest(), nobody", x.heaviest(), Due.NOBODY);
    x.comes(3);
    x.comes(0);
    x.comes(0);
    Due.is("heaviest(), all alike", x.heaviest(), 0);
    x.past(2, 3, 5);
    Due.is("heaviest()", x.heaviest(), 2);
    x.past(1, 0, 1);
    Due.is("heaviest(), two alike", x.heaviest(), 1);
    x.duty(3, 2);
    x.hold(0, 2);
    Due.is("heaviest(), by a duty", x.heaviest(), 2);
    x.goes(2);
    Due.is("heaviest(), it is gone", x.heaviest(), 1);
    x.goes(1);
    x.goes(0);
    Due.is("heaviest(), all gone", x.heaviest(), Due.NOBODY);
  }
}
