import java.lang.reflect.InvocationTargetException;
import java.lang.reflect.Method;
import java.util.Arrays;
import java.util.Comparator;

// Any call with any arguments in any state: none may throw.
public final class NeverThrowsTest {
  private static final int RUNS = 400, CALLS = 512;
  private static final int[] FAR = {Integer.MIN_VALUE, Integer.MIN_VALUE + 1, -1000, -2, -1, 24, 30, 31, 1000, Integer.MAX_VALUE - 1, Integer.MAX_VALUE};

  private static long seed = 5;

  private static int upTo(int bound) {
    seed = seed * 6364136223846793005L + 1442695040888963407L;
    return (int) ((seed >>> 33) % bound);
  }

  public static void main(String[] args) throws IllegalAccessException {
    Method[] calls = FairTurns.class.getDeclaredMethods();
    calls = Arrays.stream(calls).filter(m -> java.lang.reflect.Modifier.isPublic(m.getModifiers())).toArray(Method[]::new);
    Arrays.sort(calls, Comparator.comparing(Method::getName));
    for (int run = 0; run < RUNS; run++) {
      FairTurns x = new FairTurns();
      int begun = run % 2 == 0 ? begin(x) : 0;
      for (int i = begun; i < CALLS; i++) ask(x, calls[upTo(calls.length)]);
    }
    Due.close("NeverThrowsTest");
  }

  // How many calls it took.
  private static int begin(FairTurns x) {
    for (int one = 0; one < 8; one++) x.comes(upTo(4));
    for (int duty = 0; duty < 24; duty++) x.duty(upTo(366), upTo(4));
    x.fill(-1);
    x.list(upTo(4), upTo(31));
    return 34;
  }

  private static void ask(FairTurns x, Method call) throws IllegalAccessException {
    Object[] arguments = new Object[call.getParameterCount()];
    for (int i = 0; i < arguments.length; i++) arguments[i] = upTo(3) == 0 ? FAR[upTo(FAR.length)] : upTo(26);
    if (call.getName().equals("feed") && upTo(4) != 0) arguments[0] = (int) "0123456789;=-hdkr(|!day<who>".charAt(upTo(28));
    int thrown = 0;
    try {
      call.invoke(x, arguments);
    } catch (InvocationTargetException e) {
      thrown = 1;
    }
    Due.is(call.getName() + Arrays.toString(arguments) + " threw", thrown, 0);
  }
}
