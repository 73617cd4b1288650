/** Promise 2: the flags are those in a number; its other bits do not count. */
public final class Promise02SetTest {
  private static final int[] FLAGS = {1, 4, 16, 64, 128, 256, 512, 1024, 2048};

  public static void main(String[] args) {
    Expect expect = new Expect("promise 2");
    for (int bit = 0; bit < 32; bit++) {
      expect.due(Expect.withFlags(1 << bit).flags(), isFlag(1 << bit) ? 1 << bit : 0, "set bit", bit);
      expect.due(Expect.withFlags(~(1 << bit)).flags(),
          isFlag(1 << bit) ? Expect.ALL_FLAGS - (1 << bit) : Expect.ALL_FLAGS, "set all but bit", bit);
    }
    for (int flags = 0; flags < 8192; flags++) {
      expect.due(Expect.withFlags(flags).flags(), picked(flags), "set", flags);
    }
    replaces(expect);
    expect.end();
  }

  private static void replaces(Expect expect) {
    WordArithmetic x = Expect.withFlags(-1);
    x.set(256);
    expect.due(x.flags(), 256, "set(-1), set(256): flags()");
    x.set(0);
    expect.due(x.flags(), 0, "set(0): flags()");
    x.set(Integer.MIN_VALUE);
    expect.due(x.flags(), 0, "set(MIN_VALUE): flags()");
    x.set(Integer.MAX_VALUE);
    expect.due(x.flags(), Expect.ALL_FLAGS, "set(MAX_VALUE): flags()");
    x.set(42);
    expect.due(x.flags(), 0, "set(42), no flags in it: flags()");
  }

  private static boolean isFlag(int bit) {
    return picked(bit) != 0;
  }

  private static int picked(int number) {
    int sum = 0;
    for (int flag : FLAGS) {
      sum += (number & flag) != 0 ? flag : 0;
    }
    return sum;
  }
}
