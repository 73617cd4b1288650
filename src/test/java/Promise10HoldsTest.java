/** Promise 10: whether a condition holds; IllegalArgumentException when there is none such. */
public final class Promise10HoldsTest {
  /** Condition, flags, whether it holds (1). */
  private static final int[][] ROWS = {
    {15, 4053, 0}, {14, 4053, 1}, {6, 4053, 1}, {0, 2048, 1}, {1, 2048, 0}, {2, 1, 1}, {3, 1, 0},
    {4, 64, 1}, {5, 64, 0}, {6, 1, 1}, {6, 64, 1}, {6, 4052 - 64, 0}, {7, 0, 1}, {8, 128, 1},
    {9, 128, 0}, {10, 4, 1}, {11, 4, 0}, {12, 128, 1}, {12, 2048, 1}, {12, 2176, 0}, {12, 0, 0},
    {13, 2176, 1}, {14, 64, 1}, {14, 128, 1}, {14, 2048, 1}, {14, 2176, 0}, {15, 2176, 1},
  };

  public static void main(String[] args) {
    Expect expect = new Expect("promise 10");
    for (int[] row : ROWS) {
      expect.due(Expect.withFlags(row[1]).holds(row[0]), row[2] == 1,
          "flags", row[1], "holds", row[0]);
    }
    for (int flags = 0; flags < 4096; flags++) {
      everyCondition(expect, flags & Expect.ALL_FLAGS);
    }
    wrongConditions(expect);
    expect.end();
  }

  private static void everyCondition(Expect expect, int flags) {
    Model m = new Model(false, flags);
    boolean less = m.sign && !m.overflow || !m.sign && m.overflow;
    boolean[] even = {
      m.overflow, m.carry, m.zero, m.carry || m.zero, m.sign, m.parity, less, less || m.zero
    };
    for (int condition = 0; condition < 16; condition++) {
      WordArithmetic x = Expect.withFlags(flags);
      expect.due(x.holds(condition), even[condition / 2] == (condition % 2 == 0),
          "flags", flags, "holds", condition);
      expect.due(x.flags(), flags, "flags after holds", condition);
    }
  }

  private static void wrongConditions(Expect expect) {
    for (int condition : new int[] {-1, -2, 16, 17, 256, Integer.MIN_VALUE, Integer.MAX_VALUE}) {
      for (int flags : new int[] {0, Expect.ALL_FLAGS}) {
        WordArithmetic x = Expect.withFlags(flags);
        boolean thrown = false;
        try {
          x.holds(condition);
        } catch (IllegalArgumentException e) {
          thrown = true;
        }
        expect.due(thrown, true, "holds", condition, "throws");
        expect.due(x.flags(), flags, "flags after holds", condition, "threw");
      }
    }
  }
}
