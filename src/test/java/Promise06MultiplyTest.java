import java.math.BigInteger;

/** Promise 6: the product of a and b, its lowest 16 (32) bits; only CARRY and OVERFLOW change. */
public final class Promise06MultiplyTest {
  /** Wide (1), signed (1), a, b, answer, whether CARRY and OVERFLOW are set (1). */
  private static final int[][] ROWS = {
    {0, 1, 128, 128, 16384, 1}, {0, 0, 128, 128, 16384, 1}, {0, 0, 255, 255, 65025, 1},
    {0, 1, 255, 255, 1, 0}, {0, 1, 255, 1, 65535, 0}, {0, 0, 255, 1, 255, 0},
    {0, 0, 16, 16, 256, 1}, {0, 1, 16, 8, 128, 1}, {0, 0, 16, 8, 128, 0},
    {0, 1, 128, 1, 65408, 0}, {0, 1, 128, 255, 128, 1}, {0, 1, 64, 254, 65408, 0},
    {0, 1, 43, 253, 65407, 1}, {0, 0, 0, 255, 0, 0}, {0, 0, 256, 255, 0, 0},
    {1, 0, 65535, 65535, -131071, 1}, {1, 1, 65535, 65535, 1, 0}, {1, 1, 65535, 1, -1, 0},
    {1, 0, 65535, 1, 65535, 0}, {1, 1, 32768, 32768, 1073741824, 1}, {1, 0, 256, 256, 65536, 1},
    {1, 1, 32768, 1, -32768, 0}, {1, 1, 256, 128, 32768, 1}, {1, 0, 256, 128, 32768, 0},
    {1, 0, 65536, 7, 0, 0},
  };

  public static void main(String[] args) {
    Expect expect = new Expect("promise 6");
    for (int[] row : ROWS) {
      check(expect, row[0] == 1, row[1] == 1, row[2], row[3], row[4], row[5] == 1);
    }
    for (int a = 0; a < 256; a++) {
      for (int b = 0; b < 256; b++) {
        compare(expect, false, false, a, b);
        compare(expect, false, true, a, b);
      }
    }
    for (int a : Expect.EDGES) {
      for (int b : Expect.EDGES) {
        compare(expect, false, false, a, b);
        compare(expect, false, true, a, b);
        compare(expect, true, false, a, b);
        compare(expect, true, true, a, b);
      }
    }
    expect.end();
  }

  private static void compare(Expect expect, boolean wide, boolean signed, int a, int b) {
    Model model = new Model(wide, 0);
    BigInteger x = BigInteger.valueOf(signed ? model.signed(a) : model.operand(a));
    BigInteger y = BigInteger.valueOf(signed ? model.signed(b) : model.operand(b));
    BigInteger product = x.multiply(y);
    int least = signed ? -model.size() / 2 : 0;
    boolean fits = product.compareTo(BigInteger.valueOf(least)) >= 0
        && product.compareTo(BigInteger.valueOf(least + model.size())) < 0;
    int answer = wide ? product.intValue() : product.mod(BigInteger.valueOf(65536)).intValue();
    check(expect, wide, signed, a, b, answer, !fits);
  }

  private static void check(Expect expect, boolean wide, boolean signed, int a, int b, int answer,
      boolean longer) {
    for (int flags : new int[] {0, 1, 2048, Expect.ALL_FLAGS, Expect.ALL_FLAGS - 2049}) {
      WordArithmetic x = Expect.withFlags(flags);
      expect.due(x.multiply(wide, signed, a, b), answer, "multiply", wide, signed, a, b);
      expect.due(x.flags(), flags & ~2049 | (longer ? 2049 : 0),
          "flags", flags, "flags after multiply", wide, signed, a, b);
    }
  }
}
