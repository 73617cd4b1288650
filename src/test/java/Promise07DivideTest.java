import java.math.BigInteger;

/** Promise 7: the quotient and what is left; ArithmeticException by 0 or when it is no operand. */
public final class Promise07DivideTest {
  /** Wide (1), signed (1), a, b, answer. */
  private static final int[][] ROWS = {
    {0, 0, 100, 7, 526}, {0, 0, 1023, 4, 1023}, {0, 0, 65279, 255, 65279},
    {0, 1, 65409, 1, 129}, {0, 1, -127, 1, 129}, {0, 1, 127, 255, 129}, {0, 1, -7, 2, 65533},
    {0, 1, 7, 254, 509}, {0, 1, -7, 254, 65283}, {0, 1, 16256, 128, 129}, {0, 1, 16383, 128, 32641},
    {1, 0, 100000, 7, 5 * 65536 + 14285}, {1, 0, -65537, 65535, -65537}, {1, 0, -131072, 65535, -65538},
    {1, 1, -7, 2, -3}, {1, 1, 7, -2, 131069}, {1, 1, -7, -2, -65533}, {1, 1, 32767, 1, 32767},
    {1, 1, -32767, 1, 32769}, {1, 1, 1073741823, 32768, 32767 * 65536 + 32769},
    {1, 0, 65535, 65537, 65535}, {1, 1, 0, 5, 0},
  };
  /** Wide (1), signed (1), a, b: what throws. */
  private static final int[][] REFUSED = {
    {0, 0, 1024, 4}, {0, 0, 65535, 255}, {0, 0, 7, 0}, {0, 0, 7, 256}, {0, 0, 0, 0}, {0, 1, 0, 0},
    {0, 1, -128, 1}, {0, 1, 128, 1}, {0, 1, 128, 255}, {0, 1, -128, 255}, {0, 1, 32768, 255},
    {0, 1, 32768, 128}, {0, 1, 16384, 128}, {1, 0, 7, 0}, {1, 0, 7, 65536}, {1, 1, 7, 0},
    {1, 0, 65536, 1}, {1, 0, -1, 65535}, {1, 1, -32768, 1}, {1, 1, 32768, 1}, {1, 1, 32768, -1},
    {1, 1, Integer.MIN_VALUE, 1}, {1, 1, Integer.MIN_VALUE, -1}, {1, 1, 1073741824, 32768},
  };

  public static void main(String[] args) {
    Expect expect = new Expect("promise 7");
    for (int[] row : ROWS) {
      check(expect, row[0] == 1, row[1] == 1, row[2], row[3], row[4], false);
    }
    for (int[] row : REFUSED) {
      check(expect, row[0] == 1, row[1] == 1, row[2], row[3], 0, true);
    }
    everyDividend(expect);
    edges(expect);
    expect.end();
  }

  private static void everyDividend(Expect expect) {
    for (int a = 0; a < 65536; a += 3) {
      for (int b = 0; b < 256; b += b < 4 || b > 250 || b > 124 && b < 131 ? 1 : 5) {
        compare(expect, false, false, a, b);
        compare(expect, false, true, a, b);
      }
    }
  }

  private static void edges(Expect expect) {
    for (int a : Expect.EDGES) {
      for (int b : Expect.EDGES) {
        compare(expect, false, false, a, b);
        compare(expect, false, true, a, b);
        compare(expect, true, false, a, b);
        compare(expect, true, true, a, b);
        // Round the highest and the lowest quotient that an operand takes.
        for (int near = -2; near < 3; near++) {
          compare(expect, true, true, b * 32767 + near, b);
          compare(expect, true, true, b * -32768 + near, b);
          compare(expect, true, false, b * 65535 + near, b);
          compare(expect, true, false, b * 65536 + near, b);
        }
      }
    }
  }

  private static void compare(Expect expect, boolean wide, boolean signed, int a, int b) {
    Model model = new Model(wide, 0);
    BigInteger size = BigInteger.valueOf(model.size());
    BigInteger x = BigInteger.valueOf(a).mod(size.multiply(size));
    if (signed && x.compareTo(size.multiply(size).shiftRight(1)) >= 0) {
      x = x.subtract(size.multiply(size));
    }
    BigInteger y = BigInteger.valueOf(signed ? model.signed(b) : model.operand(b));
    if (y.signum() == 0) {
      check(expect, wide, signed, a, b, 0, true);
      return;
    }
    BigInteger[] parts = x.divideAndRemainder(y);
    int most = signed ? model.size() / 2 - 1 : model.size() - 1;
    boolean fits = parts[0].compareTo(BigInteger.valueOf(most)) <= 0
        && parts[0].compareTo(BigInteger.valueOf(signed ? -most : 0)) >= 0;
    int answer = parts[1].mod(size).multiply(size).add(parts[0].mod(size)).intValue();
    check(expect, wide, signed, a, b, answer, !fits);
  }

  private static void check(Expect expect, boolean wide, boolean signed, int a, int b, int answer,
      boolean throwing) {
    for (int flags : new int[] {0, Expect.ALL_FLAGS}) {
      WordArithmetic x = Expect.withFlags(flags);
      boolean thrown = false;
      int got = 0;
      try {
        got = x.divide(wide, signed, a, b);
      } catch (ArithmeticException e) {
        thrown = true;
      }
      expect.due(thrown, throwing, "divide", wide, signed, a, b, "throws");
      if (!throwing) {
        expect.due(got, answer, "divide", wide, signed, a, b);
      }
      expect.due(x.flags(), flags, "flags after divide", wide, signed, a, b);
    }
  }
}
