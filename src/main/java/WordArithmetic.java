/** The arithmetic of a processor of sixteen bits, of bytes and words, each with its flags. */
public final class WordArithmetic {
  private static final int CARRY = 1;
  private static final int PARITY = 4;
  private static final int HALF = 16;
  private static final int ZERO = 64;
  private static final int SIGN = 128;
  private static final int OVERFLOW = 2048;
  /** The six flags above with TRAP 256, INTERRUPT 512 and DIRECTION 1024, which no arithmetic uses. */
  private static final int ALL_FLAGS = 4053;

  private static final int TURN_LEFT = 0;
  private static final int TURN_RIGHT = 1;
  private static final int TURN_LEFT_THROUGH_CARRY = 2;
  private static final int TURN_RIGHT_THROUGH_CARRY = 3;
  private static final int FIRST_SHIFT_BY_ANSWER = 4;
  private static final int SHIFT_RIGHT_SIGNED = 7;
  private static final int LAST_SHIFT = 7;
  private static final int MOST_TIMES = 255;

  private static final int BYTE_MASK = 255;
  private static final int WORD_MASK = 65535;
  private static final long LONG_MASK = 4294967295L;
  private static final int DIGIT_MASK = 15;
  private static final int HIGHEST_DIGIT = 9;
  private static final int HIGHEST_TWO_DIGITS = 153;
  private static final int LOWER_GAP = 6;
  private static final int UPPER_GAP = 96;

  private int held;

  public WordArithmetic() {
    held = 0;
  }

  public void set(int flags) {
    held = flags & ALL_FLAGS;
  }

  public int flags() {
    return held;
  }

  public int operate(int operation, boolean wide, int a, int b) throws IllegalArgumentException {
    int x = operand(wide, a);
    int y = operand(wide, b);
    switch (operation) {
      case 0:
        return sum(wide, x, y, 0);
      case 1:
        return logic(wide, x | y);
      case 2:
        return sum(wide, x, y, held & CARRY);
      case 3:
        return difference(wide, x, y, held & CARRY);
      case 4:
        return logic(wide, x & y);
      case 5:
        return difference(wide, x, y, 0);
      case 6:
        return logic(wide, x ^ y);
      case 7:
        difference(wide, x, y, 0);
        return x;
      case 8:
        logic(wide, x & y);
        return x;
      case 9:
        return oneMore(wide, x);
      case 10:
        return oneLess(wide, x);
      case 11:
        return difference(wide, 0, x, 0);
      case 12:
        return operand(wide, ~x);
      default:
        throw new IllegalArgumentException("no such operation");
    }
  }

  public int shift(int shift, boolean wide, int a, int times) throws IllegalArgumentException {
    if (shift < 0 || shift > LAST_SHIFT) {
      throw new IllegalArgumentException("no such shift");
    }
    if (times < 0 || times > MOST_TIMES) {
      throw new IllegalArgumentException("times is not 0 .. 255");
    }
    boolean left = shift % 2 == 0;
    int answer = operand(wide, a);
    for (int done = 0; done < times; done++) {
      answer = left ? leftByOne(shift, wide, answer) : rightByOne(shift, wide, answer);
    }
    // Shifted no times, even the flags by the answer must stay.
    if (times > 0 && shift >= FIRST_SHIFT_BY_ANSWER) {
      goByAnswer(wide, answer);
    }
    return answer;
  }

  public int multiply(boolean wide, boolean signed, int a, int b) {
    // As longs, for the product of two words without a sign is too large for an int.
    long product = (long) valueOf(wide, signed, a) * valueOf(wide, signed, b);
    boolean longer = product != valueOf(wide, signed, (int) product);
    put(CARRY, longer);
    put(OVERFLOW, longer);
    return wide ? (int) product : (int) product & WORD_MASK;
  }

  public int divide(boolean wide, boolean signed, int a, int b) throws ArithmeticException {
    long dividend = valueTwiceAsLong(wide, signed, a);
    long divisor = valueOf(wide, signed, b);
    if (divisor == 0) {
      throw new ArithmeticException("divided by 0");
    }
    long quotient = dividend / divisor;
    long rest = dividend % divisor;
    if (!isQuotient(wide, signed, quotient)) {
      throw new ArithmeticException("the quotient is no operand");
    }
    return operand(wide, (int) rest) << width(wide) | operand(wide, (int) quotient);
  }

  public int adjust(int adjustment, int word, int base)
      throws IllegalArgumentException, ArithmeticException {
    int l = word & BYTE_MASK;
    int h = word >> 8 & BYTE_MASK;
    int byteBase = base & BYTE_MASK;
    switch (adjustment) {
      case 0:
        return joined(h, adjustedSum(l));
      case 1:
        return joined(h, adjustedDifference(l));
      case 2:
        return adjustedDigit(h, l, 1);
      case 3:
        return adjustedDigit(h, l, -1);
      case 4:
        if (byteBase == 0) {
          throw new ArithmeticException("the base is 0");
        }
        return joined(l / byteBase, adjustedByte(l % byteBase));
      case 5:
        return joined(0, adjustedByte(h * byteBase + l));
      default:
        throw new IllegalArgumentException("no such adjustment");
    }
  }

  public int extend(boolean wide, int a) {
    int value = signedValue(wide, a);
    return wide ? value : value & WORD_MASK;
  }

  public boolean holds(int condition) throws IllegalArgumentException {
    switch (condition) {
      case 0:
        return isSet(OVERFLOW);
      case 1:
        return !isSet(OVERFLOW);
      case 2:
        return isSet(CARRY);
      case 3:
        return !isSet(CARRY);
      case 4:
        return isSet(ZERO);
      case 5:
        return !isSet(ZERO);
      case 6:
        return isSet(CARRY) || isSet(ZERO);
      case 7:
        return !isSet(CARRY) && !isSet(ZERO);
      case 8:
        return isSet(SIGN);
      case 9:
        return !isSet(SIGN);
      case 10:
        return isSet(PARITY);
      case 11:
        return !isSet(PARITY);
      case 12:
        return isLess();
      case 13:
        return !isLess();
      case 14:
        return isLess() || isSet(ZERO);
      case 15:
        return !isLess() && !isSet(ZERO);
      default:
        throw new IllegalArgumentException("no such condition");
    }
  }

  // Flags

  private boolean isSet(int flag) {
    return (held & flag) != 0;
  }

  private void put(int flag, boolean set) {
    held = set ? held | flag : held & ~flag;
  }

  private void goByAnswer(boolean wide, int answer) {
    put(ZERO, answer == 0);
    put(SIGN, hasHighestBit(wide, answer));
    put(PARITY, Integer.bitCount(answer & BYTE_MASK) % 2 == 0);
  }

  /** After a difference, OVERFLOW says that SIGN is the wrong way round. */
  private boolean isLess() {
    return isSet(SIGN) != isSet(OVERFLOW);
  }

  // Operands

  private static int width(boolean wide) {
    return wide ? 16 : 8;
  }

  private static int mask(boolean wide) {
    return wide ? WORD_MASK : BYTE_MASK;
  }

  private static int highestBit(boolean wide) {
    return wide ? 32768 : 128;
  }

  private static boolean hasHighestBit(boolean wide, int a) {
    return (a & highestBit(wide)) != 0;
  }

  private static int operand(boolean wide, int a) {
    return a & mask(wide);
  }

  private static int signedValue(boolean wide, int a) {
    return wide ? (short) a : (byte) a;
  }

  private static int valueOf(boolean wide, boolean signed, int a) {
    return signed ? signedValue(wide, a) : operand(wide, a);
  }

  private static long valueTwiceAsLong(boolean wide, boolean signed, int a) {
    if (wide) {
      return signed ? a : a & LONG_MASK;
    }
    return valueOf(true, signed, a);
  }

  // Operations

  private int sum(boolean wide, int a, int b, int c) {
    int total = a + b + c;
    put(CARRY, total > mask(wide));
    put(HALF, (a & DIGIT_MASK) + (b & DIGIT_MASK) + c > DIGIT_MASK);
    putOverflow(wide, signedValue(wide, a) + signedValue(wide, b) + c);
    return kept(wide, total);
  }

  private int difference(boolean wide, int a, int b, int c) {
    int total = a - b - c;
    put(CARRY, total < 0);
    put(HALF, (a & DIGIT_MASK) - (b & DIGIT_MASK) - c < 0);
    putOverflow(wide, signedValue(wide, a) - signedValue(wide, b) - c);
    return kept(wide, total);
  }

  private int logic(boolean wide, int bits) {
    put(CARRY, false);
    put(HALF, false);
    put(OVERFLOW, false);
    return kept(wide, bits);
  }

  private int oneMore(boolean wide, int a) {
    boolean carry = isSet(CARRY);
    int answer = sum(wide, a, 1, 0);
    put(CARRY, carry);
    return answer;
  }

  private int oneLess(boolean wide, int a) {
    boolean carry = isSet(CARRY);
    int answer = difference(wide, a, 1, 0);
    put(CARRY, carry);
    return answer;
  }

  private void putOverflow(boolean wide, int signedTotal) {
    put(OVERFLOW, signedTotal != signedValue(wide, signedTotal));
  }

  private int kept(boolean wide, int total) {
    int answer = operand(wide, total);
    goByAnswer(wide, answer);
    return answer;
  }

  // Shifts

  private int leftByOne(int shift, boolean wide, int a) {
    boolean out = hasHighestBit(wide, a);
    boolean in = shift == TURN_LEFT && out || shift == TURN_LEFT_THROUGH_CARRY && isSet(CARRY);
    int answer = operand(wide, a << 1) | (in ? 1 : 0);
    put(CARRY, out);
    put(OVERFLOW, out != hasHighestBit(wide, answer));
    return answer;
  }

  private int rightByOne(int shift, boolean wide, int a) {
    boolean out = (a & 1) != 0;
    boolean highest = hasHighestBit(wide, a);
    boolean in = comesInFromLeft(shift, out, highest);
    put(CARRY, out);
    // The bit that came in and the highest one before are the two highest then. So this is right
    // for 5 too, where always a 0 comes in, and for 7, where the two are always the same.
    put(OVERFLOW, in != highest);
    return a >> 1 | (in ? highestBit(wide) : 0);
  }

  private boolean comesInFromLeft(int shift, boolean out, boolean highest) {
    switch (shift) {
      case TURN_RIGHT:
        return out;
      case TURN_RIGHT_THROUGH_CARRY:
        return isSet(CARRY);
      case SHIFT_RIGHT_SIGNED:
        return highest;
      default:
        return false;
    }
  }

  // Quotients

  private static boolean isQuotient(boolean wide, boolean signed, long quotient) {
    // The lowest signed operand is no quotient: the document leaves -128 and -32768 out.
    int most = signed ? mask(wide) >> 1 : mask(wide);
    int least = signed ? -most : 0;
    return quotient >= least && quotient <= most;
  }

  // Adjustments

  private int adjustedSum(int l) {
    boolean lower = needsLowerGap(l);
    boolean upper = needsUpperGap(l);
    put(HALF, lower);
    put(CARRY, upper);
    return adjustedByte(l + gap(lower, upper));
  }

  private int adjustedDifference(int l) {
    boolean lower = needsLowerGap(l);
    boolean upper = needsUpperGap(l);
    put(HALF, lower);
    put(CARRY, upper || lower && l < LOWER_GAP);
    return adjustedByte(l - gap(lower, upper));
  }

  private int adjustedDigit(int h, int l, int direction) {
    boolean needed = needsLowerGap(l);
    put(HALF, needed);
    put(CARRY, needed);
    int upper = needed ? h + direction : h;
    int lower = needed ? l + direction * LOWER_GAP : l;
    return joined(upper, lower & DIGIT_MASK);
  }

  private boolean needsLowerGap(int l) {
    return (l & DIGIT_MASK) > HIGHEST_DIGIT || isSet(HALF);
  }

  private boolean needsUpperGap(int l) {
    return l > HIGHEST_TWO_DIGITS || isSet(CARRY);
  }

  private static int gap(boolean lower, boolean upper) {
    return (lower ? LOWER_GAP : 0) + (upper ? UPPER_GAP : 0);
  }

  private int adjustedByte(int l) {
    return kept(false, l);
  }

  private static int joined(int h, int l) {
    return (h & BYTE_MASK) << 8 | l;
  }
}
