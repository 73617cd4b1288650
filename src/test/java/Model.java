/**
 * The document's terms once more, bit by bit and with texts for numbers where it can be, so that
 * a slip in the class is not likely to stand here too.
 */
final class Model {
  final int width;
  boolean carry;
  boolean parity;
  boolean half;
  boolean zero;
  boolean sign;
  boolean overflow;
  private final int others;

  Model(boolean wide, int flags) {
    width = wide ? 16 : 8;
    carry = flags % 2 == 1;
    parity = flags / 4 % 2 == 1;
    half = flags / 16 % 2 == 1;
    zero = flags / 64 % 2 == 1;
    sign = flags / 128 % 2 == 1;
    overflow = flags / 2048 % 2 == 1;
    others = flags / 256 % 8 * 256;
  }

  int flags() {
    return others + (carry ? 1 : 0) + (parity ? 4 : 0) + (half ? 16 : 0) + (zero ? 64 : 0)
        + (sign ? 128 : 0) + (overflow ? 2048 : 0);
  }

  int size() {
    return width == 16 ? 65536 : 256;
  }

  int operand(int a) {
    return Math.floorMod(a, size());
  }

  int signed(int a) {
    int n = operand(a);
    return n >= size() / 2 ? n - size() : n;
  }

  int byAnswer(int answer) {
    zero = answer == 0;
    sign = answer >= size() / 2;
    int ones = 0;
    for (char bit : Integer.toBinaryString(answer % 256).toCharArray()) {
      ones += bit - '0';
    }
    parity = ones % 2 == 0;
    return answer;
  }

  private int sum(int a, int b, int c) {
    carry = a + b + c >= size();
    half = a % 16 + b % 16 + c >= 16;
    int signed = signed(a) + signed(b) + c;
    overflow = signed < -size() / 2 || signed >= size() / 2;
    return byAnswer((a + b + c) % size());
  }

  private int difference(int a, int b, int c) {
    carry = a < b + c;
    half = a % 16 < b % 16 + c;
    int signed = signed(a) - signed(b) - c;
    overflow = signed < -size() / 2 || signed >= size() / 2;
    return byAnswer(Math.floorMod(a - b - c, size()));
  }

  private int bits(int operation, int a, int b) {
    int answer = 0;
    for (int place = 1; place < size(); place *= 2) {
      int ones = a / place % 2 + b / place % 2;
      boolean one = operation == 1 ? ones > 0 : operation == 6 ? ones == 1 : ones == 2;
      answer += one ? place : 0;
    }
    carry = false;
    half = false;
    overflow = false;
    return byAnswer(answer);
  }

  int operate(int operation, int first, int second) {
    int a = operand(first);
    int b = operand(second);
    int c = carry ? 1 : 0;
    boolean before = carry;
    switch (operation) {
      case 0: return sum(a, b, 0);
      case 1: case 4: case 6: return bits(operation, a, b);
      case 2: return sum(a, b, c);
      case 3: return difference(a, b, c);
      case 5: return difference(a, b, 0);
      case 7: difference(a, b, 0); return a;
      case 8: bits(4, a, b); return a;
      case 9: sum(a, 1, 0); carry = before; return operand(a + 1);
      case 10: difference(a, 1, 0); carry = before; return operand(a - 1);
      case 11: return difference(0, a, 0);
      default: return size() - 1 - a;
    }
  }

  int shift(int shift, int first, int times) {
    String bits = Integer.toBinaryString(operand(first) + size()).substring(1);
    for (int done = 0; done < times; done++) {
      char left = bits.charAt(0);
      char right = bits.charAt(width - 1);
      char was = carry ? '1' : '0';
      String tail = bits.substring(1);
      String head = bits.substring(0, width - 1);
      switch (shift) {
        case 0: bits = tail + left; break;
        case 1: bits = right + head; break;
        case 2: bits = tail + was; break;
        case 3: bits = was + head; break;
        case 4: case 6: bits = tail + '0'; break;
        case 5: bits = '0' + head; break;
        default: bits = left + head; break;
      }
      carry = (shift % 2 == 0 ? left : right) == '1';
      switch (shift) {
        case 0: case 2: case 4: case 6: overflow = carry != (bits.charAt(0) == '1'); break;
        case 1: case 3: overflow = bits.charAt(0) != bits.charAt(1); break;
        case 5: overflow = left == '1'; break;
        default: overflow = false; break;
      }
      if (shift >= 4) {
        byAnswer(Integer.parseInt(bits, 2));
      }
    }
    return Integer.parseInt(bits, 2);
  }

  /** Of bytes; decimal adjustments 0 to 3 and those by a base, which is not 0. */
  int adjust(int adjustment, int word, int base) {
    int l = Math.floorMod(word, 256);
    int h = Math.floorMod(word, 65536) / 256;
    int n = Math.floorMod(base, 256);
    boolean lower = l % 16 > 9 || half;
    boolean upper = l > 153 || carry;
    switch (adjustment) {
      case 0:
        half = lower;
        carry = upper;
        return h * 256 + byAnswer((l + (lower ? 6 : 0) + (upper ? 96 : 0)) % 256);
      case 1:
        half = lower;
        carry = upper || lower && l - 6 < 0;
        return h * 256 + byAnswer(Math.floorMod(l - (lower ? 6 : 0) - (upper ? 96 : 0), 256));
      case 2: case 3:
        int step = !lower ? 0 : adjustment == 2 ? 1 : -1;
        half = lower;
        carry = lower;
        return Math.floorMod(h + step, 256) * 256 + Math.floorMod(l + 6 * step, 16);
      case 4:
        return l / n * 256 + byAnswer(l % n);
      default:
        return byAnswer((h * n + l) % 256);
    }
  }
}
