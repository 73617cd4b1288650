/** The bounds that the document names of flags, of operands and of answers: Terms, 1 to 3, 9. */
public final class BoundsOfOperandsTest {
  private static final boolean BYTE = false;
  private static final boolean WORD = true;
  private static final boolean SIGNED = true;
  private static final boolean UNSIGNED = false;

  public static void main(String[] args) {
    Expect expect = new Expect("bounds of operands");
    flags(new Sentence(expect, "The flags are those in a number; its other bits do not count"), expect);
    lowestBits(new Sentence(expect, "of a number that comes in only its lowest bits count"));
    extended(new Sentence(expect, "those with the highest bit are 2^8 (2^16) less"));
    noSign(new Sentence(expect, "Answers have no sign"));
    allBits(new Sentence(expect, "wide products and quotients are all 32 bits of the int"));
    zero(new Sentence(expect, "ZERO when it is 0"));
    sign(new Sentence(expect, "SIGN when its highest bit is 1"));
    parity(new Sentence(expect, "PARITY when of its lowest eight bits an even number is 1"));
    expect.end();
  }

  private static void flags(Sentence says, Expect expect) {
    for (char letter : Sentence.ALL.toCharArray()) {
      String alone = String.valueOf(letter);
      // An operation that leaves all flags shows that each of them, alone, stands.
      says.operate(alone, 12, BYTE, 0, 0, 255, alone);
      says.operate(Sentence.ALL.replace(alone, ""), 12, WORD, 0, 0, 65535,
          Sentence.ALL.replace(alone, ""));
    }
    for (int none : new int[] {2, 8, 32, 4096, 8192, 65536, 1 << 30, Integer.MIN_VALUE, ~4053}) {
      expect.due(Expect.withFlags(none).flags(), 0, "its other bits do not count: set", none);
    }
  }

  private static void lowestBits(Sentence says) {
    says.operate("", 0, BYTE, 256, 0, 0, "PZ");
    says.operate("", 0, BYTE, 0, 256, 0, "PZ");
    says.operate("", 0, BYTE, -1, 513, 0, "CPHZ");
    says.operate("", 0, WORD, 65536, -65536, 0, "PZ");
    says.operate("", 0, WORD, -1, 65537, 0, "CPHZ");
    says.operate("", 5, BYTE, 256, 1, 255, "CPHS");
    says.operate("", 5, BYTE, 1, 257, 0, "PZ");
    says.operate("", 5, WORD, Integer.MIN_VALUE, 1, 65535, "CPHS");
    says.operate("", 7, WORD, 65541, 5, 5, "PZ");
    says.operate("", 8, BYTE, -255, 2, 1, "PZ");
    says.operate("", 12, BYTE, Integer.MAX_VALUE, 0, 0, "");
    says.shift("", 0, BYTE, 384, 1, 1, "CO");
    says.shift("", 1, BYTE, 256, 1, 0, "");
    says.shift("", 5, WORD, 65536, 1, 0, "PZ");
    says.shift("", 7, WORD, -65536, 1, 0, "PZ");
    says.shift("", 4, BYTE, -256, 0, 0, "");
    says.shift("", 4, WORD, -65535, 0, 1, "");
    says.multiply("", BYTE, UNSIGNED, 257, 511, 255, "");
    says.multiply("", BYTE, SIGNED, 384, 257, 65408, "");
    says.multiply("", WORD, UNSIGNED, 65537, -1, 65535, "");
    says.multiply("", WORD, SIGNED, 98304, 65537, -32768, "");
    says.divide(BYTE, UNSIGNED, 65536 + 100, 256 + 7, 2, 14);
    says.divide(BYTE, SIGNED, 65536 + 100, 512 - 7, 2, 242);
    says.divide(WORD, UNSIGNED, 100000, 65536 + 7, 5, 14285);
    says.divide(WORD, SIGNED, 100000, -65536 + 7, 5, 14285);
    says.adjust("", 0, 65536 + 10, 0, 16, "H");
    says.adjust("", 0, -1, 0, 65381, "CPH");
    says.adjust("", 4, 65536 + 99, 256 + 10, 2313, "P");
    says.adjust("", 5, 65536 + 265, -246, 19, "");
    says.extend(BYTE, 256 + 127, 127);
    says.extend(WORD, 65536 + 32767, 32767);
  }

  private static void extended(Sentence says) {
    says.extend(BYTE, 0, 0);
    says.extend(BYTE, 127, 127);
    says.extend(BYTE, 128, 65408);
    says.extend(BYTE, 255, 65535);
    says.extend(WORD, 128, 128);
    says.extend(WORD, 32767, 32767);
    says.extend(WORD, 32768, -32768);
    says.extend(WORD, 65535, -1);
  }

  private static void noSign(Sentence says) {
    says.operate("", 5, BYTE, 0, 1, 255, "CPHS");
    says.operate("", 5, WORD, 0, 1, 65535, "CPHS");
    says.operate("", 7, WORD, -1, -1, 65535, "PZ");
    says.operate("", 12, WORD, 0, 0, 65535, "");
    says.shift("", 1, WORD, 1, 1, 32768, "CO");
    says.shift("", 7, WORD, -1, 1, 65535, "CPS");
    says.shift("", 7, WORD, -1, 0, 65535, "");
    says.multiply("", BYTE, SIGNED, 1, -1, 65535, "");
    says.divide(BYTE, SIGNED, -7, 2, 255, 253);
    says.adjust("H", 3, 0, 0, 65290, "CH");
    says.adjust("H", 1, -256, 0, 65530, "CPHS");
    says.extend(BYTE, -1, 65535);
  }

  private static void allBits(Sentence says) {
    says.multiply("", WORD, SIGNED, 1, -1, -1, "");
    says.multiply("", WORD, UNSIGNED, 65535, 65535, -131071, "CO");
    says.multiply("", WORD, UNSIGNED, 65535, 1, 65535, "");
    says.divide(WORD, SIGNED, -7, 2, -1, 65533);
    says.divide(WORD, UNSIGNED, -65537, 65535, 65534, 65535);
    says.extend(WORD, -1, -1);
  }

  private static void zero(Sentence says) {
    says.operate("", 1, BYTE, 0, 0, 0, "PZ");
    says.operate("Z", 1, BYTE, 1, 0, 1, "");
    says.operate("", 1, WORD, 0, 0, 0, "PZ");
    says.operate("Z", 1, WORD, 256, 0, 256, "P");
    says.operate("Z", 1, WORD, 32768, 0, 32768, "PS");
  }

  private static void sign(Sentence says) {
    says.operate("S", 1, BYTE, 127, 0, 127, "");
    says.operate("", 1, BYTE, 128, 0, 128, "S");
    says.operate("S", 1, WORD, 128, 0, 128, "");
    says.operate("S", 1, WORD, 32767, 0, 32767, "P");
    says.operate("", 1, WORD, 32768, 0, 32768, "PS");
  }

  private static void parity(Sentence says) {
    for (int bit = 1; bit < 256; bit *= 2) {
      says.operate("P", 1, BYTE, bit, 0, bit, bit == 128 ? "S" : "");
      says.operate("", 1, BYTE, 255 - bit, bit, 255, "PS");
      says.operate("", 1, WORD, bit * 256, 0, bit * 256, bit == 128 ? "PS" : "P");
      says.operate("P", 1, WORD, bit * 256, 1, bit * 256 + 1, bit == 128 ? "S" : "");
    }
    says.operate("P", 1, BYTE, 254, 0, 254, "S");
    says.operate("", 1, BYTE, 3, 0, 3, "P");
    says.operate("P", 1, BYTE, 7, 0, 7, "");
  }
}
