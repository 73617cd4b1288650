/** The bounds that the document names of products and quotients: Terms, 7, and promises 6 and 7. */
public final class BoundsOfProductsTest {
  private static final boolean BYTE = false;
  private static final boolean WORD = true;
  private static final boolean SIGNED = true;
  private static final boolean UNSIGNED = false;

  public static void main(String[] args) {
    Expect expect = new Expect("bounds of products");
    unsignedProducts(new Sentence(expect, "another number than its lower half is, not signed"));
    signedProducts(new Sentence(expect, "another number than its lower half is, signed"));
    otherFlags(new Sentence(expect, "No other flags change by these"));
    unsignedQuotients(new Sentence(expect, "quotients, not signed: cut off towards 0"));
    signedQuotients(new Sentence(expect, "cut off towards 0; the rest has the sign of the first"));
    noOperand(new Sentence(expect, "ArithmeticException when the quotient is no operand"));
    noSignedOperand(new Sentence(expect, "signed: not -127 .. 127, -32767 .. 32767"));
    byNought(new Sentence(expect, "ArithmeticException when it is by 0"));
    expect.end();
  }

  private static void unsignedProducts(Sentence says) {
    says.multiply("CO", BYTE, UNSIGNED, 0, 255, 0, "");
    says.multiply("CO", BYTE, UNSIGNED, 15, 17, 255, "");
    says.multiply("", BYTE, UNSIGNED, 16, 16, 256, "CO");
    says.multiply("C", BYTE, UNSIGNED, 128, 1, 128, "");
    says.multiply("O", BYTE, UNSIGNED, 255, 1, 255, "");
    says.multiply("", BYTE, UNSIGNED, 255, 255, 65025, "CO");
    says.multiply("CO", WORD, UNSIGNED, 257, 255, 65535, "");
    says.multiply("", WORD, UNSIGNED, 256, 256, 65536, "CO");
    says.multiply("C", WORD, UNSIGNED, 32768, 1, 32768, "");
    says.multiply("O", WORD, UNSIGNED, 16, 16, 256, "");
    says.multiply("", WORD, UNSIGNED, 32768, 65535, 2147450880, "CO");
    says.multiply("", WORD, UNSIGNED, 65535, 65535, -131071, "CO");
  }

  private static void signedProducts(Sentence says) {
    says.multiply("CO", BYTE, SIGNED, 127, 1, 127, "");
    says.multiply("", BYTE, SIGNED, 64, 2, 128, "CO");
    says.multiply("CO", BYTE, SIGNED, 64, -2, 65408, "");
    says.multiply("", BYTE, SIGNED, 43, -3, 65407, "CO");
    says.multiply("CO", BYTE, SIGNED, 128, 1, 65408, "");
    says.multiply("", BYTE, SIGNED, 128, 255, 128, "CO");
    says.multiply("", BYTE, SIGNED, 128, 127, 49280, "CO");
    says.multiply("", BYTE, SIGNED, 128, 128, 16384, "CO");
    says.multiply("", BYTE, SIGNED, 16, 16, 256, "CO");
    says.multiply("CO", BYTE, SIGNED, 255, 255, 1, "");
    says.multiply("CO", WORD, SIGNED, 32767, 1, 32767, "");
    says.multiply("", WORD, SIGNED, 16384, 2, 32768, "CO");
    says.multiply("CO", WORD, SIGNED, 16384, -2, -32768, "");
    says.multiply("", WORD, SIGNED, 10923, -3, -32769, "CO");
    says.multiply("", WORD, SIGNED, 32768, 65535, 32768, "CO");
    says.multiply("", WORD, SIGNED, 32768, 32767, -1073709056, "CO");
    says.multiply("", WORD, SIGNED, 32768, 32768, 1073741824, "CO");
    says.multiply("", WORD, SIGNED, 256, 256, 65536, "CO");
    says.multiply("CO", WORD, SIGNED, 128, 1, 128, "");
  }

  private static void otherFlags(Sentence says) {
    for (boolean wide : new boolean[] {BYTE, WORD}) {
      for (boolean signed : new boolean[] {SIGNED, UNSIGNED}) {
        says.multiply(Sentence.ALL, wide, signed, 0, 0, 0, "PHZSTID");
        says.multiply("", wide, signed, 0, 0, 0, "");
        says.multiply("", wide, signed, 3, 1, 3, "");
        says.divide(wide, signed, 0, 1, 0, 0);
        says.divide(wide, signed, 7, 7, 0, 1);
      }
    }
    says.multiply("PHZSTID", BYTE, SIGNED, 64, 64, 4096, Sentence.ALL);
    says.multiply("PHZSTID", WORD, UNSIGNED, 256, 256, 65536, Sentence.ALL);
  }

  private static void unsignedQuotients(Sentence says) {
    says.divide(BYTE, UNSIGNED, 6, 7, 6, 0);
    says.divide(BYTE, UNSIGNED, 13, 7, 6, 1);
    says.divide(BYTE, UNSIGNED, 255, 1, 0, 255);
    says.divide(BYTE, UNSIGNED, 1023, 4, 3, 255);
    says.divide(BYTE, UNSIGNED, 65279, 255, 254, 255);
    says.divide(BYTE, UNSIGNED, 32768, 255, 128, 128);
    says.divide(WORD, UNSIGNED, 6, 7, 6, 0);
    says.divide(WORD, UNSIGNED, 65535, 1, 0, 65535);
    says.divide(WORD, UNSIGNED, 262143, 4, 3, 65535);
    says.divide(WORD, UNSIGNED, Integer.MIN_VALUE, 65535, 32768, 32768);
    says.divide(WORD, UNSIGNED, -65537, 65535, 65534, 65535);
  }

  private static void signedQuotients(Sentence says) {
    says.divide(BYTE, SIGNED, 7, 2, 1, 3);
    says.divide(BYTE, SIGNED, -7, 2, 255, 253);
    says.divide(BYTE, SIGNED, 7, -2, 1, 253);
    says.divide(BYTE, SIGNED, -7, -2, 255, 3);
    says.divide(BYTE, SIGNED, -1, 2, 255, 0);
    says.divide(BYTE, SIGNED, -1, 128, 255, 0);
    says.divide(BYTE, SIGNED, 65535, 1, 0, 255);
    says.divide(WORD, SIGNED, 7, 2, 1, 3);
    says.divide(WORD, SIGNED, -7, 2, -1, 65533);
    says.divide(WORD, SIGNED, 7, -2, 1, 65533);
    says.divide(WORD, SIGNED, -7, -2, -1, 3);
    says.divide(WORD, SIGNED, -1, 32768, -1, 0);
    says.divide(WORD, SIGNED, 65535, 2, 1, 32767);
  }

  private static void noOperand(Sentence says) {
    quotientRefused(says, BYTE, UNSIGNED, 256, 1);
    quotientRefused(says, BYTE, UNSIGNED, 1024, 4);
    quotientRefused(says, BYTE, UNSIGNED, 65280, 255);
    quotientRefused(says, BYTE, UNSIGNED, -1, 255);
    quotientRefused(says, BYTE, UNSIGNED, -1, 1);
    quotientRefused(says, WORD, UNSIGNED, 65536, 1);
    quotientRefused(says, WORD, UNSIGNED, 262144, 4);
    quotientRefused(says, WORD, UNSIGNED, -65536, 65535);
    quotientRefused(says, WORD, UNSIGNED, -1, 65535);
    quotientRefused(says, WORD, UNSIGNED, Integer.MIN_VALUE, 32768);
    quotientRefused(says, WORD, UNSIGNED, -1, 1);
  }

  private static void noSignedOperand(Sentence says) {
    says.divide(BYTE, SIGNED, 127, 1, 0, 127);
    says.divide(BYTE, SIGNED, 255, 2, 1, 127);
    says.divide(BYTE, SIGNED, -127, 1, 0, 129);
    says.divide(BYTE, SIGNED, -255, 2, 255, 129);
    says.divide(BYTE, SIGNED, 127, -1, 0, 129);
    says.divide(BYTE, SIGNED, 16383, 128, 127, 129);
    says.divide(BYTE, SIGNED, -16383, 128, 129, 127);
    quotientRefused(says, BYTE, SIGNED, 128, 1);
    quotientRefused(says, BYTE, SIGNED, 256, 2);
    quotientRefused(says, BYTE, SIGNED, -128, 1);
    quotientRefused(says, BYTE, SIGNED, -257, 2);
    quotientRefused(says, BYTE, SIGNED, 128, -1);
    quotientRefused(says, BYTE, SIGNED, 16384, 128);
    quotientRefused(says, BYTE, SIGNED, -16384, 128);
    quotientRefused(says, BYTE, SIGNED, 32767, 1);
    quotientRefused(says, BYTE, SIGNED, 32768, -1);
    says.divide(WORD, SIGNED, 32767, 1, 0, 32767);
    says.divide(WORD, SIGNED, 65535, 2, 1, 32767);
    says.divide(WORD, SIGNED, -32767, 1, 0, 32769);
    says.divide(WORD, SIGNED, -65535, 2, -1, 32769);
    says.divide(WORD, SIGNED, 1073741823, 32768, 32767, 32769);
    says.divide(WORD, SIGNED, -1073741823, 32768, -32767, 32767);
    quotientRefused(says, WORD, SIGNED, 32768, 1);
    quotientRefused(says, WORD, SIGNED, 65536, 2);
    quotientRefused(says, WORD, SIGNED, -32768, 1);
    quotientRefused(says, WORD, SIGNED, -65537, 2);
    quotientRefused(says, WORD, SIGNED, 1073741824, 32768);
    quotientRefused(says, WORD, SIGNED, -1073741824, 32768);
    quotientRefused(says, WORD, SIGNED, Integer.MIN_VALUE, 1);
    quotientRefused(says, WORD, SIGNED, Integer.MIN_VALUE, -1);
    quotientRefused(says, WORD, SIGNED, Integer.MAX_VALUE, -1);
  }

  private static void byNought(Sentence says) {
    for (boolean signed : new boolean[] {SIGNED, UNSIGNED}) {
      for (int a : new int[] {0, 7, -7, Integer.MIN_VALUE}) {
        quotientRefused(says, BYTE, signed, a, 0);
        quotientRefused(says, BYTE, signed, a, 256);
        quotientRefused(says, BYTE, signed, a, -65536);
        quotientRefused(says, WORD, signed, a, 0);
        quotientRefused(says, WORD, signed, a, 65536);
        quotientRefused(says, WORD, signed, a, Integer.MIN_VALUE);
      }
    }
    says.divide(WORD, UNSIGNED, 512, 256, 0, 2);
  }

  private static void quotientRefused(Sentence says, boolean wide, boolean signed, int a, int b) {
    says.refuses(ArithmeticException.class, "divide " + wide + " " + signed + " " + a + " " + b,
        x -> x.divide(wide, signed, a, b));
  }
}
