/** The bounds that the document names of sums, differences and operations: Terms, 4 and 5. */
public final class BoundsOfOperationsTest {
  private static final boolean BYTE = false;
  private static final boolean WORD = true;

  public static void main(String[] args) {
    Expect expect = new Expect("bounds of operations");
    carryOfSums(new Sentence(expect, "CARRY when it is 2^8 (2^16) or more"));
    halfOfSums(new Sentence(expect, "HALF when that of the lowest four bits is 16 or more"));
    overflowOfSums(new Sentence(expect, "OVERFLOW when the signed sum is no signed operand"));
    carryOfDifferences(new Sentence(expect, "A difference: CARRY when it is below 0"));
    halfOfDifferences(new Sentence(expect, "HALF when that of the lowest four bits is below 0"));
    overflowOfDifferences(new Sentence(expect, "OVERFLOW as for sums"));
    logic(new Sentence(expect, "By 1, 4, 6 and 8 CARRY, HALF and OVERFLOW are not set"));
    notKept(new Sentence(expect, "7 and 8 answer a"));
    oneMore(new Sentence(expect, "9 sum of a and 1 (9 leaves CARRY)"));
    oneLess(new Sentence(expect, "10 difference of a and 1 (10 leaves CARRY)"));
    fromNought(new Sentence(expect, "11 difference of 0 and a"));
    turned(new Sentence(expect, "12 each bit of a turned; 12 leaves all flags"));
    refused(new Sentence(expect, "IllegalArgumentException when there is none such"));
    expect.end();
  }

  private static void carryOfSums(Sentence says) {
    says.operate("C", 0, BYTE, 254, 1, 255, "PS");
    says.operate("", 0, BYTE, 255, 1, 0, "CPHZ");
    says.operate("C", 0, BYTE, 255, 0, 255, "PS");
    says.operate("", 2, BYTE, 255, 0, 255, "PS");
    says.operate("C", 2, BYTE, 254, 0, 255, "PS");
    says.operate("C", 2, BYTE, 254, 1, 0, "CPHZ");
    says.operate("C", 2, BYTE, 255, 255, 255, "CPHS");
    says.operate("C", 0, WORD, 65534, 1, 65535, "PS");
    says.operate("", 0, WORD, 65535, 1, 0, "CPHZ");
    says.operate("", 0, WORD, 255, 1, 256, "PH");
    says.operate("C", 2, WORD, 65534, 0, 65535, "PS");
    says.operate("C", 2, WORD, 65534, 1, 0, "CPHZ");
    says.operate("C", 2, WORD, 65535, 65535, 65535, "CPHS");
  }

  private static void halfOfSums(Sentence says) {
    says.operate("H", 0, BYTE, 15, 0, 15, "P");
    says.operate("", 0, BYTE, 15, 1, 16, "H");
    says.operate("H", 0, BYTE, 240, 16, 0, "CPZ");
    says.operate("", 2, BYTE, 14, 1, 15, "P");
    says.operate("C", 2, BYTE, 14, 1, 16, "H");
    says.operate("C", 2, BYTE, 15, 15, 31, "H");
    says.operate("", 0, WORD, 4095, 1, 4096, "PH");
    says.operate("H", 0, WORD, 4096, 4096, 8192, "P");
  }

  private static void overflowOfSums(Sentence says) {
    says.operate("O", 0, BYTE, 127, 0, 127, "");
    says.operate("", 0, BYTE, 127, 1, 128, "HSO");
    says.operate("C", 2, BYTE, 126, 0, 127, "");
    says.operate("C", 2, BYTE, 126, 1, 128, "HSO");
    says.operate("O", 0, BYTE, 128, 0, 128, "S");
    says.operate("", 0, BYTE, 128, 255, 127, "CO");
    says.operate("C", 2, BYTE, 128, 255, 128, "CHS");
    says.operate("", 0, BYTE, 128, 128, 0, "CPZO");
    says.operate("O", 0, BYTE, 255, 255, 254, "CHS");
    says.operate("O", 0, WORD, 127, 1, 128, "H");
    says.operate("O", 0, WORD, 32767, 0, 32767, "P");
    says.operate("", 0, WORD, 32767, 1, 32768, "PHSO");
    says.operate("C", 2, WORD, 32766, 1, 32768, "PHSO");
    says.operate("", 0, WORD, 32768, 65535, 32767, "CPO");
    says.operate("C", 2, WORD, 32768, 65535, 32768, "CPHS");
  }

  private static void carryOfDifferences(Sentence says) {
    says.operate("C", 5, BYTE, 1, 1, 0, "PZ");
    says.operate("", 5, BYTE, 0, 1, 255, "CPHS");
    says.operate("", 3, BYTE, 1, 1, 0, "PZ");
    says.operate("C", 3, BYTE, 1, 0, 0, "PZ");
    says.operate("C", 3, BYTE, 1, 1, 255, "CPHS");
    says.operate("C", 3, BYTE, 0, 255, 0, "CPHZ");
    says.operate("C", 5, WORD, 256, 256, 0, "PZ");
    says.operate("", 5, WORD, 0, 1, 65535, "CPHS");
    says.operate("", 5, WORD, 256, 1, 255, "PH");
    says.operate("C", 3, WORD, 0, 0, 65535, "CPHS");
    says.operate("C", 3, WORD, 0, 65535, 0, "CPHZ");
  }

  private static void halfOfDifferences(Sentence says) {
    says.operate("", 5, BYTE, 16, 1, 15, "PH");
    says.operate("H", 5, BYTE, 17, 1, 16, "");
    says.operate("H", 5, BYTE, 32, 16, 16, "");
    says.operate("C", 3, BYTE, 17, 1, 15, "PH");
    says.operate("C", 3, BYTE, 17, 0, 16, "");
    says.operate("", 5, WORD, 4096, 1, 4095, "PH");
    says.operate("H", 5, WORD, 8192, 4096, 4096, "P");
  }

  private static void overflowOfDifferences(Sentence says) {
    says.operate("O", 5, BYTE, 128, 0, 128, "S");
    says.operate("", 5, BYTE, 128, 1, 127, "HO");
    says.operate("O", 5, BYTE, 129, 1, 128, "S");
    says.operate("C", 3, BYTE, 128, 0, 127, "HO");
    says.operate("", 5, BYTE, 127, 255, 128, "CSO");
    says.operate("C", 3, BYTE, 127, 255, 127, "CH");
    says.operate("", 5, BYTE, 0, 128, 128, "CSO");
    says.operate("O", 5, BYTE, 255, 128, 127, "");
    says.operate("", 5, WORD, 32768, 1, 32767, "PHO");
    says.operate("C", 3, WORD, 32768, 0, 32767, "PHO");
    says.operate("", 5, WORD, 32767, 65535, 32768, "CPSO");
    says.operate("C", 3, WORD, 32767, 65535, 32767, "CPH");
    says.operate("O", 5, WORD, 128, 1, 127, "H");
  }

  private static void logic(Sentence says) {
    String all = Sentence.ALL;
    says.operate(all, 1, BYTE, 240, 15, 255, "PSTID");
    says.operate(all, 1, WORD, 0, 0, 0, "PZTID");
    says.operate("CHO", 1, WORD, 65280, 1, 65281, "S");
    says.operate(all, 4, BYTE, 170, 85, 0, "PZTID");
    says.operate("CHO", 4, WORD, 65535, 384, 384, "");
    says.operate(all, 6, BYTE, 255, 255, 0, "PZTID");
    says.operate("CHO", 6, WORD, 65535, 32767, 32768, "PS");
    says.operate(all, 8, BYTE, 170, 85, 170, "PZTID");
    says.operate("CHO", 8, BYTE, 129, 254, 129, "S");
  }

  private static void notKept(Sentence says) {
    says.operate("", 7, BYTE, 0, 1, 0, "CPHS");
    says.operate("C", 7, BYTE, 1, 1, 1, "PZ");
    says.operate("", 7, WORD, 32768, 1, 32768, "PHO");
    says.operate("C", 7, WORD, 65535, 65535, 65535, "PZ");
    says.operate("", 8, BYTE, 255, 0, 255, "PZ");
    says.operate("", 8, WORD, 65535, 32768, 65535, "PS");
  }

  private static void oneMore(Sentence says) {
    for (int b : new int[] {0, 1, -1, Integer.MIN_VALUE}) {
      says.operate("", 9, BYTE, 255, b, 0, "PHZ");
      says.operate("C", 9, BYTE, 255, b, 0, "CPHZ");
      says.operate("C", 9, BYTE, 0, b, 1, "C");
      says.operate("", 9, BYTE, 127, b, 128, "HSO");
      says.operate("O", 9, BYTE, 126, b, 127, "");
      says.operate("", 9, WORD, 65535, b, 0, "PHZ");
      says.operate("C", 9, WORD, 65535, b, 0, "CPHZ");
      says.operate("", 9, WORD, 32767, b, 32768, "PHSO");
      says.operate("", 9, WORD, 255, b, 256, "PH");
    }
  }

  private static void oneLess(Sentence says) {
    for (int b : new int[] {0, 1, -1, Integer.MIN_VALUE}) {
      says.operate("", 10, BYTE, 0, b, 255, "PHS");
      says.operate("C", 10, BYTE, 0, b, 255, "CPHS");
      says.operate("C", 10, BYTE, 1, b, 0, "CPZ");
      says.operate("", 10, BYTE, 128, b, 127, "HO");
      says.operate("O", 10, BYTE, 129, b, 128, "S");
      says.operate("", 10, WORD, 0, b, 65535, "PHS");
      says.operate("C", 10, WORD, 0, b, 65535, "CPHS");
      says.operate("", 10, WORD, 32768, b, 32767, "PHO");
      says.operate("", 10, WORD, 256, b, 255, "PH");
    }
  }

  private static void fromNought(Sentence says) {
    for (int b : new int[] {0, 1, -1, Integer.MIN_VALUE}) {
      says.operate("C", 11, BYTE, 0, b, 0, "PZ");
      says.operate("C", 11, BYTE, 1, b, 255, "CPHS");
      says.operate("", 11, BYTE, 128, b, 128, "CSO");
      says.operate("O", 11, BYTE, 129, b, 127, "CH");
      says.operate("H", 11, BYTE, 16, b, 240, "CPS");
      says.operate("", 11, WORD, 0, b, 0, "PZ");
      says.operate("", 11, WORD, 128, b, 65408, "CS");
      says.operate("", 11, WORD, 32768, b, 32768, "CPSO");
      says.operate("", 11, WORD, 65535, b, 1, "CH");
    }
  }

  private static void turned(Sentence says) {
    for (String flags : new String[] {"", Sentence.ALL, "C", "Z", "HSO"}) {
      says.operate(flags, 12, BYTE, 0, -1, 255, flags);
      says.operate(flags, 12, BYTE, 255, 1, 0, flags);
      says.operate(flags, 12, WORD, 0, -1, 65535, flags);
      says.operate(flags, 12, WORD, 65535, 1, 0, flags);
      says.operate(flags, 12, WORD, 255, 1, 65280, flags);
    }
  }

  private static void refused(Sentence says) {
    for (int none : new int[] {-1, 13, 256, 65536, Integer.MIN_VALUE, Integer.MAX_VALUE}) {
      says.refuses(IllegalArgumentException.class, "operate " + none + " of bytes",
          x -> x.operate(none, BYTE, 255, 1));
      says.refuses(IllegalArgumentException.class, "operate " + none + " of words",
          x -> x.operate(none, WORD, 0, 0));
    }
  }
}
