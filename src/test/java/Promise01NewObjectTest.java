/** Promise 1: a new object has no flag set. */
public final class Promise01NewObjectTest {
  public static void main(String[] args) {
    Expect expect = new Expect("promise 1");
    expect.due(new WordArithmetic().flags(), 0, "new: flags()");
    for (int condition = 0; condition < 16; condition++) {
      expect.due(new WordArithmetic().holds(condition), condition % 2 == 1, "new: holds", condition);
    }
    WordArithmetic first = new WordArithmetic();
    first.set(-1);
    expect.due(new WordArithmetic().flags(), 0, "new beside a set one: flags()");
    expect.due(first.flags(), Expect.ALL_FLAGS, "set one beside a new: flags()");
    expect.end();
  }
}
