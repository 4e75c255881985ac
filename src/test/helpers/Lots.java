/** DRAWS as the document has them, one behind the other. */
final class Lots {
  private long g;

  Lots(int seed) { g = seed; }

  int below(int many) {
    g = (g * 1103515245L + 12345L) % 2147483648L;
    return (int) (g / 65536 % many);
  }

  /** The row in which so many MEN stand behind a DRAW by hand: the i-th has the i-th POST. */
  int[] row(int men) {
    int[] row = new int[men];
    for (int i = 0; i < men; i++) row[i] = i;
    for (int standing = men; standing >= 2; standing--) {
      int other = below(standing);
      int man = row[standing - 1];
      row[standing - 1] = row[other];
      row[other] = man;
    }
    return row;
  }
}
