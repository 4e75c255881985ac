/** Each sentence of the document that names a bound, at that bound, one beyond it, with nothing, and refused. */
public final class Boundaries {
  public static void main(String[] args) {
    Bench bench = new Bench();
    new BoundaryTexts(bench).all();
    new BoundaryWars(bench).all();
    new BoundaryPosts(bench).all();
    new BoundaryFronts(bench).all();
    System.exit(bench.end());
  }
}
