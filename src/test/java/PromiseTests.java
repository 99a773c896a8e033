/** Each promise of the document by its number: ordinary inputs, its edges, and wrong inputs. */
public final class PromiseTests {
  private static final int NONE = CircuitWays.NONE, BAD = CircuitWays.BAD, FULL = CircuitWays.FULL;
  private static final int LOW = Integer.MIN_VALUE, HIGH = Integer.MAX_VALUE;
  private static int wrong = 0;
  private static int asked = 0;

  private static void due(String what, int got, int want) {
    asked++;
    if (got != want) {
      wrong++;
      System.out.println(what + ": answered " + got + ", due is " + want);
    }
  }

  public static void main(String[] args) {
    newObject();
    node();
    arc();
    lose();
    price();
    ahead();
    rule();
    best();
    roomAndMost();
    many();
    first();
    firstPrefersTheLesser();
    with();
    without();
    filter();
    weight();
    bound();
    edge();
    degree();
    pairing();
    next();
    circle();
    nearest();
    put();
    keep();
    check();
    insert();
    count();
    badChangesNothing();
    System.out.println(wrong == 0 ? "all of " + asked + " answers are as due" : wrong + " answers are not as due");
    if (wrong != 0) {
      System.exit(1);
    }
  }

  private static CircuitWays places(int... loads) {
    CircuitWays x = new CircuitWays();
    for (int load : loads) {
      x.node(load);
    }
    return x;
  }

  /** Rows of three: from, to, cost. */
  private static CircuitWays arcs(CircuitWays x, int... rows) {
    for (int i = 0; i < rows.length; i += 3) {
      x.arc(rows[i], rows[i + 1], rows[i + 2]);
    }
    return x;
  }

  private static CircuitWays allArcs(CircuitWays x, int cost) {
    for (int a = 0; a < x.count(0); a++) {
      for (int b = 0; b < x.count(0); b++) {
        x.arc(a, b, cost);
      }
    }
    return x;
  }

  private static CircuitWays row(CircuitWays x, int... numbers) {
    x.keep(0);
    for (int v : numbers) {
      x.put(v);
    }
    return x;
  }

  private static void firstIs(String what, CircuitWays x, int... numbers) {
    due(what + " first(-1)", x.first(-1), numbers.length);
    for (int i = 0; i < numbers.length; i++) {
      due(what + " first(" + i + ")", x.first(i), numbers[i]);
    }
    due(what + " first behind its end", x.first(numbers.length), BAD);
    due(what + " first(-2)", x.first(-2), BAD);
  }

  private static void newObject() {
    CircuitWays x = new CircuitWays();
    int[] counts = {1, 0, 0, 1, 1000, 0, 0};
    for (int i = 0; i < counts.length; i++) {
      due("1 count(" + i + ")", x.count(i), counts[i]);
    }
    due("1 best", x.best(), 0);
    due("1 many", x.many(), 1);
    due("1 first", x.first(-1), 0);
    due("1 check", x.check(), 0);
    due("1 circle", x.circle(-1), 0);
    due("1 weight", x.weight(0, 0), 0);
    due("1 next", x.next(0, -1), -1);
  }

  private static void node() {
    CircuitWays x = new CircuitWays();
    due("2 load 101", x.node(101), BAD);
    due("2 load -1", x.node(-1), BAD);
    due("2 load low", x.node(LOW), BAD);
    due("2 load high", x.node(HIGH), BAD);
    due("2 none made", x.count(0), 1);
    for (int i = 1; i <= 8; i++) {
      due("2 node " + i, x.node(i % 2 == 0 ? 0 : 100), i);
    }
    due("2 full", x.node(5), FULL);
    due("2 bad ahead of full", x.node(101), BAD);
    due("2 nine nodes", x.count(0), 9);
    due("2 may not be left out", x.price(8, -1), -1);

    CircuitWays loaded = allArcs(places(60, 41), 1);
    loaded.rule(1, 100);
    due("2 loads count", loaded.best(), NONE);
    loaded.rule(1, 101);
    due("2 loads fit", loaded.best(), 3);
  }

  private static void arc() {
    CircuitWays x = places(0, 0);
    due("3 new", x.arc(0, 1, 5), NONE);
    due("3 again", x.arc(0, 1, -7), 5);
    due("3 the other way", x.arc(1, 0, 1000), NONE);
    due("3 most", x.arc(1, 0, -1000), 1000);
    due("3 least", x.arc(1, 0, 0), -1000);
    due("3 zero", x.arc(1, 0, 1), 0);
    due("3 cost 1001", x.arc(0, 1, 1001), BAD);
    due("3 cost -1001", x.arc(0, 1, -1001), BAD);
    due("3 cost low", x.arc(0, 1, LOW), BAD);
    due("3 cost high", x.arc(0, 1, HIGH), BAD);
    due("3 to itself", x.arc(1, 1, 1), BAD);
    due("3 no node 3", x.arc(0, 3, 1), BAD);
    due("3 no node -1", x.arc(-1, 0, 1), BAD);
    due("3 far nodes", x.arc(LOW, HIGH, 1), BAD);
    due("3 node 8 is not there", x.arc(8, 0, 1), BAD);
    due("3 unchanged", x.arc(0, 1, -7), -7);
    due("3 two arcs", x.count(1), 2);
  }

  private static void lose() {
    CircuitWays x = arcs(places(0, 0), 0, 1, 5, 1, 0, -6);
    due("4 not there", x.lose(0, 2), NONE);
    due("4 there", x.lose(0, 1), 5);
    due("4 gone", x.lose(0, 1), NONE);
    due("4 the other way stays", x.lose(1, 0), -6);
    due("4 anew", x.arc(0, 1, 3), NONE);
    due("4 itself", x.lose(2, 2), BAD);
    due("4 no node", x.lose(0, 3), BAD);
    due("4 no node", x.lose(-1, 0), BAD);
    due("4 far", x.lose(HIGH, LOW), BAD);
    due("4 left", x.count(1), 1);
  }

  private static void price() {
    CircuitWays x = places(0, 0);
    due("5 first", x.price(1, 0), -1);
    due("5 then", x.price(1, 2000), 0);
    due("5 taken back", x.price(1, -1), 2000);
    due("5 again", x.price(1, 7), -1);
    due("5 house", x.price(0, 7), BAD);
    due("5 node 3", x.price(3, 7), BAD);
    due("5 node -1", x.price(-1, 7), BAD);
    due("5 2001", x.price(1, 2001), BAD);
    due("5 -2", x.price(1, -2), BAD);
    due("5 low", x.price(1, LOW), BAD);
    due("5 high", x.price(HIGH, 1), BAD);
    due("5 the other one has none", x.best(), NONE);
    x.price(2, 5);
    due("5 both out", x.best(), 12);
    x.price(1, -1);
    due("5 not any more", x.best(), NONE);
  }

  private static void ahead() {
    CircuitWays x = allArcs(places(0, 0, 0), 1);
    due("6 new", x.ahead(3, 1, true), 0);
    due("6 again", x.ahead(3, 1, true), 1);
    firstIs("6", x, 2, 3, 1);
    due("6 many", x.many(), 3);
    due("6 the other way, too", x.ahead(1, 3, true), 0);
    due("6 then neither goes", x.best(), NONE);
    x.price(1, 4);
    due("6 one of them out is not enough", x.best(), NONE);
    x.price(3, 5);
    due("6 both left out", x.best(), 11);
    due("6 off", x.ahead(1, 3, false), 1);
    due("6 off again", x.ahead(1, 3, false), 0);
    due("6 off", x.ahead(3, 1, false), 1);
    due("6 as before", x.many(), 6);
    due("6 house", x.ahead(0, 1, true), BAD);
    due("6 house", x.ahead(1, 0, true), BAD);
    due("6 itself", x.ahead(1, 1, true), BAD);
    due("6 no node", x.ahead(4, 1, true), BAD);
    due("6 no node", x.ahead(1, -1, false), BAD);
    due("6 far", x.ahead(LOW, HIGH, true), BAD);
    due("6 none", x.count(2), 0);

    CircuitWays y = allArcs(places(0, 0), 1);
    y.rule(0, 2);
    y.ahead(1, 2, true);
    y.rule(2, 1);
    due("6 the same round", y.many(), 1);
    firstIs("6 the same round", y, 1, 2);
    y.price(2, 1);
    due("6 the one ahead may go alone", y.many(), 2);
    firstIs("6 the one ahead alone", y, 1);
  }

  private static void rule() {
    CircuitWays x = new CircuitWays();
    due("7 most", x.rule(0, 8), 1);
    due("7 most", x.rule(0, 1), 8);
    due("7 most 0", x.rule(0, 0), BAD);
    due("7 most 9", x.rule(0, 9), BAD);
    due("7 room", x.rule(1, 0), 1000);
    due("7 room", x.rule(1, 1000), 0);
    due("7 room -1", x.rule(1, -1), BAD);
    due("7 room 1001", x.rule(1, 1001), BAD);
    due("7 open", x.rule(2, 1), 0);
    due("7 open", x.rule(2, 0), 1);
    due("7 open 2", x.rule(2, 2), BAD);
    due("7 open -1", x.rule(2, -1), BAD);
    due("7 what 3", x.rule(3, 1), BAD);
    due("7 what -1", x.rule(-1, 1), BAD);
    due("7 what low", x.rule(LOW, 1), BAD);
    due("7 v high", x.rule(1, HIGH), BAD);
    due("7 most stays", x.count(3), 1);
    due("7 room stays", x.count(4), 1000);
    due("7 open stays", x.count(5), 0);
  }

  private static void best() {
    CircuitWays x = places(0, 0);
    due("8 no arcs", x.best(), NONE);
    arcs(x, 0, 1, 4, 1, 2, 3);
    due("8 no way back", x.best(), NONE);
    x.rule(2, 1);
    due("8 open", x.best(), 7);
    x.rule(2, 0);
    x.arc(2, 0, -1000);
    due("8 there and back", x.best(), -993);
    arcs(x, 0, 2, 1, 2, 1, -1000, 1, 0, -1000);
    due("8 the other way round is less", x.best(), -1999);
    x.price(1, 0);
    due("8 out is worse", x.best(), -1999);
    x.arc(2, 1, 1000);
    due("8 out is better", x.best(), -999);
    x.node(0);
    due("8 a node more, no arc to it", x.best(), NONE);

    CircuitWays far = allArcs(places(0, 0, 0, 0, 0, 0, 0, 0), 1000);
    due("8 most of one round", far.best(), 9000);
    allArcs(far, -1000);
    far.rule(0, 8);
    due("8 least of all", far.best(), -16000);
    due("8 least of all, many", far.many(), 1);
    firstIs("8", far, 1, 0, 2, 0, 3, 0, 4, 0, 5, 0, 6, 0, 7, 0, 8);

    CircuitWays out = places(1, 1, 1, 1, 1, 1, 1, 1);
    for (int v = 1; v <= 8; v++) {
      out.price(v, 2000);
    }
    due("8 all left out", out.best(), 16000);
    firstIs("8 all left out", out);
  }

  private static void roomAndMost() {
    CircuitWays x = allArcs(places(5, 5, 5), 1);
    x.rule(1, 10);
    due("8 one round has no room", x.best(), NONE);
    x.rule(0, 2);
    due("8 two rounds", x.best(), 5);
    due("8 two rounds, many", x.many(), 6);
    firstIs("8 two rounds", x, 1, 0, 2, 3);
    x.rule(1, 9);
    due("8 three are needed", x.best(), NONE);
    x.rule(0, 3);
    due("8 three rounds", x.best(), 6);
    due("8 three rounds, many", x.many(), 1);
    x.rule(1, 4);
    due("8 none fits", x.best(), NONE);
    CircuitWays y = allArcs(places(0, 0), 1);
    y.rule(1, 0);
    due("8 no load needs no room", y.best(), 3);
  }

  private static void many() {
    CircuitWays x = allArcs(places(0, 0, 0, 0, 0, 0, 0, 0), 0);
    due("9 orders of eight", x.many(), 40320);
    x.rule(0, 8);
    due("9 sets of rows of eight", x.many(), 394353);
    x.rule(0, 2);
    due("9 one or two rows of eight", x.many(), 40320 + 141120);
    for (int v = 1; v <= 8; v++) {
      x.price(v, 0);
    }
    x.rule(0, 1);
    due("9 rows of some of eight", x.many(), 109601);
    x.rule(0, 8);
    due("9 sets of rows of some of eight", x.many(), 1 + 8 + 28 * 3 + 56 * 13 + 70 * 73 + 56 * 501 + 28 * 4051
        + 8 * 37633 + 394353);
    CircuitWays y = places(0);
    due("9 no plan", y.many(), 0);
    y.price(1, 2);
    due("9 left out", y.many(), 1);
    arcs(y, 0, 1, 1, 1, 0, 1);
    due("9 left out or not", y.many(), 2);
    y.rule(0, 3);
    due("9 more rounds than places", y.many(), 2);
    y.price(1, 3);
    due("9 only the least", y.many(), 1);
  }

  private static void first() {
    CircuitWays x = places(0, 0);
    due("10 no plan", x.first(-1), NONE);
    due("10 no plan, ahead of bad", x.first(-2), NONE);
    due("10 no plan, ahead of bad", x.first(HIGH), NONE);
    allArcs(x, 1);
    firstIs("10", x, 1, 2);
    due("10 low", x.first(LOW), BAD);
    due("10 high", x.first(HIGH), BAD);
    x.arc(1, 2, 2);
    firstIs("10 only the other is best", x, 2, 1);
    x.price(1, 1);
    x.price(2, 1);
    firstIs("10 nothing is first", x);
    due("10 nothing, but a plan", x.first(0), BAD);
  }

  private static void firstPrefersTheLesser() {
    CircuitWays x = allArcs(places(0, 0, 0), 0);
    x.rule(0, 3);
    firstIs("10 a 0 ahead of a node", x, 1, 0, 2, 0, 3);
    x.rule(0, 2);
    firstIs("10 a 0 ahead of a node, two rounds", x, 1, 0, 2, 3);
    x.lose(0, 2);
    firstIs("10 no arc to 2", x, 1, 0, 3, 2);
    x.price(2, 0);
    firstIs("10 the shorter one", x, 1, 0, 3);
    x.price(3, 0);
    firstIs("10 shorter still", x, 1);
    x.price(1, 0);
    firstIs("10 nothing", x);

    CircuitWays later = allArcs(places(0, 0, 0), 1);
    later.rule(0, 2);
    later.rule(2, 1);
    arcs(later, 0, 1, 9, 2, 1, 9);
    firstIs("10 the least node in a later round", later, 2, 0, 3, 1);
  }

  private static void with() {
    CircuitWays x = arcs(places(0, 0), 0, 1, 4, 1, 2, 3, 2, 0, 6, 0, 2, 9, 2, 1, 9, 1, 0, 9);
    due("11 in the best", x.with(1, 2), 13);
    due("11 from the house", x.with(0, 2), 27);
    due("11 to the house", x.with(1, 0), 27);
    due("11 itself", x.with(1, 1), BAD);
    due("11 no node", x.with(0, 3), BAD);
    due("11 no node", x.with(-1, 0), BAD);
    due("11 far", x.with(HIGH, LOW), BAD);
    x.rule(0, 2);
    due("11 two rounds would be 28", x.with(1, 0), 27);
    x.arc(0, 2, 1);
    due("11 two rounds are less", x.with(1, 0), 19);
    x.rule(2, 1);
    due("11 open, to the house", x.with(1, 0), NONE);
    due("11 open", x.with(0, 1), 5);
    x.rule(2, 0);
    x.lose(2, 1);
    due("11 no arc", x.with(2, 1), NONE);
    x.ahead(1, 2, true);
    due("11 arc, but no plan", x.with(0, 2), NONE);
    x.price(1, 1);
    x.price(2, 1);
    due("11 left out counts", x.with(1, 0), 14);
    due("11 best is nothing", x.best(), 2);
    CircuitWays full = allArcs(places(50, 60), 1);
    full.rule(1, 100);
    full.price(1, 0);
    full.price(2, 0);
    due("11 no room", full.with(1, 2), NONE);
    due("11 room for one", full.with(2, 0), 2);
  }

  private static void without() {
    CircuitWays x = allArcs(places(0, 0, 0), 2);
    due("12 no price", x.without(1), NONE);
    x.price(1, 100);
    due("12 price", x.without(1), 106);
    due("12 best has it", x.best(), 8);
    due("12 another one", x.without(2), NONE);
    x.ahead(1, 2, true);
    due("12 ahead of one that can't be left out", x.without(1), NONE);
    x.price(2, 50);
    due("12 ahead, both out", x.without(1), 154);
    due("12 the later one alone", x.without(2), 56);
    due("12 house", x.without(0), BAD);
    due("12 no node", x.without(4), BAD);
    due("12 no node", x.without(-1), BAD);
    due("12 far", x.without(HIGH), BAD);
    due("12 far", x.without(LOW), BAD);
  }

  private static void filter() {
    CircuitWays x = arcs(places(0, 0), 0, 1, 4, 1, 2, 3, 2, 0, 6, 0, 2, 9, 2, 1, 9, 1, 0, 9);
    due("13 all are in one", x.filter(27), 0);
    due("13 one way round", x.filter(26), 3);
    due("13 these stay", x.count(1), 3);
    due("13 best", x.best(), 13);
    due("13 just the best", x.filter(13), 0);
    due("13 none is good enough", x.filter(12), 3);
    due("13 none stays", x.count(1), 0);
    due("13 no plan", x.best(), NONE);

    CircuitWays y = allArcs(places(0, 0), 1);
    y.rule(2, 1);
    due("13 open: the ways back go", y.filter(HIGH), 2);
    due("13 open: again", y.filter(HIGH), 0);
    due("13 lowest", y.filter(LOW), 4);
    due("13 no arcs", y.filter(HIGH), 0);

    CircuitWays n = arcs(places(0), 0, 1, -5, 1, 0, -6);
    due("13 below 0", n.filter(-11), 0);
    due("13 below 0", n.filter(-12), 2);

    CircuitWays out = allArcs(places(0, 0), 5);
    out.price(1, 1);
    out.price(2, 1);
    due("13 only out is good enough", out.filter(2), 6);
    due("13 best is out", out.best(), 2);
  }

  private static void weight() {
    CircuitWays x = places(0);
    due("14 house", x.weight(0, 1000), 0);
    due("14 house again", x.weight(0, -1000), 1000);
    due("14 node", x.weight(1, 3), 0);
    due("14 node again", x.weight(1, 0), 3);
    due("14 1001", x.weight(1, 1001), BAD);
    due("14 -1001", x.weight(1, -1001), BAD);
    due("14 no node", x.weight(2, 0), BAD);
    due("14 no node", x.weight(-1, 0), BAD);
    due("14 far", x.weight(HIGH, LOW), BAD);
    due("14 unchanged", x.weight(0, 0), -1000);
    due("14 unchanged", x.weight(1, 5), 0);
  }

  /** Four nodes: inner edges 1-2 of 3, 1-3 of 2, 2-3 of 3; at the house 1 of 5, 2 of 4, 3 of 5. */
  private static CircuitWays treeNet() {
    return arcs(places(0, 0, 0), 1, 2, 3, 2, 1, 8, 3, 1, 2, 2, 3, 9, 3, 2, 3, 0, 1, 5, 2, 0, 4, 0, 3, 7, 3, 0, 5);
  }

  private static void bound() {
    CircuitWays small = arcs(places(0), 0, 1, 1, 1, 0, 1);
    due("15 two nodes", small.bound(), NONE);
    small.node(0);
    arcs(small, 0, 2, 2);
    due("15 not joined", small.bound(), NONE);
    arcs(small, 2, 1, -3);
    due("15 three nodes", small.bound(), 0);
    small.lose(0, 2);
    due("15 one edge at the house", small.bound(), NONE);

    CircuitWays x = treeNet();
    due("15 four nodes", x.bound(), 2 + 3 + 4 + 5);
    x.weight(0, 10);
    due("15 the house's weight is even", x.bound(), 14);
    x.weight(2, -2);
    due("15 weights change the tree", x.bound(), (3 - 2) + (3 - 2) + (4 + 10 - 2) + (5 + 10) - 2 * 8);
    x.weight(3, 100);
    due("15 weights", x.bound(), (3 - 2) + (3 - 2 + 100) + (4 + 10 - 2) + (5 + 10) - 2 * 108);
  }

  private static void edge() {
    CircuitWays x = places(0);
    due("16 no tree, ahead of bad", x.edge(-1, 7), NONE);
    x = treeNet();
    int[] edges = {1, 3, 1, 2, 0, 2, 0, 1};
    for (int k = 0; k < 4; k++) {
      due("16 edge " + k + ", lesser", x.edge(k, 0), edges[2 * k]);
      due("16 edge " + k + ", other", x.edge(k, 1), edges[2 * k + 1]);
    }
    due("16 edge 4", x.edge(4, 0), BAD);
    due("16 edge -1", x.edge(-1, 0), BAD);
    due("16 what 2", x.edge(0, 2), BAD);
    due("16 what -1", x.edge(0, -1), BAD);
    due("16 far", x.edge(HIGH, LOW), BAD);
    due("16 far", x.edge(LOW, 0), BAD);
    x.weight(1, 1);
    due("16 the weight makes another one", x.edge(1, 0), 2);
    due("16 the weight makes another one", x.edge(1, 1), 3);
    due("16 at the house, too", x.edge(3, 1), 3);

    CircuitWays even = allArcs(places(0, 0, 0, 0), 7);
    int[] star = {1, 2, 1, 3, 1, 4, 0, 1, 0, 2};
    for (int k = 0; k < 5; k++) {
      due("16 even edge " + k + ", lesser", even.edge(k, 0), star[2 * k]);
      due("16 even edge " + k + ", other", even.edge(k, 1), star[2 * k + 1]);
    }
    CircuitWays nine = allArcs(places(0, 0, 0, 0, 0, 0, 0, 0), 1);
    due("16 the last of nine", nine.edge(8, 1), 2);
    due("16 no tenth", nine.edge(9, 1), BAD);
  }

  private static void degree() {
    CircuitWays x = places(0);
    due("17 no tree", x.degree(1), NONE);
    due("17 bad ahead of no tree", x.degree(2), BAD);
    x = treeNet();
    int[] degrees = {2, 3, 2, 1};
    for (int v = 0; v < 4; v++) {
      due("17 degree of " + v, x.degree(v), degrees[v]);
    }
    due("17 no node", x.degree(4), BAD);
    due("17 no node", x.degree(-1), BAD);
    due("17 far", x.degree(HIGH), BAD);
    due("17 far", x.degree(LOW), BAD);
  }

  private static void pairing() {
    CircuitWays x = new CircuitWays();
    due("18 the house alone", x.pairing(), NONE);
    x.node(0);
    x.arc(0, 1, 3);
    due("18 no arc from 1", x.pairing(), NONE);
    x.arc(1, 0, -5);
    due("18 there and back", x.pairing(), -2);
    x.node(0);
    due("18 none to 2", x.pairing(), NONE);
    arcs(x, 1, 2, 1, 2, 0, 1);
    due("18 round", x.pairing(), 5);
    arcs(x, 0, 2, 7, 2, 1, 7);
    due("18 the other way round would be 9", x.pairing(), 5);
    x.arc(2, 1, 1);
    due("18 the other way round is less", x.pairing(), 3);
    x.node(0);
    arcs(x, 2, 3, -20, 3, 2, -20);
    due("18 two circles", x.pairing(), -42);
    due("18 which is no bound of a plan", x.best(), NONE);
    CircuitWays nine = allArcs(places(0, 0, 0, 0, 0, 0, 0, 0), -1000);
    due("18 nine", nine.pairing(), -9000);
  }

  private static void next() {
    CircuitWays x = places(0, 0);
    due("19 first", x.next(0, 1), -1);
    due("19 then", x.next(0, 2), 1);
    due("19 none", x.next(0, -1), 2);
    due("19 again", x.next(0, 1), -1);
    due("19 to the house", x.next(1, 0), -1);
    due("19 itself", x.next(1, 1), BAD);
    due("19 -2", x.next(1, -2), BAD);
    due("19 no node", x.next(1, 3), BAD);
    due("19 no node", x.next(3, 1), BAD);
    due("19 no node", x.next(-1, 1), BAD);
    due("19 no node, none", x.next(-1, -1), BAD);
    due("19 no node, none", x.next(3, -1), BAD);
    due("19 far", x.next(LOW, HIGH), BAD);
    due("19 unchanged", x.next(1, 2), 0);
  }

  private static void circle() {
    CircuitWays x = places(0, 0, 0, 0, 0, 0, 0, 0);
    due("20 none", x.circle(-1), 0);
    due("20 none, the first", x.circle(0), BAD);
    x.next(0, 5);
    x.next(5, 3);
    due("20 no end", x.circle(-1), 0);
    x.next(3, 5);
    due("20 a tail leads into it", x.circle(-1), 1);
    due("20 without the tail", x.circle(0), 1 << 3 | 1 << 5);
    x.next(8, 1);
    x.next(1, 7);
    x.next(7, 8);
    due("20 two", x.circle(-1), 2);
    due("20 by the least node", x.circle(0), 1 << 1 | 1 << 7 | 1 << 8);
    due("20 the other", x.circle(1), 1 << 3 | 1 << 5);
    due("20 behind", x.circle(2), BAD);
    due("20 -2", x.circle(-2), BAD);
    due("20 far", x.circle(LOW), BAD);
    due("20 far", x.circle(HIGH), BAD);
    for (int v = 0; v <= 8; v++) {
      x.next(v, (v + 1) % 9);
    }
    due("20 all in one", x.circle(0), 511);
    due("20 one", x.circle(-1), 1);
    for (int v = 0; v < 8; v++) {
      x.next(v, v ^ 1);
    }
    due("20 four pairs", x.circle(-1), 4);
    due("20 the last", x.circle(3), 3 << 6);
  }

  private static void nearest() {
    CircuitWays x = arcs(places(0, 0, 0, 0, 0), 0, 1, 1, 1, 2, 1, 1, 3, 1, 2, 4, 1, 3, 4, 1);
    due("21 the house", x.nearest(0), NONE);
    due("21 from the house", x.nearest(1), 0);
    due("21 behind 1", x.nearest(2), 1);
    due("21 two ways from 1", x.nearest(4), 1);
    due("21 can't be come to", x.nearest(5), NONE);
    x.arc(5, 2, 1);
    due("21 arcs from what can't be come to", x.nearest(2), 1);
    x.lose(1, 3);
    due("21 one way", x.nearest(4), 2);
    x.arc(4, 5, 1);
    due("21 the nearest of four", x.nearest(5), 4);
    x.arc(0, 5, 1);
    due("21 a way past all", x.nearest(5), 0);
    due("21 now also past 1", x.nearest(2), 0);
    x.arc(4, 0, 1);
    due("21 the house, with a way back", x.nearest(0), NONE);
    due("21 no node", x.nearest(6), BAD);
    due("21 no node", x.nearest(-1), BAD);
    due("21 far", x.nearest(HIGH), BAD);
    due("21 far", x.nearest(LOW), BAD);
  }

  private static void put() {
    CircuitWays x = places(0, 0);
    due("22 node", x.put(2), 1);
    due("22 house", x.put(0), 2);
    due("22 twice", x.put(2), 3);
    due("22 no node yet", x.put(3), BAD);
    due("22 9", x.put(9), BAD);
    due("22 -1", x.put(-1), BAD);
    due("22 far", x.put(HIGH), BAD);
    due("22 far", x.put(LOW), BAD);
    x.node(0);
    due("22 a node now", x.put(3), 4);
    for (int i = 5; i <= 20; i++) {
      due("22 number " + i, x.put(0), i);
    }
    due("22 full", x.put(1), FULL);
    due("22 bad ahead of full", x.put(4), BAD);
    due("22 twenty", x.count(6), 20);
  }

  private static void keep() {
    CircuitWays x = row(allArcs(places(0, 0), 1), 1, 2, 0);
    due("23 4 of 3", x.keep(4), BAD);
    due("23 -1", x.keep(-1), BAD);
    due("23 far", x.keep(HIGH), BAD);
    due("23 far", x.keep(LOW), BAD);
    due("23 all", x.keep(3), 3);
    due("23 two", x.keep(2), 3);
    due("23 the first two", x.check(), 3);
    due("23 none", x.keep(0), 2);
    due("23 none of none", x.keep(0), 0);
    due("23 empty", x.count(6), 0);
    due("23 1 of none", x.keep(1), BAD);
  }

  private static void check() {
    CircuitWays x = allArcs(places(10, 20, 30), 1);
    arcs(x, 0, 1, 5, 1, 2, 7, 2, 0, 11);
    x.rule(0, 2);
    due("24 nothing, but no prices", x.check(), NONE);
    due("24 one is missing", row(x, 1, 2).check(), NONE);
    x.price(3, 100);
    due("24 one is left out", row(x, 1, 2).check(), 123);
    due("24 two rounds", row(x, 3, 0, 1, 2).check(), 25);
    due("24 in any order", row(x, 1, 2, 0, 3).check(), 25);
    due("24 three rounds", row(x, 1, 0, 2, 0, 3).check(), NONE);
    due("24 a 0 at the front", row(x, 0, 1, 2).check(), NONE);
    due("24 a 0 at the end", row(x, 1, 2, 0).check(), NONE);
    due("24 two 0", row(x, 1, 0, 0, 2).check(), NONE);
    due("24 a 0 alone", row(x, 0).check(), NONE);
    due("24 a node twice", row(x, 1, 2, 1).check(), NONE);
    due("24 a node in two rounds", row(x, 1, 2, 0, 1).check(), NONE);
    x.rule(1, 30);
    due("24 just enough room", row(x, 1, 2, 0, 3).check(), 25);
    x.rule(1, 29);
    due("24 no room", row(x, 1, 2).check(), NONE);
    x.rule(1, 1000);
    x.ahead(2, 1, true);
    due("24 ahead, but later", row(x, 1, 2).check(), NONE);
    due("24 ahead", row(x, 3, 2, 1).check(), 4);
    due("24 ahead, in another round", row(x, 2, 0, 3, 1).check(), NONE);
    x.rule(2, 1);
    due("24 open", row(x, 3, 2, 1).check(), 3);
    x.lose(1, 0);
    due("24 open needs no arc back", x.check(), 3);
    x.rule(2, 0);
    due("24 no arc back", x.check(), NONE);
    x.price(1, 1);
    x.price(2, 2);
    due("24 nothing", row(x).check(), 103);
    due("24 the row stays", row(x, 2, 3).check(), 1 + 1 + 1 + 1);
    due("24 and again", x.check(), 4);
  }

  private static void insert() {
    CircuitWays x = arcs(places(0, 0, 0), 0, 1, 5, 1, 2, 5, 2, 0, 5, 0, 3, 9, 3, 1, 9, 1, 3, 1, 3, 2, 1, 2, 3, 9, 3, 0, 9);
    due("25 into nothing: not yet a plan", x.insert(3), NONE);
    row(x, 1, 2);
    due("25 in the middle", x.insert(3), 1);
    due("25 the row stays", x.count(6), 2);
    due("25 is in it", x.insert(2), NONE);
    allArcs(x, 1);
    due("25 the first of even ones", x.insert(3), 0);
    x.ahead(2, 3, true);
    due("25 only behind 2", x.insert(3), 2);
    row(x, 1, 0);
    x.price(3, 5);
    due("25 one round at the most", x.insert(2), NONE);
    x.rule(0, 2);
    due("25 behind the 0", x.insert(2), 2);
    row(x, 0, 1);
    due("25 ahead of the 0", x.insert(2), 0);
    row(x, 1, 0, 0, 1);
    due("25 hopeless", x.insert(2), NONE);
    due("25 house", x.insert(0), BAD);
    due("25 no node", x.insert(4), BAD);
    due("25 no node", x.insert(-1), BAD);
    due("25 far", x.insert(HIGH), BAD);
    due("25 far", x.insert(LOW), BAD);
    for (int i = x.count(6); i < 19; i++) {
      x.put(0);
    }
    due("25 nineteen", x.insert(3), NONE);
    x.put(0);
    due("25 full", x.insert(3), FULL);
    due("25 bad ahead of full", x.insert(0), BAD);
    CircuitWays y = arcs(places(0), 0, 1, 1, 1, 0, 1);
    due("25 into nothing", y.insert(1), 0);
  }

  private static void count() {
    CircuitWays x = allArcs(places(0, 0, 0), 1);
    x.lose(1, 2);
    x.ahead(1, 2, true);
    x.ahead(1, 3, true);
    x.ahead(2, 3, true);
    x.ahead(2, 3, true);
    x.rule(0, 4);
    x.rule(1, 17);
    x.rule(2, 1);
    row(x, 1, 0);
    int[] counts = {4, 11, 3, 4, 17, 1, 2};
    for (int i = 0; i < counts.length; i++) {
      due("26 count(" + i + ")", x.count(i), counts[i]);
    }
    due("26 7", x.count(7), BAD);
    x.ahead(3, 1, true);
    due("26 a pair both ways is told twice, and counts twice", x.count(2), 4);
    due("26 -1", x.count(-1), BAD);
    due("26 far", x.count(HIGH), BAD);
    due("26 far", x.count(LOW), BAD);
  }

  private static void badChangesNothing() {
    CircuitWays x = treeNet();
    int[] odd = {LOW, -2, 4, 9, 32, 33, HIGH};
    int plan = x.best();
    int tree = x.bound();
    row(x, 1, 2, 3);
    for (int a : odd) {
      due("bad arc", x.arc(a, 1, 0), BAD);
      due("bad arc", x.arc(1, a, 0), BAD);
      due("bad lose", x.lose(a, 1), BAD);
      due("bad lose", x.lose(1, a), BAD);
      due("bad price", x.price(a, 0), BAD);
      due("bad ahead", x.ahead(a, 1, true), BAD);
      due("bad ahead", x.ahead(1, a, true), BAD);
      due("bad rule", x.rule(a, 1), BAD);
      due("bad weight", x.weight(a, 1), BAD);
      due("bad next", x.next(a, 1), BAD);
      due("bad put", x.put(a), BAD);
      due("bad keep", x.keep(a), BAD);
    }
    due("bad: best stays", x.best(), plan);
    due("bad: bound stays", x.bound(), tree);
    due("bad: arcs stay", x.count(1), 9);
    due("bad: none ahead", x.count(2), 0);
    due("bad: no circle", x.circle(-1), 0);
    due("bad: the row stays", x.count(6), 3);
  }
}
