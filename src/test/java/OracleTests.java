import java.util.ArrayList;
import java.util.Arrays;
import java.util.List;
import java.util.Random;

/** Made-up runs of calls, each answer against a slow search that follows the words of the document. */
public final class OracleTests {
  private static final int NONE = -1000000, BAD = -2000000, FULL = -3000000;
  private static int wrong = 0;
  private static int calls = 0;
  private static int runCalls = 0;

  public static void main(String[] args) {
    for (int seed = 0; seed < 1500; seed++) {
      run(seed, 1 + seed % 5, 200);
    }
    for (int seed = 2000; seed < 2060; seed++) {
      run(seed, 6, 200);
    }
    for (int seed = 3000; seed < 3012; seed++) {
      run(seed, 7, 150);
    }
    for (int seed = 4000; seed < 4004; seed++) {
      run(seed, 8, 110);
    }
    System.out.println(wrong == 0 ? "all of " + calls + " answers are as due" : wrong + " answers are not as due");
    if (wrong != 0) {
      System.exit(1);
    }
  }

  /** A net of so many places, most of its arcs there, then calls of all kinds. */
  private static void run(int seed, int places, int length) {
    runCalls = 0;
    Random random = new Random(seed);
    CircuitWays x = new CircuitWays();
    Slow slow = new Slow();
    int spread = new int[] {1, 3, 10, 1000}[random.nextInt(4)];
    int density = 3 + random.nextInt(8);
    int made = places == 8 ? 8 : Math.max(0, places - random.nextInt(2));
    for (int i = 0; i < made; i++) {
      call(seed, x, slow, 0, random.nextInt(30), 0, 0);
    }
    for (int a = 0; a <= made; a++) {
      for (int b = 0; b <= made; b++) {
        if (a != b && random.nextInt(10) < density) {
          call(seed, x, slow, 1, a, b, random.nextInt(2 * spread + 1) - spread / 2);
        }
      }
    }
    for (int i = 0; i < length && runCalls < 450; i++) {
      oneCall(seed, x, slow, random, places, spread);
    }
  }

  private static final int[] ODD = {Integer.MIN_VALUE, Integer.MAX_VALUE, -2, -1, 9, 20, 21, 31, 32, 33, 1001, -1001,
      2001, -3, 10, 100000};

  /** Calls that change the net are rarer: behind each of them the slow search starts anew. */
  private static void oneCall(int seed, CircuitWays x, Slow slow, Random random, int places, int spread) {
    int kind = random.nextInt(25);
    boolean changes = kind <= 5 || kind == 11;
    if (changes && random.nextInt(3) == 0 || kind == 0 && slow.size > places) {
      kind = 6 + random.nextInt(5);
    }
    if (kind == 11 && random.nextInt(3) != 0) {
      kind = 9;
    }
    int n = slow.size;
    int a = random.nextInt(n);
    int b = random.nextInt(n);
    int c = 0;
    switch (kind) {
      case 0: a = random.nextInt(120) - 10; break;
      case 1: c = random.nextInt(2 * spread + 1) - spread / 2; break;
      case 3: b = random.nextInt(2) == 0 ? random.nextInt(2 * spread + 1) - 1 : random.nextInt(6) - 1; break;
      case 4: c = random.nextInt(5) < 3 ? 1 : 0; break;
      case 5: a = random.nextInt(3); b = ruleValue(random, a); break;
      case 8: a = random.nextInt(18) - 1; break;
      case 11: a = slow.plans().least == NONE ? 0 : slow.plans().least + random.nextInt(4 * spread + 2); break;
      case 12: b = random.nextInt(2 * spread + 1) - spread; break;
      case 14: a = random.nextInt(n + 2) - 1; b = random.nextInt(2); break;
      case 17: b = random.nextInt(n + 1) - 1; break;
      case 18: a = random.nextInt(5) - 1; break;
      case 20: a = random.nextInt(3) == 0 ? 0 : a; break;
      case 21: a = slow.row.isEmpty() ? 0 : random.nextInt(slow.row.size() + 1); break;
      case 24: a = random.nextInt(9) - 1; break;
      default: break;
    }
    if (random.nextInt(25) == 0) {
      a = ODD[random.nextInt(ODD.length)];
    }
    if (random.nextInt(25) == 0) {
      b = ODD[random.nextInt(ODD.length)];
    }
    if (random.nextInt(40) == 0 && kind != 4) {
      c = ODD[random.nextInt(ODD.length)];
    }
    if (kind == 21 && random.nextInt(4) == 0) {
      writeGoodRow(seed, x, slow, random);
    } else {
      call(seed, x, slow, kind, a, b, c);
    }
  }

  private static int ruleValue(Random random, int what) {
    return what == 0 ? random.nextInt(10) : what == 1 ? (random.nextInt(3) == 0 ? 1000 : random.nextInt(90)) : random.nextInt(3);
  }

  /** A row with all places in it, so that it is now and then a plan. */
  private static void writeGoodRow(int seed, CircuitWays x, Slow slow, Random random) {
    call(seed, x, slow, 21, 0, 0, 0);
    int[] first = slow.plans().first;
    if (first != null && random.nextInt(2) == 0) {
      int skip = random.nextInt(2) == 0 ? -1 : random.nextInt(first.length + 1);
      for (int i = 0; i < first.length; i++) {
        if (i != skip) {
          call(seed, x, slow, 20, first[i], 0, 0);
        }
      }
    } else {
      List<Integer> left = new ArrayList<>();
      for (int v = 1; v < slow.size; v++) {
        left.add(v);
      }
      while (!left.isEmpty()) {
        call(seed, x, slow, 20, left.remove(random.nextInt(left.size())), 0, 0);
        if (random.nextInt(3) == 0) {
          call(seed, x, slow, 20, 0, 0, 0);
        }
      }
    }
    call(seed, x, slow, 22, 0, 0, 0);
    for (int v = 1; v < slow.size; v++) {
      call(seed, x, slow, 23, v, 0, 0);
    }
  }

  private static final String[] NAMES = {"node", "arc", "lose", "price", "ahead", "rule", "best", "many", "first",
      "with", "without", "filter", "weight", "bound", "edge", "degree", "pairing", "next", "circle", "nearest", "put",
      "keep", "check", "insert", "count"};

  private static void call(int seed, CircuitWays x, Slow s, int kind, int a, int b, int c) {
    int got;
    int want;
    switch (kind) {
      case 0: got = x.node(a); want = s.node(a); break;
      case 1: got = x.arc(a, b, c); want = s.arc(a, b, c); break;
      case 2: got = x.lose(a, b); want = s.lose(a, b); break;
      case 3: got = x.price(a, b); want = s.price(a, b); break;
      case 4: got = x.ahead(a, b, c == 1); want = s.ahead(a, b, c == 1); break;
      case 5: got = x.rule(a, b); want = s.rule(a, b); break;
      case 6: got = x.best(); want = s.plans().least; break;
      case 7: got = x.many(); want = s.plans().many; break;
      case 8: got = x.first(a); want = s.first(a); break;
      case 9: got = x.with(a, b); want = s.with(a, b); break;
      case 10: got = x.without(a); want = s.without(a); break;
      case 11: got = x.filter(a); want = s.filter(a); break;
      case 12: got = x.weight(a, b); want = s.weight(a, b); break;
      case 13: got = x.bound(); want = s.bound(); break;
      case 14: got = x.edge(a, b); want = s.edge(a, b); break;
      case 15: got = x.degree(a); want = s.degree(a); break;
      case 16: got = x.pairing(); want = s.pairing(); break;
      case 17: got = x.next(a, b); want = s.next(a, b); break;
      case 18: got = x.circle(a); want = s.circle(a); break;
      case 19: got = x.nearest(a); want = s.nearest(a); break;
      case 20: got = x.put(a); want = s.put(a); break;
      case 21: got = x.keep(a); want = s.keep(a); break;
      case 22: got = x.check(); want = s.check(); break;
      case 23: got = x.insert(a); want = s.insert(a); break;
      default: got = x.count(a); want = s.count(a); break;
    }
    calls++;
    runCalls++;
    if (got != want) {
      wrong++;
      if (wrong < 50) {
        System.out.println("seed " + seed + ": " + NAMES[Math.min(kind, 24)] + "(" + a + ", " + b + ", " + c
            + ") answered " + got + ", due is " + want);
      }
    }
  }

  /** All that a search through all plans finds. */
  private static final class Found {
    int least = NONE;
    int many = 0;
    int[] first = null;
    final int[][] with = new int[9][9];
    final int[] without = new int[9];
  }

  private static final class Slow {
    int size = 1;
    final int[] load = new int[9];
    final Integer[][] cost = new Integer[9][9];
    final int[] prices = new int[9];
    final boolean[][] before = new boolean[9][9];
    int most = 1, room = 1000, open = 0;
    final int[] weights = new int[9];
    final int[] nexts = new int[9];
    List<Integer> row = new ArrayList<>();
    private Found found = null;

    Slow() {
      Arrays.fill(prices, -1);
      Arrays.fill(nexts, -1);
    }

    boolean isNode(int v) { return 0 <= v && v < size; }

    int node(int l) {
      if (l < 0 || l > 100) return BAD;
      if (size == 9) return FULL;
      found = null;
      load[size] = l;
      return size++;
    }

    int arc(int a, int b, int c) {
      if (!isNode(a) || !isNode(b) || a == b || Math.abs((long) c) > 1000) return BAD;
      int was = cost[a][b] == null ? NONE : cost[a][b];
      cost[a][b] = c;
      found = null;
      return was;
    }

    int lose(int a, int b) {
      if (!isNode(a) || !isNode(b) || a == b) return BAD;
      int was = cost[a][b] == null ? NONE : cost[a][b];
      cost[a][b] = null;
      found = null;
      return was;
    }

    int price(int v, int p) {
      if (!isNode(v) || v == 0 || p < -1 || p > 2000) return BAD;
      int was = prices[v];
      prices[v] = p;
      found = null;
      return was;
    }

    int ahead(int a, int b, boolean on) {
      if (!isNode(a) || !isNode(b) || a == b || a == 0 || b == 0) return BAD;
      int was = before[a][b] ? 1 : 0;
      before[a][b] = on;
      found = null;
      return was;
    }

    int rule(int what, int v) {
      int was;
      if (what == 0 && v >= 1 && v <= 8) { was = most; most = v; }
      else if (what == 1 && v >= 0 && v <= 1000) { was = room; room = v; }
      else if (what == 2 && (v == 0 || v == 1)) { was = open; open = v; }
      else return BAD;
      found = null;
      return was;
    }

    Found plans() {
      if (found == null) {
        found = new Found();
        for (int[] r : found.with) Arrays.fill(r, NONE);
        Arrays.fill(found.without, NONE);
        search(new int[16], 0, 0, false);
      }
      return found;
    }

    /** All rows of numbers in which no place stands twice and no 0 at the front or next to another 0. */
    private void search(int[] numbers, int length, int roundStart, boolean zeroLast) {
      if (!zeroLast) look(Arrays.copyOf(numbers, length));
      if (length > 0 && !zeroLast && length < 15) {
        numbers[length] = 0;
        search(numbers, length + 1, length + 1, true);
      }
      for (int v = 1; v < size; v++) {
        boolean used = false;
        for (int i = 0; i < length; i++) used |= numbers[i] == v;
        int last = length == roundStart ? 0 : numbers[length - 1];
        boolean falling = length == roundStart && roundStart > 0 && firstOfRound(numbers, roundStart - 2) > v;
        if (!used && !falling && cost[last][v] != null) {
          numbers[length] = v;
          search(numbers, length + 1, roundStart, false);
        }
      }
    }

    private int firstOfRound(int[] numbers, int at) {
      int i = at;
      while (i > 0 && numbers[i - 1] != 0) i--;
      return numbers[i];
    }

    private void look(int[] plan) {
      Integer c = planCost(plan);
      if (c == null) return;
      if (found.least == NONE || c < found.least) {
        found.least = c;
        found.many = 1;
        found.first = plan;
      } else if (c == found.least) {
        found.many++;
        if (Arrays.compare(plan, found.first) < 0) found.first = plan;
      }
      boolean[] in = new boolean[9];
      int last = 0;
      for (int v : plan) {
        in[v] = true;
        if (v != 0 || open == 0) found.with[last][v] = lesser(found.with[last][v], c);
        last = v;
      }
      if (plan.length > 0 && open == 0) found.with[last][0] = lesser(found.with[last][0], c);
      for (int v = 1; v < size; v++) {
        if (!in[v]) found.without[v] = lesser(found.without[v], c);
      }
    }

    private int lesser(int old, int c) { return old == NONE ? c : Math.min(old, c); }

    /** null: no plan. */
    Integer planCost(int[] plan) {
      int[] roundOf = new int[9];
      int[] placeOf = new int[9];
      List<List<Integer>> rounds = new ArrayList<>();
      if (plan.length > 0) rounds.add(new ArrayList<>());
      for (int v : plan) {
        if (v == 0) rounds.add(new ArrayList<>());
        else rounds.get(rounds.size() - 1).add(v);
      }
      if (rounds.size() > most) return null;
      int total = 0;
      for (int r = 0; r < rounds.size(); r++) {
        List<Integer> round = rounds.get(r);
        if (round.isEmpty()) return null;
        int loads = 0;
        int last = 0;
        for (int i = 0; i < round.size(); i++) {
          int v = round.get(i);
          if (roundOf[v] != 0) return null;
          roundOf[v] = r + 1;
          placeOf[v] = i;
          loads += load[v];
          if (cost[last][v] == null) return null;
          total += cost[last][v];
          last = v;
        }
        if (loads > room) return null;
        if (open == 0) {
          if (cost[last][0] == null) return null;
          total += cost[last][0];
        }
      }
      for (int v = 1; v < size; v++) {
        if (roundOf[v] == 0) {
          if (prices[v] < 0) return null;
          total += prices[v];
        }
        for (int b = 1; b < size; b++) {
          if (before[v][b] && roundOf[b] != 0 && (roundOf[v] != roundOf[b] || placeOf[v] >= placeOf[b])) return null;
        }
      }
      return total;
    }

    int first(int i) {
      int[] plan = plans().first;
      if (plan == null) return NONE;
      if (i == -1) return plan.length;
      return i >= 0 && i < plan.length ? plan[i] : BAD;
    }

    int with(int a, int b) { return !isNode(a) || !isNode(b) || a == b ? BAD : plans().with[a][b]; }

    int without(int v) { return !isNode(v) || v == 0 ? BAD : plans().without[v]; }

    int filter(int limit) {
      int gone = 0;
      Found f = plans();
      for (int a = 0; a < size; a++) {
        for (int b = 0; b < size; b++) {
          if (cost[a][b] != null && (f.with[a][b] == NONE || f.with[a][b] > limit)) {
            cost[a][b] = null;
            gone++;
          }
        }
      }
      found = null;
      return gone;
    }

    int weight(int v, int w) {
      if (!isNode(v) || Math.abs((long) w) > 1000) return BAD;
      int was = weights[v];
      weights[v] = w;
      return was;
    }

    /** Rows of cost, lesser node, other node; null: no tree. */
    private List<int[]> tree() {
      List<int[]> inner = new ArrayList<>();
      List<int[]> house = new ArrayList<>();
      for (int a = 0; a < size; a++) {
        for (int b = a + 1; b < size; b++) {
          if (cost[a][b] != null || cost[b][a] != null) {
            int c = cost[a][b] == null ? cost[b][a] : cost[b][a] == null ? cost[a][b] : Math.min(cost[a][b], cost[b][a]);
            (a == 0 ? house : inner).add(new int[] {c + weights[a] + weights[b], a, b});
          }
        }
      }
      inner.sort(Arrays::compare);
      house.sort(Arrays::compare);
      List<int[]> chosen = new ArrayList<>();
      for (int[] e : inner) {
        if (!joined(chosen, e[1], e[2], new boolean[9])) chosen.add(e);
      }
      if (size < 3 || chosen.size() != size - 2 || house.size() < 2) return null;
      chosen.add(house.get(0));
      chosen.add(house.get(1));
      return chosen;
    }

    private boolean joined(List<int[]> edges, int a, int b, boolean[] seen) {
      if (a == b) return true;
      seen[a] = true;
      for (int[] e : edges) {
        int to = e[1] == a ? e[2] : e[2] == a ? e[1] : -1;
        if (to >= 0 && !seen[to] && joined(edges, to, b, seen)) return true;
      }
      return false;
    }

    int bound() {
      List<int[]> t = tree();
      if (t == null) return NONE;
      int c = 0;
      for (int[] e : t) c += e[0];
      for (int v = 0; v < size; v++) c -= 2 * weights[v];
      return c;
    }

    int edge(int k, int what) {
      List<int[]> t = tree();
      if (t == null) return NONE;
      return k < 0 || k >= t.size() || what < 0 || what > 1 ? BAD : t.get(k)[what + 1];
    }

    int degree(int v) {
      if (!isNode(v)) return BAD;
      List<int[]> t = tree();
      if (t == null) return NONE;
      int d = 0;
      for (int[] e : t) d += e[1] == v || e[2] == v ? 1 : 0;
      return d;
    }

    private int leastPairing;

    int pairing() {
      leastPairing = NONE;
      pairFrom(0, new boolean[9], 0);
      return leastPairing;
    }

    private void pairFrom(int a, boolean[] taken, int c) {
      if (a == size) {
        leastPairing = lesser(leastPairing, c);
        return;
      }
      for (int b = 0; b < size; b++) {
        if (!taken[b] && cost[a][b] != null) {
          taken[b] = true;
          pairFrom(a + 1, taken, c + cost[a][b]);
          taken[b] = false;
        }
      }
    }

    int next(int a, int b) {
      if (!isNode(a) || a == b || b != -1 && !isNode(b)) return BAD;
      int was = nexts[a];
      nexts[a] = b;
      return was;
    }

    int circle(int k) {
      List<Integer> list = new ArrayList<>();
      for (int v = 0; v < size; v++) {
        int bits = 0;
        int w = v;
        do {
          bits |= 1 << w;
          w = nexts[w];
        } while (w >= 0 && (bits & 1 << w) == 0);
        if (w == v && Integer.numberOfTrailingZeros(bits) == v) list.add(bits);
      }
      return k == -1 ? list.size() : k >= 0 && k < list.size() ? list.get(k) : BAD;
    }

    int nearest(int v) {
      if (!isNode(v)) return BAD;
      if (v == 0) return NONE;
      int leading = leading(v);
      if (leading == 0) return NONE;
      int answer = -1;
      for (int d = 0; d < size; d++) {
        if ((leading & 1 << d) != 0 && (d == 0 ? leading == 1 : (leading & ~(1 << d) & ~leading(d)) == 0)) {
          if (answer >= 0) throw new IllegalStateException("two nearest");
          answer = d;
        }
      }
      return answer;
    }

    private int onAllWays;

    /** The nodes on all ways to v, without v; 0: there is no way. */
    private int leading(int v) {
      onAllWays = -1;
      walk(0, 1, v);
      return onAllWays == -1 ? 0 : onAllWays & ~(1 << v);
    }

    private void walk(int at, int seen, int v) {
      if (at == v) {
        onAllWays &= seen;
        return;
      }
      for (int b = 0; b < size; b++) {
        if ((seen & 1 << b) == 0 && cost[at][b] != null) walk(b, seen | 1 << b, v);
      }
    }

    int put(int v) {
      if (!isNode(v)) return BAD;
      if (row.size() == 20) return FULL;
      row.add(v);
      return row.size();
    }

    int keep(int n) {
      int was = row.size();
      if (n < 0 || n > was) return BAD;
      row = new ArrayList<>(row.subList(0, n));
      return was;
    }

    private int[] array(List<Integer> list) { return list.stream().mapToInt(i -> i).toArray(); }

    int check() {
      Integer c = planCost(array(row));
      return c == null ? NONE : c;
    }

    int insert(int v) {
      if (!isNode(v) || v == 0) return BAD;
      if (row.size() == 20) return FULL;
      Integer least = null;
      int place = NONE;
      for (int i = 0; i <= row.size(); i++) {
        List<Integer> t = new ArrayList<>(row);
        t.add(i, v);
        Integer c = planCost(array(t));
        if (c != null && (least == null || c < least)) {
          least = c;
          place = i;
        }
      }
      return place;
    }

    int count(int what) {
      int n = 0;
      for (int a = 0; a < size; a++) {
        for (int b = 0; b < size; b++) {
          n += what == 1 && cost[a][b] != null || what == 2 && before[a][b] ? 1 : 0;
        }
      }
      int[] all = {size, n, n, most, room, open, row.size()};
      return what >= 0 && what < 7 ? all[what] : BAD;
    }
  }
}
