/**
 * Each sentence of the document that names a boundary case, with runs of calls on new objects of its own. A run is
 * written as calls with the answers that are due, such as "node(0)=1 price(1,2001)=BAD"; a call without an answer is
 * made and its answer not looked at. Some words stand for several calls: see 'several'.
 */
public final class BoundaryTests {
  private static final int MOST_CALLS = 512;
  private static int sentences = 0;
  private static int answers = 0;
  private static int wrong = 0;

  private static String saying = "";
  private static CircuitWays x;
  private static int calls;

  public static void main(String[] args) {
    terms();
    theNet();
    plans();
    bounds();
    circlesAndWays();
    aRow();
    BadCalls.all();
    manyCalls();
    System.out.println(sentences + " sentences, " + answers + " answers, " + wrong + " not as due");
    if (wrong != 0) {
      System.exit(1);
    }
  }

  // ---- the sentences

  private static void terms() {
    says("Terms: A ROUND is a row of one or more NODES",
        "nodes(1) all(1) rule(0,2) row(1)  check()=2 row(1,0) check()=NONE row(0,1) check()=NONE row(0) check()=NONE",
        "nodes(2) all(1) rule(0,8) row(1,0,0,2) check()=NONE row(1,0,2) check()=4",
        "nodes(1) all(1) rule(0,2) rule(2,1) row(1) check()=1 row(1,0) check()=NONE row(0,1) check()=NONE row(0) check()=NONE",
        "nodes(1) price(1,0) rule(0,8) rule(2,1) row(0) check()=NONE row(0,0) check()=NONE row() check()=0 many()=1");
    says("Terms: not the HOUSE, each once",
        "nodes(2) all(1) rule(0,8) row(1,2,1) check()=NONE row(1,1) check()=NONE row(1,2) check()=3");
    says("Terms: with ARCS from the HOUSE to the first",
        "nodes(2) all(1) lose(0,1) lose(0,2) best()=NONE row(1,2) check()=NONE arc(0,1,5) best()=7 check()=7");
    says("Terms: from each to the next one",
        "nodes(2) all(1) lose(1,2) row(1,2) check()=NONE best()=3 written(2,1) lose(2,1) best()=NONE");
    says("Terms: and (not, if it is OPEN) from the last to the HOUSE",
        "nodes(1) arc(0,1,4) best()=NONE row(1) check()=NONE rule(2,1) best()=4 check()=4",
        "nodes(1) arcs(0,1,4,1,0,-3) best()=1 rule(2,1) best()=4 rule(2,0) best()=1");
    says("Terms: their LOADS together are no more than ROOM",
        "node(50) node(50) all(1) rule(1,100) best()=3 row(1,2) check()=3 rule(1,99) best()=NONE check()=NONE",
        "node(0) node(0) all(1) rule(1,0) best()=3 row(1,2) check()=3",
        "node(50) node(50) all(1) rule(1,50) rule(0,2) best()=4 row(1,0,2) check()=4 rule(1,49) best()=NONE");
    says("Terms: A NODE a may be AHEAD of b (of more than one, and the other way round, too)",
        "nodes(3) all(1) ahead(3,1,true)=0 ahead(3,2,true)=0 many()=2 written(3,1,2)",
        "nodes(3) all(1) ahead(2,1,true)=0 ahead(3,1,true)=0 many()=2 written(2,3,1)",
        "nodes(2) all(1) ahead(1,2,true)=0 ahead(2,1,true)=0 best()=NONE price(1,7) best()=NONE price(2,8) best()=15");
    says("Terms: A PLAN is some ROUNDS (none is allowed)",
        "best()=0 many()=1 check()=0", "nodes(1) price(1,7) best()=7 many()=1 check()=7 written()");
    says("Terms: MOST at most",
        "nodes(2) arcs(0,1,1,1,0,1,0,2,1,2,0,1) best()=NONE row(1,0,2) check()=NONE rule(0,2) best()=4 check()=4",
        "nodes(8) all(0) rule(0,8) row(1,0,2,0,3,0,4,0,5,0,6,0,7,0,8) check()=0 rule(0,7) check()=NONE",
        "nodes(2) all(1) rule(0,8) best()=3 many()=2");
    says("Terms: no NODE in two",
        "nodes(2) all(-9) rule(0,2) row(1,2,0,1) check()=NONE row(1,0,1) check()=NONE row(1,0,2) check()=-36");
    says("Terms: each NODE that is in none is LEFT OUT, and must have a PRICE",
        "nodes(2) all(1) row(1) check()=NONE price(2,0) check()=2 price(2,-1) check()=NONE");
    says("Terms: if a is AHEAD of b, and b is in a ROUND, a is in the same one, earlier",
        "nodes(2) all(1) ahead(1,2,true) row(1,2) check()=3 row(2,1) check()=NONE",
        "nodes(2) all(1) ahead(1,2,true) rule(0,2) row(1,0,2) check()=NONE row(2,0,1) check()=NONE many()=1",
        "nodes(2) all(1) ahead(1,2,true) price(1,0) price(2,0) row(2) check()=NONE row(1) check()=2 row() check()=0",
        "nodes(3) all(1) ahead(1,3,true) row(1,2,3) check()=4 row(3,2,1) check()=NONE many()=3");
    says("Terms: Its COST: those of the ARCS .. (not that back to the HOUSE, if OPEN), and the PRICES of those LEFT OUT",
        "nodes(3) all(10) price(2,3) price(3,4) row(1) check()=27 rule(2,1) check()=17",
        "nodes(2) all(10) rule(2,1) rule(0,2) row(1,0,2) check()=20");
    says("Terms: A PLAN WRITTEN: its ROUNDS, by their first NODES, with a 0 between two",
        "nodes(3) rule(0,2) arcs(0,3,1,3,1,1,1,0,1,0,2,1,2,0,1) many()=1 written(2,0,3,1)",
        "nodes(3) rule(0,3) arcs(0,1,1,1,0,1,0,2,1,2,0,1,0,3,1,3,0,1) written(1,0,2,0,3)");
    says("Terms: ORDER: at the first place where they differ the lesser one first",
        "nodes(3) all(1) many()=6 written(1,2,3)", "nodes(2) all(0) rule(0,2) many()=3 written(1,0,2)",
        "nodes(2) all(0) rule(0,2) rule(2,1) many()=3 written(1,0,2)", "nodes(3) all(0) rule(0,8) rule(2,1) written(1,0,2,0,3)",
        "nodes(3) all(1) arc(1,2,2) many()=4 written(1,3,2)");
    says("Terms: the shorter one, if it is the beginning of the other",
        "nodes(2) all(0) price(2,0) many()=3 written(1)", "nodes(2) all(0) price(1,0) many()=3 written(1,2)",
        "nodes(1) all(0) price(1,0) many()=2 written()");
    says("Terms: AN EDGE of two NODES is there if there is an ARC one way or the other",
        "nodes(2) arcs(1,0,1,2,1,2,0,2,4) bound()=7", "nodes(2) arcs(0,1,1,1,2,2,2,0,4) bound()=7");
    says("Terms: its COST is that of the ARC, the lesser of both",
        "nodes(2) arcs(0,1,1,1,0,9,1,2,9,2,1,2,0,2,4,2,0,4) bound()=7");
    says("Terms: the WEIGHTS of both NODES (whole numbers, 0 at first)",
        "nodes(2) weight(0,0)=0 weight(1,0)=0 weight(2,0)=0",
        "nodes(3) arcs(1,2,5,1,3,5,2,3,5,0,1,1,0,2,1,0,3,1) edges(1,2,1,3,0,1,0,2) weight(1,1) edges(2,3,1,2,0,2,0,3)");
    says("Terms: THE TREE: for at least three NODES",
        "bound()=NONE", "nodes(1) all(1) bound()=NONE degree(0)=NONE edge(0,0)=NONE", "nodes(2) all(1) bound()=3");
    says("Terms: EDGES that join all of them without a circle",
        "nodes(3) all(9) arcs(1,2,1,2,3,1,1,3,2) edges(1,2,2,3,0,1,0,2)",
        "nodes(4) arcs(1,2,1,3,4,1,0,1,1,0,2,1) bound()=NONE arc(4,1,5)=NONE bound()=9");
    says("Terms: always the least one by COST, then its lesser NODE, then the other one",
        "nodes(4) all(3) edges(1,2,1,3,1,4,0,1,0,2)",
        "nodes(4) all(3) arc(4,3,2) edges(3,4,1,2,1,3,0,1,0,2)",
        "nodes(4) all(9) arcs(2,3,1,1,4,1,3,4,2,1,2,2) edges(1,4,2,3,1,2,0,1,0,2)");
    says("Terms: then the two least of those at the HOUSE (by COST, then NODE)",
        "nodes(3) all(5) arcs(3,0,1,0,2,4) edges(1,2,1,3,0,3,0,2)",
        "nodes(3) all(5) arc(0,3,-5) edges(1,2,1,3,0,3,0,1)",
        "nodes(3) arcs(1,2,1,2,3,1,0,3,1) bound()=NONE arc(2,0,1) bound()=4 lose(0,3) bound()=NONE");
    says("Terms: less 2 for each WEIGHT of all NODES",
        "nodes(2) all(0) weight(0,5) bound()=0 weight(1,7) bound()=0 weight(2,-1) bound()=0",
        "nodes(3) all(0) weight(3,10) bound()=-10 weight(3,-10) bound()=-10 weight(1,4) bound()=-14");
    says("Terms: THE PAIRING: for each NODE (the HOUSE, too) one ARC from it, and one to it",
        "nodes(1) arc(0,1,1) pairing()=NONE lose(0,1) arc(1,0,1) pairing()=NONE arc(0,1,2) pairing()=3",
        "nodes(3) arcs(0,1,1,1,0,1,2,3,1) pairing()=NONE arc(3,2,5) pairing()=8",
        "nodes(2) arcs(1,2,1,2,1,1) pairing()=NONE");
    says("Terms: A CIRCLE: NODES each of which is NEXT of another one of it, round once",
        "nodes(3) next(0,1) next(1,2) next(2,1) next(3,1) circle(-1)=1 circle(0)=6",
        "nodes(2) next(0,1) next(1,2) circle(-1)=0 next(2,0) circle(-1)=1 circle(0)=7");
    says("Terms: by their least NODES",
        "nodes(5) next(1,2) next(2,1) next(0,5) next(5,0) next(4,3) next(3,4) circle(0)=33 circle(1)=6 circle(2)=24",
        "nodes(3) next(3,0) next(0,3) next(2,1) next(1,2) circle(0)=9 circle(1)=6");
    says("Terms: d LEADS to v .. each way there comes through d",
        "nodes(3) arcs(0,1,1,0,2,1,1,3,1) nearest(3)=1 arc(2,3,1) nearest(3)=0");
    says("Terms: THE NEAREST: the one to which all others that lead to v lead, too",
        "nodes(8) arcs(0,8,1,8,7,1,7,6,1,6,5,1,5,4,1,4,3,1,3,2,1,2,1,1) nearest(1)=2 nearest(7)=8 nearest(8)=0",
        "nodes(4) arcs(0,3,1,3,1,1,1,2,1,1,4,1,2,4,1) nearest(4)=1 nearest(2)=1 nearest(1)=3");
    says("Terms: THE ROW at hand has up to 20 numbers 0 .. 8",
        "nodes(8) fill(8,20) count(6)=20 put(8)=FULL keep(19)=20 put(0)=20 put(0)=FULL");
    says("Terms: it is a PLAN, if it is ROUNDS with a 0 between two (in any order), or nothing",
        "nodes(2) rule(0,2) all(1) row(2,0,1) check()=4 row(1,0,2) check()=4 row(1,2) check()=3 row(1,2,0) check()=NONE",
        "check()=0 put(0)=1 check()=NONE keep(0)=1 check()=0");
  }

  private static void theNet() {
    says("1 The HOUSE alone", "count(0)=1 weight(0,0)=0 weight(1,0)=BAD nearest(1)=BAD with(0,1)=BAD node(0)=1");
    says("1 no ARCS", "count(1)=0 nodes(8) count(1)=0 lose(0,1)=NONE lose(8,0)=NONE lose(7,8)=NONE pairing()=NONE");
    says("1 MOST 1", "count(3)=1 nodes(2) arcs(0,1,1,1,0,1,0,2,1,2,0,1) best()=NONE rule(0,1)=1");
    says("1 ROOM 1,000", "count(4)=1000 rule(1,1000)=1000", "nodes(8,100) all(1) best()=9");
    says("1 not OPEN", "count(5)=0 nodes(1) arc(0,1,1) best()=NONE rule(2,0)=0");
    says("1 an empty ROW", "count(6)=0 keep(0)=0 keep(1)=BAD check()=0 put(0)=1");

    says("2 A NODE more, with a LOAD (0 .. 100)",
        "node(0)=1 node(100)=2 all(1) rule(1,100) best()=3 rule(1,99) best()=NONE",
        "node(100)=1 all(1) rule(1,99) best()=NONE rule(1,100) best()=2", "node(0)=1 all(1) rule(1,0) best()=2");
    says("2 that may not be LEFT OUT", "node(5)=1 best()=NONE check()=NONE without(1)=NONE price(1,-1)=-1");
    says("2 its number", "node(7)=1 node(7)=2 node(7)=3 node(7)=4 node(7)=5 node(7)=6 node(7)=7 node(7)=8 count(0)=9");
    says("2 BAD: another LOAD", "node(-1)=BAD count(0)=1", "node(101)=BAD count(0)=1",
        "node(LOW)=BAD node(HIGH)=BAD count(0)=1 node(3)=1");
    says("2 FULL: 8 besides the HOUSE", "nodes(7) node(0)=8 node(0)=FULL node(100)=FULL count(0)=9",
        "nodes(8) node(0)=FULL arc(9,0,1)=BAD put(9)=BAD");
    says("2 BAD first, then FULL", "nodes(8) node(101)=BAD node(-1)=BAD node(HIGH)=BAD node(1)=FULL");

    says("3 has a COST (- 1,000 .. 1,000)", "nodes(1) arc(0,1,1000)=NONE arc(0,1,-1000)=1000 arc(0,1,0)=-1000");
    says("3 from now on: what it had",
        "nodes(1) arc(0,1,5)=NONE arc(0,1,5)=5 arc(0,1,6)=5 arc(1,0,1)=NONE best()=7 arc(0,1,-8)=6 best()=-7");
    says("3 BAD: no two NODES",
        "nodes(1) arc(0,0,1)=BAD arc(1,1,1)=BAD arc(2,0,1)=BAD arc(0,2,1)=BAD arc(-1,0,1)=BAD arc(0,-1,1)=BAD count(1)=0",
        "nodes(8) arc(9,0,1)=BAD arc(8,9,1)=BAD arc(0,9,1)=BAD arc(8,8,1)=BAD count(1)=0 arc(8,7,1)=NONE",
        "nodes(8) arc(LOW,0,1)=BAD arc(0,LOW,1)=BAD arc(HIGH,0,1)=BAD arc(0,HIGH,1)=BAD count(1)=0", "arc(0,0,0)=BAD");
    says("3 BAD: another COST",
        "nodes(1) arc(0,1,5) arc(0,1,1001)=BAD arc(0,1,-1001)=BAD arc(0,1,LOW)=BAD arc(0,1,HIGH)=BAD arc(0,1,0)=5",
        "nodes(1) arc(0,1,1001)=BAD arc(0,1,-1001)=BAD count(1)=0", "nodes(1) arc(0,1,NONE)=BAD count(1)=0");
    says("3 NONE: there was none (it is there now)",
        "nodes(1) arc(0,1,5)=NONE count(1)=1 lose(1,0)=NONE lose(0,1)=5 arc(0,1,6)=NONE count(1)=1 lose(0,1)=6");

    says("4 The ARC from a to b goes: its COST",
        "nodes(2) all(7) lose(1,2)=7 count(1)=5 lose(2,1)=7 best()=NONE", "nodes(1) arc(0,1,0) lose(0,1)=0 count(1)=0",
        "nodes(1) arcs(0,1,-1000,1,0,1000) lose(0,1)=-1000 lose(1,0)=1000 count(1)=0");
    says("4 BAD: no two NODES",
        "nodes(1) all(1) lose(0,0)=BAD lose(1,1)=BAD lose(2,0)=BAD lose(0,2)=BAD lose(-1,1)=BAD lose(1,-1)=BAD count(1)=2",
        "nodes(8) lose(9,0)=BAD lose(0,9)=BAD lose(LOW,1)=BAD lose(1,HIGH)=BAD lose(8,8)=BAD lose(8,0)=NONE");
    says("4 NONE: there is none", "nodes(1) arc(0,1,5) lose(1,0)=NONE lose(0,1)=5 lose(0,1)=NONE count(1)=0");

    says("5 A NODE (not the HOUSE)", "nodes(1) price(0,0)=BAD price(0,-1)=BAD price(1,0)=-1");
    says("5 for a PRICE (0 .. 2,000)",
        "nodes(1) price(1,0)=-1 best()=0 without(1)=0 price(1,2000)=0 best()=2000 check()=2000 price(1,1)=2000");
    says("5 or not (- 1)", "nodes(1) price(1,3) best()=3 price(1,-1)=3 best()=NONE without(1)=NONE price(1,3)=-1");
    says("5 what was told before", "nodes(2) price(1,4)=-1 price(2,5)=-1 price(1,4)=4 price(1,6)=4 price(2,-1)=5");
    says("5 BAD: none such",
        "nodes(1) price(1,7) price(1,-2)=BAD price(1,2001)=BAD price(1,LOW)=BAD price(1,HIGH)=BAD price(1,7)=7",
        "nodes(1) price(2,7)=BAD price(-1,7)=BAD price(9,7)=BAD price(LOW,7)=BAD price(HIGH,7)=BAD node(0)=2 price(2,0)=-1");

    says("6 a is AHEAD of b, or not: 1 it was, 0",
        "nodes(2) all(1) many()=2 ahead(2,1,true)=0 many()=1 written(2,1) ahead(2,1,false)=1 many()=2 written(1,2)",
        "nodes(2) ahead(1,2,false)=0 ahead(1,2,true)=0 ahead(1,2,true)=1 ahead(2,1,false)=0 ahead(1,2,false)=1 "
            + "ahead(1,2,false)=0 ahead(1,2,true)=0",
        "nodes(8) ahead(8,7,true)=0 ahead(7,8,true)=0 ahead(8,7,false)=1 ahead(7,8,false)=1 count(2)=0");
    says("6 BAD: no two NODES but the HOUSE",
        "nodes(2) ahead(0,1,true)=BAD ahead(1,0,true)=BAD ahead(0,0,true)=BAD ahead(1,1,true)=BAD count(2)=0",
        "nodes(2) ahead(3,1,true)=BAD ahead(1,3,true)=BAD ahead(-1,1,true)=BAD ahead(1,-1,true)=BAD count(2)=0",
        "nodes(8) ahead(9,1,true)=BAD ahead(1,9,true)=BAD ahead(33,1,true)=BAD ahead(1,33,true)=BAD count(2)=0",
        "nodes(2) ahead(LOW,1,false)=BAD ahead(1,HIGH,false)=BAD ahead(2,2,false)=BAD ahead(0,2,false)=BAD");

    says("7 what 0: MOST (1 .. 8)",
        "rule(0,8)=1 count(3)=8 rule(0,1)=8 count(3)=1 rule(0,0)=BAD rule(0,9)=BAD rule(0,-1)=BAD count(3)=1",
        "rule(0,2) rule(0,HIGH)=BAD rule(0,LOW)=BAD count(3)=2 rule(0,2)=2");
    says("7 1: ROOM (0 .. 1,000)",
        "rule(1,0)=1000 count(4)=0 rule(1,1000)=0 count(4)=1000 rule(1,-1)=BAD rule(1,1001)=BAD count(4)=1000",
        "rule(1,2) rule(1,HIGH)=BAD rule(1,LOW)=BAD count(4)=2 rule(1,2)=2");
    says("7 2: OPEN (0, 1)",
        "rule(2,1)=0 count(5)=1 rule(2,1)=1 rule(2,2)=BAD rule(2,-1)=BAD count(5)=1 rule(2,0)=1 count(5)=0",
        "rule(2,HIGH)=BAD rule(2,LOW)=BAD count(5)=0");
    says("7 BAD: none such", "rule(-1,1)=BAD rule(3,1)=BAD rule(LOW,1)=BAD rule(HIGH,1)=BAD "
        + "count(3)=1 count(4)=1000 count(5)=0");
  }

  private static void plans() {
    says("8 The COST of THE BEST PLANS",
        "best()=0", "nodes(8) all(1000) best()=9000 all(-1000) best()=-9000", "nodes(8) all(-1000) rule(0,8) best()=-16000",
        "nodes(8) prices(2000) best()=16000", "nodes(8) prices(0) best()=0 all(0) best()=0",
        "nodes(8) all(-1000) rule(0,8) rule(2,1) best()=-8000");
    says("8 NONE: there is no PLAN",
        "nodes(1) best()=NONE price(1,0) best()=0", "nodes(8) all(1) node(0)=FULL best()=9",
        "nodes(7) all(1) best()=8 node(0)=8 best()=NONE price(8,1) best()=9", "node(1) all(1) rule(1,0) best()=NONE");

    says("9 How many BEST PLANS there are",
        "many()=1", "nodes(8) all(0) many()=40320 rule(0,8) many()=394353 prices(0) many()=842832",
        "nodes(8) prices(5) many()=1", "nodes(2) all(1) many()=2 arc(1,2,2) many()=1 arc(1,2,0) many()=1",
        "nodes(1) all(1) price(1,2) many()=2 price(1,3) many()=1 price(1,1) many()=1");
    says("9 (0: no PLAN)", "nodes(1) many()=0 all(1) many()=1 rule(1,0) many()=1", "node(1) all(1) rule(1,0) many()=0");

    says("10 Number i of THE BEST PLAN that is first in ORDER, WRITTEN",
        "nodes(3) all(1) first(0)=1 first(1)=2 first(2)=3 arc(1,2,9) arc(0,1,9) first(0)=2 first(1)=1 first(2)=3",
        "nodes(8) all(0) rule(0,8) written(1,0,2,0,3,0,4,0,5,0,6,0,7,0,8)", "nodes(8) all(0) written(1,2,3,4,5,6,7,8)");
    says("10 i = - 1: how many", "first(-1)=0", "nodes(1) all(1) first(-1)=1 price(1,0) first(-1)=0",
        "nodes(8) all(0) rule(0,8) first(-1)=15");
    says("10 BAD: none such", "first(0)=BAD first(1)=BAD first(-2)=BAD",
        "nodes(2) all(1) first(1)=2 first(2)=BAD first(3)=BAD first(-2)=BAD first(LOW)=BAD first(HIGH)=BAD",
        "nodes(8) all(0) rule(0,8) first(14)=8 first(15)=BAD first(18)=BAD", "nodes(1) price(1,9) first(0)=BAD");
    says("10 NONE: there is no PLAN (ahead of BAD)",
        "nodes(1) first(-1)=NONE first(0)=NONE first(1)=NONE first(-2)=NONE first(LOW)=NONE first(HIGH)=NONE",
        "nodes(1) all(1) first(-1)=1 lose(0,1) first(-1)=NONE first(0)=NONE first(-2)=NONE");

    says("11 The least COST of a PLAN in one ROUND of which the ARC from a to b is",
        "nodes(2) all(1) arc(1,2,50) with(1,2)=52 with(2,1)=3 with(0,1)=52 with(0,2)=3 with(1,0)=3 with(2,0)=52",
        "nodes(1) all(5) price(1,0) best()=0 with(0,1)=10 with(1,0)=10",
        "nodes(8) all(-1000) rule(0,8) with(8,7)=-15000 with(0,8)=-16000",
        "nodes(3) all(1) rule(0,2) arc(3,0,40) with(3,0)=43", "nodes(2) all(1) arc(1,2,0) rule(2,1) with(1,2)=1");
    says("11 BAD: no two NODES",
        "nodes(2) all(1) with(0,0)=BAD with(2,2)=BAD with(3,0)=BAD with(0,3)=BAD with(-1,0)=BAD with(0,-1)=BAD",
        "nodes(8) with(9,0)=BAD with(0,9)=BAD with(LOW,HIGH)=BAD with(HIGH,LOW)=BAD with(8,8)=BAD with(8,7)=NONE");
    says("11 NONE: there is none (no such ARC", "nodes(2) all(1) lose(1,2) with(1,2)=NONE with(2,1)=3",
        "nodes(1) all(1) with(0,1)=2 lose(1,0) with(0,1)=NONE with(1,0)=NONE",
        "node(1) all(1) rule(1,0) price(1,0) best()=0 with(0,1)=NONE",
        "nodes(2) all(1) prices(0) ahead(2,1,true) with(0,1)=NONE with(1,2)=NONE with(2,1)=3");
    says("11 of OPEN ROUNDS: b the HOUSE)", "nodes(1) all(1) with(1,0)=2 rule(2,1) with(1,0)=NONE with(0,1)=1",
        "nodes(2) all(1) rule(0,2) rule(2,1) with(1,0)=NONE with(2,0)=NONE with(1,1)=BAD");

    says("12 The least COST of a PLAN in which a NODE is LEFT OUT",
        "nodes(2) all(1) price(1,0) without(1)=2 price(1,2000) without(1)=2002 best()=3",
        "nodes(1) price(1,0) without(1)=0", "nodes(8) prices(2000) without(8)=16000 all(-1000) without(8)=-6000");
    says("12 BAD: none such, the HOUSE",
        "nodes(1) price(1,1) without(0)=BAD without(2)=BAD without(-1)=BAD without(LOW)=BAD without(HIGH)=BAD",
        "without(0)=BAD without(1)=BAD", "nodes(8) without(9)=BAD without(33)=BAD without(8)=NONE");
    says("12 NONE: there is none", "nodes(2) all(1) without(1)=NONE price(1,1) without(1)=3 without(2)=NONE",
        "nodes(2) price(1,1) without(1)=NONE price(2,1) without(1)=2",
        "nodes(2) all(1) price(1,1) ahead(1,2,true) without(1)=NONE price(2,1) without(1)=2 price(1,-1) without(2)=3");

    says("13 All ARCS go that are in no PLAN of at most this COST",
        "nodes(2) all(1) arc(1,2,5) filter(7)=0 filter(6)=3 count(1)=3 best()=3 filter(3)=0 filter(2)=3 count(1)=0",
        "nodes(1) all(-5) filter(-10)=0 filter(-11)=2", "nodes(1) all(1) price(1,0) filter(2)=0 filter(1)=2 best()=0",
        "nodes(2) all(1) filter(HIGH)=0 filter(LOW)=6", "nodes(2) arcs(0,1,1,1,2,1) filter(HIGH)=2 count(1)=0",
        "nodes(1) all(1) rule(2,1) filter(HIGH)=1 lose(1,0)=NONE best()=1", "filter(HIGH)=0 filter(LOW)=0",
        "nodes(8) all(1000) rule(0,8) filter(16000)=0 filter(15999)=0 filter(9000)=0 filter(8999)=72");
    says("13 (all of them are looked at first): how many",
        "nodes(3) all(1) arcs(1,2,9,2,3,9,3,1,9) filter(12)=3 count(1)=9 lose(1,2)=NONE lose(2,3)=NONE lose(3,1)=NONE",
        "nodes(2) all(1) lose(2,0) filter(HIGH)=2 count(1)=3 filter(HIGH)=0 filter(2)=3 filter(2)=0");
  }

  private static void bounds() {
    says("14 The WEIGHT of a NODE (- 1,000 .. 1,000): what it was",
        "nodes(8) weight(0,1000)=0 weight(0,-1000)=1000 weight(0,0)=-1000 weight(8,1000)=0 weight(8,5)=1000 weight(0,0)=0");
    says("14 BAD: none such",
        "nodes(1) weight(1,7) weight(1,1001)=BAD weight(1,-1001)=BAD weight(1,LOW)=BAD weight(1,HIGH)=BAD weight(1,0)=7",
        "nodes(1) weight(2,7)=BAD weight(-1,7)=BAD weight(LOW,7)=BAD weight(HIGH,7)=BAD node(0)=2 weight(2,0)=0",
        "nodes(8) weight(9,0)=BAD weight(8,0)=0");

    says("15 THE BOUND of THE TREE",
        "nodes(2) arcs(0,1,1,1,2,2,2,0,4) bound()=7 weight(1,10) bound()=7",
        "nodes(8) all(1000) bound()=9000 all(-1000) bound()=-9000",
        "nodes(8) all(1000) weights(1000) bound()=9000 weights(-1000) bound()=9000",
        "nodes(8) all(-1000) weights(1000) weight(1,-1000) bound()=-21000");
    says("15 NONE: there is none",
        "bound()=NONE", "nodes(1) all(1) bound()=NONE node(0)=2 bound()=NONE arc(2,1,1) bound()=NONE arc(0,2,1) bound()=3",
        "nodes(2) arcs(0,1,1,0,2,1) bound()=NONE arc(1,2,1) bound()=3 lose(1,2) bound()=NONE",
        "nodes(8) all(1) bound()=9", "nodes(7) all(1) bound()=8 node(0)=8 bound()=NONE");

    says("16 Of EDGE k of THE TREE, as they were chosen: its lesser NODE (what 0), the other one (1)",
        "nodes(3) all(9) arcs(3,2,1,3,1,2,3,0,1,2,0,2) edges(2,3,1,3,0,3,0,2)",
        "nodes(2) all(1) edges(1,2,0,1,0,2)", "nodes(8) all(1) edges(1,2,1,3,1,4,1,5,1,6,1,7,1,8,0,1,0,2)");
    says("16 BAD: none such",
        "nodes(2) all(1) edge(2,0)=0 edge(3,0)=BAD edge(3,1)=BAD edge(-1,0)=BAD edge(LOW,0)=BAD edge(HIGH,1)=BAD",
        "nodes(8) all(1) edge(8,1)=2 edge(9,0)=BAD edge(9,1)=BAD");
    says("16 another what", "nodes(2) all(1) edge(0,-1)=BAD edge(0,2)=BAD edge(0,LOW)=BAD edge(0,HIGH)=BAD edge(0,1)=2");
    says("16 NONE: there is no TREE (ahead of BAD)",
        "edge(0,0)=NONE edge(-1,0)=NONE edge(0,2)=NONE edge(HIGH,LOW)=NONE",
        "nodes(2) arcs(0,1,1,0,2,1) edge(0,0)=NONE edge(9,0)=NONE edge(0,9)=NONE arc(1,2,1) edge(0,0)=1 edge(9,0)=BAD",
        "nodes(2) all(1) edge(0,0)=1 lose(0,1) edge(0,0)=1 lose(1,0) edge(0,0)=NONE edge(5,5)=NONE");

    says("17 How many EDGES of THE TREE a NODE has",
        "nodes(2) all(1) degree(0)=2 degree(1)=2 degree(2)=2",
        "nodes(8) all(1) degree(0)=2 degree(1)=8 degree(2)=2 degree(3)=1 degree(8)=1");
    says("17 BAD: none such", "nodes(2) all(1) degree(3)=BAD degree(-1)=BAD degree(LOW)=BAD degree(HIGH)=BAD degree(2)=2",
        "nodes(8) all(1) degree(9)=BAD", "degree(1)=BAD degree(-1)=BAD", "nodes(1) degree(2)=BAD");
    says("17 NONE: there is no TREE", "degree(0)=NONE", "nodes(1) all(1) degree(0)=NONE degree(1)=NONE",
        "nodes(2) arcs(0,1,1,1,2,1) degree(1)=NONE arc(0,2,1) degree(1)=2");

    says("18 The COST of THE PAIRING",
        "nodes(8) all(1000) pairing()=9000 all(-1000) pairing()=-9000",
        "nodes(3) all(9) arcs(0,1,1,1,0,1,2,3,1,3,2,1) pairing()=4 arc(3,2,50) pairing()=20",
        "nodes(1) arcs(0,1,0,1,0,0) pairing()=0");
    says("18 NONE: there is none", "pairing()=NONE", "nodes(1) pairing()=NONE arc(0,1,1) pairing()=NONE",
        "nodes(2) all(1) pairing()=3 lose(2,0) lose(2,1) pairing()=NONE",
        "nodes(2) all(1) lose(0,2) lose(1,2) pairing()=NONE", "nodes(3) arcs(1,0,1,2,0,1,3,0,1,0,1,1,0,2,1,0,3,1) pairing()=NONE",
        "nodes(7) all(1) pairing()=8 node(0)=8 pairing()=NONE");
  }

  private static void circlesAndWays() {
    says("19 NEXT of a is b from now on (b = - 1: none): what it was (- 1)",
        "nodes(2) next(0,1)=-1 next(0,2)=1 next(0,-1)=2 next(0,-1)=-1 next(0,2)=-1 next(2,0)=-1 circle(0)=5",
        "nodes(8) next(8,0)=-1 next(8,7)=0 next(8,-1)=7", "next(0,-1)=-1 next(0,-1)=-1");
    says("19 BAD: a is no NODE",
        "nodes(1) next(2,0)=BAD next(-1,0)=BAD next(-1,-1)=BAD next(2,-1)=BAD next(LOW,0)=BAD next(HIGH,-1)=BAD",
        "nodes(8) next(9,0)=BAD next(9,-1)=BAD next(8,-1)=-1");
    says("19 BAD: b neither a NODE, nor - 1",
        "nodes(1) next(0,1) next(0,2)=BAD next(0,-2)=BAD next(0,LOW)=BAD next(0,HIGH)=BAD next(0,-1)=1",
        "nodes(8) next(0,9)=BAD next(0,8)=-1", "next(0,1)=BAD node(0)=1 next(0,1)=-1");
    says("19 BAD: or b is a", "nodes(1) next(1,0) next(1,1)=BAD next(0,0)=BAD next(1,-1)=0 circle(-1)=0",
        "next(0,0)=BAD circle(-1)=0", "nodes(8) next(8,8)=BAD");

    says("20 CIRCLE k as bits of its NODES",
        "nodes(1) next(0,1) next(1,0) circle(0)=3", "nodes(8) next(7,8) next(8,7) circle(0)=384",
        "nodes(8) nextAll(1) circle(0)=511 circle(-1)=1 next(4,-1) circle(-1)=0",
        "nodes(8) nextAll(3) circle(-1)=3 circle(0)=73 circle(1)=146 circle(2)=292");
    says("20 k = - 1: how many there are", "circle(-1)=0",
        "nodes(7) next(0,1) next(1,0) next(2,3) next(3,2) next(4,5) next(5,4) next(6,7) next(7,6) circle(-1)=4 circle(3)=192",
        "nodes(2) next(1,2) circle(-1)=0 next(2,1) circle(-1)=1 next(2,-1) circle(-1)=0");
    says("20 BAD: none such", "circle(0)=BAD circle(1)=BAD circle(-2)=BAD",
        "nodes(1) next(0,1) next(1,0) circle(0)=3 circle(1)=BAD circle(-2)=BAD circle(LOW)=BAD circle(HIGH)=BAD",
        "nodes(7) next(0,1) next(1,0) next(2,3) next(3,2) next(4,5) next(5,4) next(6,7) next(7,6) circle(4)=BAD");

    says("21 THE NEAREST of those that lead to a NODE",
        "nodes(2) arcs(0,1,1,1,2,1) nearest(1)=0 nearest(2)=1 arc(0,2,1) nearest(2)=0 lose(0,1) nearest(2)=0",
        "nodes(3) arcs(0,1,1,1,2,1,2,1,1,2,3,1,3,0,1) nearest(1)=0 nearest(3)=2",
        "nodes(4) arcs(0,1,1,1,2,1,1,3,1,2,4,1,3,4,1,4,2,1) nearest(2)=1 nearest(4)=1 lose(3,4) nearest(4)=2");
    says("21 BAD: none such", "nearest(1)=BAD nearest(-1)=BAD", "nodes(8) nearest(9)=BAD nearest(LOW)=BAD nearest(HIGH)=BAD",
        "nodes(1) nearest(2)=BAD node(0)=2 nearest(2)=NONE");
    says("21 NONE: the HOUSE", "nearest(0)=NONE", "nodes(1) all(1) nearest(0)=NONE nearest(1)=0");
    says("21 NONE: or it can't be come to",
        "nodes(2) nearest(1)=NONE arcs(1,0,1,1,2,1,2,1,1) nearest(1)=NONE nearest(2)=NONE arc(0,2,1) nearest(1)=2");
  }

  private static void aRow() {
    says("22 A number comes behind THE ROW: how many it has",
        "nodes(2) rule(2,1) all(1) arcs(0,2,5,2,1,9) put(2)=1 put(1)=2 check()=14", "put(0)=1 put(0)=2 count(6)=2");
    says("22 BAD: not 0 .. 8, and a NODE",
        "nodes(8) put(-1)=BAD put(9)=BAD put(LOW)=BAD put(HIGH)=BAD count(6)=0 put(8)=1 put(0)=2",
        "put(1)=BAD put(8)=BAD count(6)=0 put(0)=1 node(0)=1 put(1)=2 put(2)=BAD count(6)=2");
    says("22 FULL: 20", "nodes(1) fill(1,19) put(0)=20 put(0)=FULL put(1)=FULL count(6)=20 keep(20)=20 put(1)=FULL");
    says("22 BAD first, then FULL", "nodes(1) fill(1,20) put(9)=BAD put(-1)=BAD put(2)=BAD put(1)=FULL");

    says("23 THE ROW keeps its first n numbers: how many it had",
        "nodes(2) all(1) arc(0,1,5) row(1,2,0) keep(3)=3 keep(2)=3 check()=7 keep(2)=2 price(2,0) keep(1)=2 check()=6",
        "nodes(1) fill(1,20) keep(20)=20 keep(19)=20 count(6)=19 keep(0)=19 keep(0)=0 count(6)=0",
        "nodes(2) all(1) row(2,1) keep(0)=2 put(1)=1 put(2)=2 arc(1,2,9) check()=11");
    says("23 BAD: another n", "keep(1)=BAD keep(-1)=BAD keep(20)=BAD keep(LOW)=BAD keep(HIGH)=BAD keep(0)=0",
        "nodes(1) row(1,1) keep(3)=BAD keep(-1)=BAD count(6)=2 keep(2)=2", "nodes(1) fill(1,20) keep(21)=BAD count(6)=20");

    says("24 The COST of THE ROW", "check()=0", "nodes(8) all(-1000) rule(0,8) row(8,0,7,0,6,0,5,0,4,0,3,0,2,0,1) check()=-16000",
        "nodes(8) prices(2000) check()=16000", "nodes(1) all(0) row(1) check()=0 arc(0,1,-7) check()=-7");
    says("24 NONE: it is no PLAN", "nodes(1) check()=NONE all(1) row(1) check()=2 put(1)=2 check()=NONE keep(1)=2 check()=2",
        "nodes(8) all(1) fill(0,20) check()=NONE", "node(1) all(1) row(1) check()=2 rule(1,0) check()=NONE",
        "nodes(1) all(1) row(1) check()=2 node(0)=2 check()=NONE price(2,3) check()=5");

    says("25 The first place (0 .. as many as THE ROW has) at which a NODE, put in there, makes THE ROW a PLAN",
        "nodes(1) all(1) insert(1)=0", "nodes(2) all(1) row(1) insert(2)=0 arc(0,2,9) insert(2)=1 arc(1,2,9) insert(2)=0",
        "nodes(8) all(1) rule(0,8) row(1,0,2,0,3,0,4,0,5,0,6,0,7,0) insert(8)=14",
        "nodes(8) all(1) rule(0,8) row(0,1,0,2,0,3,0,4,0,5,0,6,0,7) insert(8)=0",
        "nodes(3) all(1) rule(0,3) row(1,0,0,2) insert(3)=2");
    says("25 of the least COST", "nodes(3) all(5) row(1,2) insert(3)=0 arc(2,3,4) insert(3)=2 arc(1,3,3) insert(3)=1",
        "nodes(2) all(1) row(1) arc(1,2,-1000) insert(2)=1 arc(0,2,-1000) arc(2,1,-1) insert(2)=0");
    says("25 (THE ROW stays.)", "nodes(3) all(1) arc(1,2,7) price(3,0) row(1,2) check()=9 insert(3)=1 check()=9 count(6)=2");
    says("25 BAD: no NODE, the HOUSE", "nodes(1) all(1) insert(0)=BAD insert(2)=BAD insert(-1)=BAD insert(LOW)=BAD insert(HIGH)=BAD",
        "insert(0)=BAD insert(1)=BAD", "nodes(8) insert(9)=BAD insert(8)=NONE");
    says("25 FULL: THE ROW has 20", "nodes(1) all(1) fill(0,19) insert(1)=NONE put(0)=20 insert(1)=FULL keep(0) insert(1)=0");
    says("25 BAD first, then FULL", "nodes(1) fill(0,20) insert(0)=BAD insert(2)=BAD insert(-1)=BAD insert(1)=FULL");
    says("25 NONE: at none", "nodes(2) all(1) insert(1)=NONE row(1) insert(1)=NONE row(1,2) insert(2)=NONE",
        "node(5) node(6) all(1) rule(1,10) row(1) insert(2)=NONE rule(1,11) insert(2)=0",
        "nodes(2) all(1) ahead(1,2,true) ahead(2,1,true) row(1) insert(2)=NONE",
        "nodes(1) insert(1)=NONE arc(0,1,1) insert(1)=NONE arc(1,0,1) insert(1)=0",
        "nodes(2) all(1) row(1,0) insert(2)=NONE rule(0,2) insert(2)=2");

    says("26 0 NODES", "count(0)=1 node(0)=1 count(0)=2 node(101)=BAD count(0)=2 nodes(7) count(0)=9 node(0)=FULL count(0)=9");
    says("26 1 ARCS", "count(1)=0 nodes(8) all(1) count(1)=72 all(2) count(1)=72 lose(8,7) count(1)=71 lose(8,7) count(1)=71");
    says("26 2 pairs of which one is AHEAD of the other",
        "nodes(8) count(2)=0 ahead(8,1,true) count(2)=1 ahead(8,1,true) count(2)=1 ahead(8,2,true) count(2)=2 "
            + "ahead(1,2,true) count(2)=3 ahead(8,1,false) count(2)=2 ahead(8,1,false) count(2)=2");
    says("26 3 MOST, 4 ROOM, 5 OPEN", "rule(0,8) rule(1,0) rule(2,1) count(3)=8 count(4)=0 count(5)=1");
    says("26 6 numbers of THE ROW", "nodes(1) fill(1,20) count(6)=20 put(1)=FULL count(6)=20 keep(0) count(6)=0");
    says("26 BAD: another number", "count(-1)=BAD count(7)=BAD count(LOW)=BAD count(HIGH)=BAD");
  }

  /** An object is used for at most 512 calls: the last of them answers as the first. */
  private static void manyCalls() {
    StringBuilder run = new StringBuilder("nodes(8) all(1) rule(0,8) ");
    for (int i = 0; i < 214; i++) {
      run.append("arc(0,1,").append(i).append(")=").append(i == 0 ? 1 : i - 1).append(" best()=").append(Math.min(i + 8, 9)).append(' ');
    }
    says("An object is used for at most 512 calls after it has been made", run.append("many()=35280 first(0)=2").toString());
    if (calls != MOST_CALLS) {
      fail("this run has " + calls + " calls, " + MOST_CALLS + " are meant");
    }
  }

  /** What is BAD changes nothing; nor does what is only asked, or refused as FULL or NONE. */
  private static final class BadCalls {
    private static final String NET = "node(5)=1 node(6)=2 node(7)=3 arcs(0,1,4,1,2,3,2,3,5,3,0,6,0,2,9,2,1,8,1,3,2,3,2,1,2,0,7) "
        + "price(2,30) price(3,40) ahead(1,3,true) rule(0,2) rule(1,20) weight(0,2) weight(1,-3) next(0,1) next(1,2) "
        + "next(2,0) next(3,1) row(1,2,3) ";
    private static final String[] ODD = {"LOW", "-1000001", "-2", "4", "9", "32", "33", "1025", "HIGH"};

    static void all() {
      for (String odd : ODD) {
        String[] bad = {"arc(@,1,0)", "arc(1,@,0)", "lose(@,1)", "lose(1,@)", "price(@,0)", "ahead(@,1,true)", "ahead(1,@,true)",
            "ahead(@,3,false)", "rule(@,1)", "with(@,1)", "with(1,@)", "without(@)", "weight(@,0)", "degree(@)", "next(@,-1)",
            "next(1,@)", "nearest(@)", "put(@)", "keep(@)", "insert(@)", "first(@)", "edge(@,0)", "edge(0,@)", "circle(@)"};
        for (String call : bad) {
          nothingChanges(call.replace("@", odd) + "=BAD");
        }
      }
      for (String call : ("node(-1) node(101) node(LOW) node(HIGH) arc(1,1,0) arc(0,0,0) arc(0,1,1001) arc(0,1,-1001) "
          + "arc(0,1,LOW) arc(0,1,HIGH) arc(0,3,1001) lose(1,1) lose(0,0) price(0,0) price(2,-2) price(2,2001) price(2,LOW) "
          + "price(2,HIGH) ahead(1,1,true) ahead(0,1,true) ahead(1,0,true) ahead(0,3,false) rule(0,0) rule(0,9) rule(1,-1) "
          + "rule(1,1001) rule(2,-1) rule(2,2) rule(3,1) rule(-1,1) rule(0,LOW) rule(1,HIGH) rule(2,HIGH) with(1,1) with(0,0) "
          + "without(0) weight(1,1001) weight(1,-1001) weight(1,LOW) weight(1,HIGH) next(1,1) next(0,0) next(-1,-1) put(-1) "
          + "keep(-1) insert(0) insert(-1) count(-1) count(7) nearest(-1) degree(-1) edge(-1,0) edge(0,-1)").split(" ")) {
        nothingChanges(call + "=BAD");
      }
      for (String call : ("lose(1,0)=NONE best() many() first(-1) first(0) with(0,1) with(1,0)=NONE without(2) without(1)=NONE "
          + "filter(HIGH)=0 bound() edge(0,0) degree(1) pairing() circle(-1) circle(0) nearest(3) nearest(0)=NONE check() "
          + "insert(2)=NONE count(0)").split(" ")) {
        nothingChanges(call);
      }
    }

    private static void nothingChanges(String call) {
      begin("What is BAD changes nothing: " + call);
      run(NET);
      String known = state();
      begin("What is BAD changes nothing: " + call);
      run(NET + call);
      String now = state();
      answers++;
      if (!known.equals(now)) {
        fail("changed\n  " + known + " to\n  " + now);
      }
    }

    /** All that can be asked of the object at hand; what must be changed for that is put back. */
    private static String state() {
      StringBuilder all = new StringBuilder();
      for (String call : "best() many() check() bound() pairing() circle(-1) circle(0) insert(3)".split(" ")) {
        add(all, call, answer(call));
      }
      for (int i = 0; i <= 6; i++) {
        add(all, "count" + i, answer("count(" + i + ")"));
      }
      int written = answer("first(-1)");
      for (int i = 0; i < written; i++) {
        add(all, "first" + i, answer("first(" + i + ")"));
      }
      for (int a = 0; a < 4; a++) {
        addNode(all, a);
        for (int b = 0; b < 4; b++) {
          addPair(all, a, b);
        }
      }
      addRowAndLoads(all);
      return all.toString();
    }

    private static void addNode(StringBuilder all, int v) {
      int w = answer("weight(" + v + ",0)");
      add(all, "weight" + v, w);
      answer("weight(" + v + "," + w + ")");
      int b = answer("next(" + v + ",-1)");
      add(all, "next" + v, b);
      answer("next(" + v + "," + b + ")");
      int p = answer("price(" + v + ",0)");
      add(all, "price" + v, p);
      answer("price(" + v + "," + p + ")");
    }

    private static void addPair(StringBuilder all, int a, int b) {
      int cost = answer("lose(" + a + "," + b + ")");
      add(all, "arc" + a + b, cost);
      answer("arc(" + a + "," + b + "," + cost + ")");
      int on = answer("ahead(" + a + "," + b + ",true)");
      add(all, "ahead" + a + b, on);
      answer("ahead(" + a + "," + b + "," + (on == 1) + ")");
    }

    /** Costs that tell the pairs of neighbours apart tell the row; the least room for a row of one tells its load. */
    private static void addRowAndLoads(StringBuilder all) {
      for (int a = 1; a < 4; a++) {
        answer("price(" + a + ",0)");
        for (int b = 1; b < 4; b++) {
          answer("ahead(" + a + "," + b + ",false)");
        }
      }
      for (int a = 0; a < 4; a++) {
        for (int b = 0; b < 4; b++) {
          answer("arc(" + a + "," + b + "," + (a == b ? 0 : 1 << (a * 3 + (b > a ? b - 1 : b)) % 10) + ")");
        }
      }
      answer("rule(0,8)");
      answer("rule(1,1000)");
      add(all, "row", answer("check()"));
      for (int v = 1; v < 4; v++) {
        answer("keep(0)");
        answer("put(" + v + ")");
        for (int room = 4; room <= 8; room++) {
          answer("rule(1," + room + ")");
          add(all, "load" + v, answer("check()"));
        }
      }
    }

    private static void add(StringBuilder all, String what, int got) {
      all.append(what).append('=').append(got).append(' ');
    }
  }

  // ---- how a run is read

  private static void says(String sentence, String... runs) {
    sentences++;
    for (String text : runs) {
      begin(sentence);
      run(text);
    }
  }

  private static void begin(String sentence) {
    saying = sentence;
    x = new CircuitWays();
    calls = 0;
  }

  private static void run(String text) {
    for (String call : text.trim().split("\\s+")) {
      int equals = call.indexOf('=');
      if (equals < 0) {
        answer(call);
      } else {
        due(call.substring(0, equals), answer(call.substring(0, equals)), number(call.substring(equals + 1)));
      }
    }
  }

  private static void due(String call, int got, int want) {
    answers++;
    if (got != want) {
      fail(call + " as call " + calls + " answered " + got + ", due is " + want);
    }
  }

  private static void fail(String what) {
    wrong++;
    System.out.println(saying + ": " + what);
  }

  private static int number(String word) {
    switch (word) {
      case "NONE": return -1000000;
      case "BAD": return -2000000;
      case "FULL": return -3000000;
      case "LOW": return Integer.MIN_VALUE;
      case "HIGH": return Integer.MAX_VALUE;
      case "true": return 1;
      case "false": return 0;
      default: return Integer.parseInt(word);
    }
  }

  private static int answer(String call) {
    int bracket = call.indexOf('(');
    String inside = call.substring(bracket + 1, call.length() - 1);
    String[] words = inside.isEmpty() ? new String[0] : inside.split(",");
    int[] n = new int[words.length];
    for (int i = 0; i < n.length; i++) {
      n[i] = number(words[i]);
    }
    return several(call.substring(0, bracket), n);
  }

  /** The words that stand for several calls; all others are calls. */
  private static int several(String name, int[] n) {
    int size = name.matches("all|prices|weights|nextAll") ? one("count", 0) : 0;
    switch (name) {
      case "nodes": for (int i = 0; i < n[0]; i++) one("node", n.length > 1 ? n[1] : 0); return 0;
      case "arcs": for (int i = 0; i < n.length; i += 3) one("arc", n[i], n[i + 1], n[i + 2]); return 0;
      case "all": for (int i = 0; i < size * size; i++) if (i / size != i % size) one("arc", i / size, i % size, n[0]); return 0;
      case "prices": for (int v = 1; v < size; v++) one("price", v, n[0]); return 0;
      case "weights": for (int v = 0; v < size; v++) one("weight", v, n[0]); return 0;
      case "nextAll": for (int v = 0; v < size; v++) one("next", v, (v + n[0]) % size); return 0;
      case "row": one("keep", 0); for (int v : n) one("put", v); return 0;
      case "fill": for (int i = one("count", 6); i < n[1]; i++) one("put", n[0]); return 0;
      case "written":
        due("first(-1)", one("first", -1), n.length);
        for (int i = 0; i < n.length; i++) due("first(" + i + ")", one("first", i), n[i]);
        due("first(" + n.length + ")", one("first", n.length), CircuitWays.BAD);
        return 0;
      case "edges":
        for (int i = 0; i < n.length; i++) due("edge(" + i / 2 + "," + i % 2 + ")", one("edge", i / 2, i % 2), n[i]);
        due("edge(" + n.length / 2 + ",0)", one("edge", n.length / 2, 0), CircuitWays.BAD);
        return 0;
      default: return one(name, n);
    }
  }

  private static int one(String name, int... n) {
    calls++;
    if (calls == MOST_CALLS + 1) {
      fail("the run has more than " + MOST_CALLS + " calls");
    }
    switch (name) {
      case "node": return x.node(n[0]);
      case "arc": return x.arc(n[0], n[1], n[2]);
      case "lose": return x.lose(n[0], n[1]);
      case "price": return x.price(n[0], n[1]);
      case "ahead": return x.ahead(n[0], n[1], n[2] == 1);
      case "rule": return x.rule(n[0], n[1]);
      case "best": return x.best();
      case "many": return x.many();
      case "first": return x.first(n[0]);
      case "with": return x.with(n[0], n[1]);
      case "without": return x.without(n[0]);
      case "filter": return x.filter(n[0]);
      case "weight": return x.weight(n[0], n[1]);
      case "bound": return x.bound();
      case "edge": return x.edge(n[0], n[1]);
      case "degree": return x.degree(n[0]);
      case "pairing": return x.pairing();
      case "next": return x.next(n[0], n[1]);
      case "circle": return x.circle(n[0]);
      case "nearest": return x.nearest(n[0]);
      case "put": return x.put(n[0]);
      case "keep": return x.keep(n[0]);
      case "check": return x.check();
      case "insert": return x.insert(n[0]);
      case "count": return x.count(n[0]);
      default: throw new IllegalArgumentException(name);
    }
  }
}
