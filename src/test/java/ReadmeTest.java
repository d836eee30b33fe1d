/** The calls that README.md shows, with the answers that stand there. */
public final class ReadmeTest {
  public static void main(String[] args) {
    Bench bench = new Bench("the calls that README.md shows");
    ForthHouse house = bench.house;
    bench.due("system", house.system(4, 0), 0);
    bench.type(": sq DUP * ; 7 sq ");
    bench.due("type", house.type('.', 1), 19);
    bench.due("evaluate", house.evaluate(0, 5000), 0);
    bench.due("out", bench.out(0), "49 ");
    bench.due("find", bench.find("sq"), 172);
    bench.due("word", house.word(0, 172, 0), 1);
    bench.due("item", house.item(0, 0, 1), 0);
    bench.due("effectOf", house.effectOf(0, 172, 0), 1);
    bench.due("count", house.count(0, 4), 11);
    bench.due("evaluate, thrown out", bench.run("1 0 /"), -2);
    bench.due("thrown", house.thrown(0, 0), -10);
    bench.due("evaluate, 3 steps", bench.run(0, "1 2 3 +", 3), 1);
    bench.due("go", house.go(0, 5000), 0);
    bench.due("cell", house.cell(0, 0, 0, 0), 5);
    bench.due("chip", house.chip(0, 172), 3);
    bench.due("chipPut", house.chipPut(9), 1);
    bench.due("chipGo", house.chipGo(100), 0);
    bench.due("chipCell", house.chipCell(0), 81);
    bench.due("keep", house.keep(0, 1), 1);
    bench.due("again", house.again(1, 1), 1);
    bench.due("same", house.same(0, 1), true);
    bench.end();
    Bench.exit();
  }
}
