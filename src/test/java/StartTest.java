/** Promise 4. */
public final class StartTest {
    public static void main(String[] args) {
        ExchangeSystem x = Due.system(1, "1a!1");
        for (int p = 1; p < 4; p++) {
            Due.is("start()", x.start(), p);
            Due.is("count(0)", x.count(0), p + 1);
        }
        Due.noRoom("start() with all alive", x::start);
        Due.is("count(0)", x.count(0), 4);
        x.block(2, 3);
        x.open(2, 2, 0);
        x.kill(2);
        x.kill(1);
        Due.is("start() takes the least", x.start(), 1);
        Due.is("start() takes the next", x.start(), 2);
        Due.noRoom("start() with all alive again", x::start);
        Due.is("a new process has no blocks", x.ofBlock(0, 0), -1);
        Due.is("a new process has no ends", x.ofEnd(0, 0), -1);
        Due.is("kill a new process", x.kill(2), 0);
        x.kill(0);
        x.kill(1);
        x.kill(3);
        Due.is("count(0) with none alive", x.count(0), 0);
        Due.is("start() with none alive", x.start(), 0);
        Due.end();
    }
}
