/** The example of README.md, call by call, with the answers that it tells. */
public final class ExampleTest {
    public static void main(String[] args) {
        Script.run("the example of README.md", """
            append(0, 2, 41, 3) = 0
            sync(1) = 1
            get(1, 2) = 41
            begin(1) = 1
            see(1, 2) = 41
            put(1, 2, 42) = 1
            commit(1) = true
            append(0, 2, 50, 1) = -98
            sync(1) throws IndexOutOfBoundsException
            fill(1, 2) = 1
            sync(1) = 3
            up(1, false) = 0
            change(1, 0, 15) = 3
            append(0, 2, 60, 3) throws IllegalStateException
            learn(0) = 2
            append(0, 2, 60, 3) = 3
            """);
        Script.end();
    }
}
