/** Promise 9: lose. */
public final class LoseTest {
    public static void main(String[] args) {
        Script.run("lost until a change, with its epoch and next", """
            append(0, 0, 5, 3) = 0
            append(0, 0, 5, 0) = -99
            lose() = 2
            lose() = 2
            count(3) = 1
            count(2) = 2
            count(1) = 1
            append(0, 0, 5, 3) throws IllegalStateException
            sync(0) throws IllegalStateException
            begin(0) = 0
            put(0, 0, 1) = 1
            commit(0) throws IllegalStateException
            read(0, 0) = 5
            change(0, 1, 34) = 1
            count(3) = 0
            count(1) = 2
            append(0, 0, 5, 3) = 1
            """);
        Script.run("learning does not bring it back", """
            lose() = 0
            learn(0) = 1
            append(0, 0, 5, 3) throws IllegalStateException
            """);
        Script.end();
    }
}
