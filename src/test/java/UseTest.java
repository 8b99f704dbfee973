import java.nio.ByteBuffer;
import java.nio.charset.StandardCharsets;
import java.util.Arrays;

/** The examples of README.md, written as they stand there, answer what it says. */
final class UseTest {
    public static void main(String[] args) {
        Trial t = new Trial();
        NumberFunctions x = t.x;
        x.tell(0);
        x.tell(65536);
        x.tell(2);
        x.tell(0);
        x.tell(65536);
        int square = x.make(2, 1, 1);
        x.input(0, 32768);
        t.due("call of the square", x.call(square), 1);
        t.due("the square of a half", x.output(0), 16384);

        byte[] text = "{ dup 0 lt { neg } if sqrt }".getBytes(StandardCharsets.ISO_8859_1);
        x.cut(0);
        for (int i = 0; i < text.length; i += 20) {
            ByteBuffer part = ByteBuffer.wrap(Arrays.copyOfRange(text, i, i + 20));
            x.feed(part.getInt(), part.getInt(), part.getInt(), part.getInt(), part.getInt());
        }
        x.cut(text.length);
        x.tell(-100 * 65536);
        x.tell(100 * 65536);
        x.tell(0);
        x.tell(5 * 65536);
        int root = x.make(4, 1, 1);
        x.input(0, -9 * 65536);
        t.due("call of the root", x.call(root), 1);
        t.due("the root of -9", x.output(0), 196608);
        x.input(0, 50 * 65536);
        t.due("call of the root again", x.call(root), 1);
        t.due("the root of 50", x.output(0), 327680);
        t.due("the row is just the text", x.cut(0), text.length);
        t.end();
    }
}
