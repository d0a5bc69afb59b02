/** Promise 10: size. */
public final class Promise10SizeTest {
    public static void main(String[] args) {
        Due due = new Due();
        GlobDesk desk = new GlobDesk();
        due.same("new value", desk.size(0), 0);
        due.same("new key", desk.size(1), 0);
        Due.fill(desk, 0, "hello");
        Due.fill(desk, 1, "\\*\0");
        due.same("value", desk.size(0), 5);
        due.same("key", desk.size(1), 3);
        int[] wrong = {-1, 2, 3, Integer.MIN_VALUE, Integer.MAX_VALUE};
        for (int bad : wrong) {
            due.same("size(" + bad + ")", desk.size(bad), -1);
        }
        desk.put(0, 0, 9);
        desk.put(0, 0, 0);
        due.same("after refused puts", desk.size(0), 5);
        Due.fill(desk, 0, "x".repeat(95));
        due.same("full", desk.size(0), 100);
        desk.put(0, 0, 1);
        due.same("still full", desk.size(0), 100);
        desk.clear(0);
        due.same("cleared", desk.size(0), 0);
        due.same("the other is kept", desk.size(1), 3);
        due.end();
    }
}
