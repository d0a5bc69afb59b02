/** Promise 10: size. */
public final class Promise10SizeTest {
    private static final Due due = new Due();

    public static void main(String[] args) {
        howMany();
        everySize();
        afterRefusals();
        anotherWhich();
        due.end();
    }

    private static void howMany() {
        due.sentence("Promise 10", "How many bytes the value (0) or key (1) has");
        GlobDesk desk = new GlobDesk();
        due.same("new value", desk.size(0), 0);
        due.same("new key", desk.size(1), 0);
        due.fill(desk, 0, "hello");
        due.fill(desk, 1, "\\*\0");
        due.same("value", desk.size(0), 5);
        due.same("key", desk.size(1), 3);
        desk.clear(0);
        due.same("cleared", desk.size(0), 0);
        due.same("the other is kept", desk.size(1), 3);
    }

    private static void everySize() {
        due.sentence("Promise 10", "How many bytes the value (0) or key (1) has", "from none to 100");
        GlobDesk desk = new GlobDesk();
        for (int many = 0; many <= 100; many++) {
            due.same("value", desk.size(0), many);
            due.same("key", desk.size(1), many);
            due.same("put to the value", desk.put(0, 0, 1) ? 1 : 0, many < 100 ? 1 : 0);
            due.same("put to the key", desk.put(1, 0, 1) ? 1 : 0, many < 100 ? 1 : 0);
        }
        due.same("still full", desk.size(0), 100);
        due.same("still full", desk.size(1), 100);
    }

    private static void afterRefusals() {
        due.sentence("Promise 10", "How many bytes the value (0) or key (1) has", "after refused puts");
        GlobDesk desk = due.desk("hello", "h*");
        desk.put(0, 0, 9);
        desk.put(0, 0, 0);
        desk.put(1, 0, -1);
        desk.put(2, 0, 1);
        desk.clear(2);
        due.same("value", desk.size(0), 5);
        due.same("key", desk.size(1), 2);
    }

    private static void anotherWhich() {
        due.sentence("Promise 10", "-1 for another which");
        GlobDesk desk = due.desk("hello", "h*");
        GlobDesk empty = new GlobDesk();
        for (int bad : Due.outside(0, 1)) {
            due.same("size(" + bad + ")", desk.size(bad), -1);
            due.same("new, size(" + bad + ")", empty.size(bad), -1);
        }
    }
}
