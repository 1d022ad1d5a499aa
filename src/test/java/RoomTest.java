import java.lang.management.ManagementFactory;

/** What 512 of the dearest calls make stays below the room that all calls of one run live in. */
public final class RoomTest {
    private static final String LONG_ONE =
        "fun 3{while 1{a=call 1(a,b,c);}}fun 3{b=call 2(a,1,2)+(1+(1+(1+(1+1))));return b;}fun 2{return a+1;}";
    private static final long BYTES_OF_AN_OBJECT_AT_LEAST = 16;
    private static final long OBJECTS_OF_THE_ROOM = 600_000;

    private RoomTest() {
    }

    public static void main(String[] args) {
        com.sun.management.ThreadMXBean bean =
            (com.sun.management.ThreadMXBean) ManagementFactory.getThreadMXBean();
        if (!bean.isThreadAllocatedMemorySupported()) {
            System.out.println("RoomTest: this machine doesn't count what is made");
            return;
        }
        calls();
        long before = bean.getThreadAllocatedBytes(Thread.currentThread().getId());
        calls();
        long made = bean.getThreadAllocatedBytes(Thread.currentThread().getId()) - before;
        System.out.println("RoomTest: " + made + " bytes made by one object and 512 calls");
        Due.is("within the room", made / BYTES_OF_AN_OBJECT_AT_LEAST <= OBJECTS_OF_THE_ROOM ? 1 : 0, 1);
        Due.end("RoomTest");
    }

    /** 8 times a told, five feeds and a program; then 2, 420 and 34 calls. */
    private static void calls() {
        HeatedCode code = new HeatedCode();
        for (int k = 0; k < 8; k++) {
            Due.lay(code, LONG_ONE);
            code.program(LONG_ONE.length());
        }
        code.give(0, 1, 1);
        code.give(1, 2, 5);
        for (int k = 0; k < 140; k++) {
            code.glow(1 + k % 7);
            code.runs(0, 3);
            code.tune(0, 8 - k % 8, k % 2);
        }
        for (int k = 0; k < 17; k++) {
            code.pays(0);
            code.sorest(0, 30, 0);
        }
    }
}
