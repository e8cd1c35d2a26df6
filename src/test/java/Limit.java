import java.lang.reflect.InvocationTargetException;

/**
 * Runs another class's main method, and fails if it has not ended in time: a call that never ends
 * is a fault too, and .ci/run must tell it.
 */
public final class Limit {
    /** The longest test takes a few seconds. */
    private static final int SECONDS = 90;
    /** The exit code by which .ci/run knows that it need not wait for others. */
    private static final int LATE = 124;

    public static void main(String[] args) throws Throwable {
        String test = args[0];
        Thread watch = new Thread(() -> stopLate(test));
        watch.setDaemon(true);
        watch.start();
        try {
            Class.forName(test).getMethod("main", String[].class).invoke(null, (Object) new String[0]);
        } catch (InvocationTargetException e) {
            throw e.getCause();
        }
    }

    private static void stopLate(String test) {
        try {
            Thread.sleep(1000L * SECONDS);
        } catch (InterruptedException e) {
            return;
        }
        System.out.println(test + ": has not ended within " + SECONDS + " seconds");
        System.out.flush();
        Runtime.getRuntime().halt(LATE);
    }
}
