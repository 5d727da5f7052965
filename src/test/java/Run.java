/** Runs the test of a name: one that does not end by itself fails, and does not hold up the others. */
public final class Run {
    private static final long MOST_SECONDS = 300;

    public static void main(String[] args) throws ReflectiveOperationException {
        Thread watch = new Thread(Run::giveUp);
        watch.setDaemon(true);
        watch.start();
        Class.forName(args[0]).getMethod("main", String[].class).invoke(null, (Object) new String[0]);
    }

    private static void giveUp() {
        try {
            Thread.sleep(MOST_SECONDS * 1000);
        } catch (InterruptedException e) {
            return;
        }
        System.out.println("  it did not end in " + MOST_SECONDS + " seconds");
        Runtime.getRuntime().halt(1);
    }
}
