/** Ends a test that does not end by itself: a call that never answers is a fault like any other. */
final class Watch {
    private Watch() {
    }

    static void begin(int seconds) {
        Thread watch = new Thread(() -> {
            try {
                Thread.sleep(seconds * 1000L);
            } catch (InterruptedException e) {
                return;
            }
            System.out.println("not ended after " + seconds + " seconds");
            Runtime.getRuntime().halt(1);
        });
        watch.setDaemon(true);
        watch.start();
    }
}
