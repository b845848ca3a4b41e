final class PromiseTest { static void run(Checks c) {} }
