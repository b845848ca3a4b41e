final class TextTest { static void run(Checks c) {} }
