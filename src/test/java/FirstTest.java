final class FirstTest { public static void main(String[] a) { Check c = new Check(); c.due(1, "status()", new GluedWords().status(), 0); c.end(); } }
