/-! names of the library's shelf that later parts use: a machine that reads only the short library says so here, at once -/
theorem tb_shelf : True := by
  have _h1 := @Jvm.Stand.thenCaughtThrough
  have _h2 := @Jvm.Stand.multianewarray2F
  have _h3 := @Jvm.Cond.arrayOver_specA
  trivial
