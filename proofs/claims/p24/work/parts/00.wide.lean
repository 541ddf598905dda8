theorem wide_ : True := by
  have := @Jvm.Stand.outThrough
  trivial
