/-! a name of the rest of the library ahead of all rows that need it: the rounds are then read over the whole of it -/
theorem lib_wide : True := by
  have _h := @Jvm.Stand.thenCaughtThrough
  trivial
