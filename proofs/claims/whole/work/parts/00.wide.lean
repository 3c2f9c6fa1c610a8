/-! a name of the whole library: so that every part is read over the whole of it -/
theorem zw_wide : True := by
  have h := @Jvm.Stand.thenCaughtThrough
  trivial
