theorem dw_wide : True := by
  have _ := @Jvm.Free.Multi.fill_facts
  trivial
