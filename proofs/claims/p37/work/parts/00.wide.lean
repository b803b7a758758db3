theorem wt_wd : True := by
  have _ := @Jvm.Free.Multi.fill_facts
  trivial
