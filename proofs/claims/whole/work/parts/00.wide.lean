/-! This claim rests on the whole library (its rows on throws name it): the first part says so, and the rounds read it so from the start. -/
theorem zz_wide : True := (fun _ => trivial) @Jvm.Stand.outThrough
