/-! the whole library is wanted (the row of multianewarray): said first, so that no part compiles twice -/
theorem wide_on : True := (fun _ => trivial) @Jvm.Stand.multianewarray2F
