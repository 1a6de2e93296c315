/-! a name of the rest of the library, which part a42 needs, at once: so the round is read over the whole of it from its first part on -/
theorem wide_0 : True := (fun _ => trivial) (@Jvm.Stand.multianewarray2F)
