/-! one name of the library's rest, so that the rounds are read over the whole of it from the first part on -/
theorem kz_wide : True := (fun _ => trivial) (@Jvm.Free.Multi.fill_facts)
