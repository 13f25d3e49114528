theorem xf1 : Bundle.fit "java/lang/IllegalArgumentException" = true := by decide +kernel
theorem xf2 : Bundle.fit "java/lang/IllegalStateException" = true := by decide +kernel
theorem xf3 : Bundle.fit "java/lang/IndexOutOfBoundsException" = true := by decide +kernel
theorem xfn : ∀ n ∈ xnames, Bundle.fit n = true := by decide +kernel
theorem xs39 : ((39, "level or quality is out of range") : Nat × String) ∈ strL := List.mem_of_getElem? (i := 0) rfl
theorem xs54 : ((54, "rate is out of range") : Nat × String) ∈ strL := List.mem_of_getElem? (i := 1) rfl
theorem xs70 : ((70, "order is out of range") : Nat × String) ∈ strL := List.mem_of_getElem? (i := 2) rfl
theorem xs79 : ((79, "order, size or findings is out of range") : Nat × String) ∈ strL := List.mem_of_getElem? (i := 3) rfl
theorem xs86 : ((86, "the order is taken, or there are 60 lots") : Nat × String) ∈ strL := List.mem_of_getElem? (i := 4) rfl
theorem xs92 : ((92, "findings is out of range") : Nat × String) ∈ strL := List.mem_of_getElem? (i := 5) rfl
theorem xs98 : ((98, "there is no lot with this order") : Nat × String) ∈ strL := List.mem_of_getElem? (i := 6) rfl
theorem xs106 : ((106, "there are not so many lots") : Nat × String) ∈ strL := List.mem_of_getElem? (i := 7) rfl
theorem xs125 : ((125, "verdict is out of range") : Nat × String) ∈ strL := List.mem_of_getElem? (i := 8) rfl
theorem xs142 : ((142, "size or sample is out of range") : Nat × String) ∈ strL := List.mem_of_getElem? (i := 9) rfl
theorem xs150 : ((150, "size, bad, sample or most is out of range") : Nat × String) ∈ strL := List.mem_of_getElem? (i := 10) rfl
