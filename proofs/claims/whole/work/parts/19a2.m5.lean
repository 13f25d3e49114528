def rmX5_judgeAll : Room := { frames := 5, cells := 0, slots := 0, locals := 118 }
theorem iwX5_judgeAll_X5 : ∀ w ∈ wsX50, w ∈ wsX5_judgeAll := fun w h => List.mem_cons_of_mem _ (List.mem_append_left _ (List.mem_append_left _ (List.mem_append_left _ (List.mem_append_left _ (List.mem_append_right _ (h))))))
theorem lkX5_judgeAll_1 : Cond.fieldLink RX5 29 "InspectionOffice" "course" "LInspectionOffice$Course;" ∈ wsX5_judgeAll := List.mem_of_getElem? (i := 1) rfl
theorem lkX5_judgeAll_2 : Cond.fieldLink RX5 15 "InspectionOffice" "markByOrder" "[Z" ∈ wsX5_judgeAll := List.mem_of_getElem? (i := 2) rfl
theorem lkX5_judgeAll_3 : Cond.fieldLink RX5 11 "InspectionOffice" "lotByOrder" "[LInspectionOffice$Lot;" ∈ wsX5_judgeAll := List.mem_of_getElem? (i := 3) rfl
theorem lkX5_judgeAll_4 : Cond.fieldLink RX5 22 "InspectionOffice" "plans" "LInspectionOffice$Plans;" ∈ wsX5_judgeAll := List.mem_of_getElem? (i := 4) rfl
