/-! the words of the law's own methods -/
set_option maxRecDepth 100000 in
theorem zq_678 : Cond.code yL_below cL_below 2 (some .int) ∈ zG := zG_of 678 (by rfl) rfl
set_option maxRecDepth 100000 in
theorem zq_682 : Cond.code yL_cell cL_cell 2 (some .int) ∈ zG := zG_of 682 (by rfl) rfl
set_option maxRecDepth 100000 in
theorem zq_686 : Cond.codeWith yL_act cL_act 15 (some .boolean) [(41, 125, 568, 109), (126, 151, 568, 109), (152, 283, 568, 109), (284, 328, 568, 109), (329, 394, 568, 109), (395, 431, 568, 109), (432, 463, 568, 109), (464, 496, 568, 109), (497, 567, 568, 109), (41, 125, 584, 111), (126, 151, 584, 111), (152, 283, 584, 111), (284, 328, 584, 111), (329, 394, 584, 111), (395, 431, 584, 111), (432, 463, 584, 111), (464, 496, 584, 111), (497, 567, 584, 111)] ∈ zG := zG_of 686 (by rfl) rfl
set_option maxRecDepth 100000 in
theorem zq_793 : Cond.code yL_areBookingsRight cL_areBookingsRight 11 (some .boolean) ∈ zG := zG_of 793 (by rfl) rfl
set_option maxRecDepth 100000 in
theorem zq_798 : Cond.code yL_arePiecesRight cL_arePiecesRight 10 (some .boolean) ∈ zG := zG_of 798 (by rfl) rfl
set_option maxRecDepth 100000 in
theorem zq_807 : Cond.code yL_arePlacesRight cL_arePlacesRight 12 (some .boolean) ∈ zG := zG_of 807 (by rfl) rfl
