theorem tin1 {w : Cond} (hm : w ∈ tables_1_1) : w ∈ lw_tbl := List.mem_append_right _ (show w ∈ tables_1 from (List.mem_append_left _ hm))
theorem tGc1 {w : Cond} (i : Nat) (h : tables_1_1[i]? = some w) (hg : goodWord w = true) : w ∈ tGd := List.mem_filter.mpr ⟨tin1 (List.mem_of_getElem? h), hg⟩
theorem nsc1 {w : Cond} (i : Nat) (h : tables_1_1[i]? = some w) (hg : isNest w = true) : w ∈ nestW := List.mem_filter.mpr ⟨tin1 (List.mem_of_getElem? h), hg⟩
theorem tin2 {w : Cond} (hm : w ∈ tables_1_2) : w ∈ lw_tbl := List.mem_append_right _ (show w ∈ tables_1 from (List.mem_append_right _ (List.mem_append_left _ hm)))
theorem tGc2 {w : Cond} (i : Nat) (h : tables_1_2[i]? = some w) (hg : goodWord w = true) : w ∈ tGd := List.mem_filter.mpr ⟨tin2 (List.mem_of_getElem? h), hg⟩
theorem nsc2 {w : Cond} (i : Nat) (h : tables_1_2[i]? = some w) (hg : isNest w = true) : w ∈ nestW := List.mem_filter.mpr ⟨tin2 (List.mem_of_getElem? h), hg⟩
theorem tin3 {w : Cond} (hm : w ∈ tables_1_3) : w ∈ lw_tbl := List.mem_append_right _ (show w ∈ tables_1 from (List.mem_append_right _ (List.mem_append_right _ (List.mem_append_left _ hm))))
theorem tGc3 {w : Cond} (i : Nat) (h : tables_1_3[i]? = some w) (hg : goodWord w = true) : w ∈ tGd := List.mem_filter.mpr ⟨tin3 (List.mem_of_getElem? h), hg⟩
theorem nsc3 {w : Cond} (i : Nat) (h : tables_1_3[i]? = some w) (hg : isNest w = true) : w ∈ nestW := List.mem_filter.mpr ⟨tin3 (List.mem_of_getElem? h), hg⟩
theorem tin4 {w : Cond} (hm : w ∈ tables_1_4) : w ∈ lw_tbl := List.mem_append_right _ (show w ∈ tables_1 from (List.mem_append_right _ (List.mem_append_right _ (List.mem_append_right _ (List.mem_append_left _ hm)))))
theorem tGc4 {w : Cond} (i : Nat) (h : tables_1_4[i]? = some w) (hg : goodWord w = true) : w ∈ tGd := List.mem_filter.mpr ⟨tin4 (List.mem_of_getElem? h), hg⟩
theorem nsc4 {w : Cond} (i : Nat) (h : tables_1_4[i]? = some w) (hg : isNest w = true) : w ∈ nestW := List.mem_filter.mpr ⟨tin4 (List.mem_of_getElem? h), hg⟩
theorem tin5 {w : Cond} (hm : w ∈ tables_1_5) : w ∈ lw_tbl := List.mem_append_right _ (show w ∈ tables_1 from (List.mem_append_right _ (List.mem_append_right _ (List.mem_append_right _ (List.mem_append_right _ (List.mem_append_left _ hm))))))
theorem tGc5 {w : Cond} (i : Nat) (h : tables_1_5[i]? = some w) (hg : goodWord w = true) : w ∈ tGd := List.mem_filter.mpr ⟨tin5 (List.mem_of_getElem? h), hg⟩
theorem nsc5 {w : Cond} (i : Nat) (h : tables_1_5[i]? = some w) (hg : isNest w = true) : w ∈ nestW := List.mem_filter.mpr ⟨tin5 (List.mem_of_getElem? h), hg⟩
theorem tin6 {w : Cond} (hm : w ∈ tables_1_6) : w ∈ lw_tbl := List.mem_append_right _ (show w ∈ tables_1 from (List.mem_append_right _ (List.mem_append_right _ (List.mem_append_right _ (List.mem_append_right _ (List.mem_append_right _ (List.mem_append_left _ hm)))))))
theorem tGc6 {w : Cond} (i : Nat) (h : tables_1_6[i]? = some w) (hg : goodWord w = true) : w ∈ tGd := List.mem_filter.mpr ⟨tin6 (List.mem_of_getElem? h), hg⟩
theorem nsc6 {w : Cond} (i : Nat) (h : tables_1_6[i]? = some w) (hg : isNest w = true) : w ∈ nestW := List.mem_filter.mpr ⟨tin6 (List.mem_of_getElem? h), hg⟩
theorem tin7 {w : Cond} (hm : w ∈ tables_1_7) : w ∈ lw_tbl := List.mem_append_right _ (show w ∈ tables_1 from (List.mem_append_right _ (List.mem_append_right _ (List.mem_append_right _ (List.mem_append_right _ (List.mem_append_right _ (List.mem_append_right _ (List.mem_append_left _ hm))))))))
theorem tGc7 {w : Cond} (i : Nat) (h : tables_1_7[i]? = some w) (hg : goodWord w = true) : w ∈ tGd := List.mem_filter.mpr ⟨tin7 (List.mem_of_getElem? h), hg⟩
theorem nsc7 {w : Cond} (i : Nat) (h : tables_1_7[i]? = some w) (hg : isNest w = true) : w ∈ nestW := List.mem_filter.mpr ⟨tin7 (List.mem_of_getElem? h), hg⟩
theorem tin8 {w : Cond} (hm : w ∈ tables_1_8) : w ∈ lw_tbl := List.mem_append_right _ (show w ∈ tables_1 from (List.mem_append_right _ (List.mem_append_right _ (List.mem_append_right _ (List.mem_append_right _ (List.mem_append_right _ (List.mem_append_right _ (List.mem_append_right _ (List.mem_append_left _ hm)))))))))
theorem tGc8 {w : Cond} (i : Nat) (h : tables_1_8[i]? = some w) (hg : goodWord w = true) : w ∈ tGd := List.mem_filter.mpr ⟨tin8 (List.mem_of_getElem? h), hg⟩
theorem nsc8 {w : Cond} (i : Nat) (h : tables_1_8[i]? = some w) (hg : isNest w = true) : w ∈ nestW := List.mem_filter.mpr ⟨tin8 (List.mem_of_getElem? h), hg⟩
theorem tin9 {w : Cond} (hm : w ∈ tables_1_9) : w ∈ lw_tbl := List.mem_append_right _ (show w ∈ tables_1 from (List.mem_append_right _ (List.mem_append_right _ (List.mem_append_right _ (List.mem_append_right _ (List.mem_append_right _ (List.mem_append_right _ (List.mem_append_right _ (List.mem_append_right _ (List.mem_append_left _ hm))))))))))
theorem tGc9 {w : Cond} (i : Nat) (h : tables_1_9[i]? = some w) (hg : goodWord w = true) : w ∈ tGd := List.mem_filter.mpr ⟨tin9 (List.mem_of_getElem? h), hg⟩
theorem nsc9 {w : Cond} (i : Nat) (h : tables_1_9[i]? = some w) (hg : isNest w = true) : w ∈ nestW := List.mem_filter.mpr ⟨tin9 (List.mem_of_getElem? h), hg⟩
theorem tin10 {w : Cond} (hm : w ∈ tables_1_10) : w ∈ lw_tbl := List.mem_append_right _ (show w ∈ tables_1 from (List.mem_append_right _ (List.mem_append_right _ (List.mem_append_right _ (List.mem_append_right _ (List.mem_append_right _ (List.mem_append_right _ (List.mem_append_right _ (List.mem_append_right _ (List.mem_append_right _ (List.mem_append_left _ hm)))))))))))
theorem tGc10 {w : Cond} (i : Nat) (h : tables_1_10[i]? = some w) (hg : goodWord w = true) : w ∈ tGd := List.mem_filter.mpr ⟨tin10 (List.mem_of_getElem? h), hg⟩
theorem nsc10 {w : Cond} (i : Nat) (h : tables_1_10[i]? = some w) (hg : isNest w = true) : w ∈ nestW := List.mem_filter.mpr ⟨tin10 (List.mem_of_getElem? h), hg⟩
theorem tin11 {w : Cond} (hm : w ∈ tables_1_11) : w ∈ lw_tbl := List.mem_append_right _ (show w ∈ tables_1 from (List.mem_append_right _ (List.mem_append_right _ (List.mem_append_right _ (List.mem_append_right _ (List.mem_append_right _ (List.mem_append_right _ (List.mem_append_right _ (List.mem_append_right _ (List.mem_append_right _ (List.mem_append_right _ (List.mem_append_left _ hm))))))))))))
theorem tGc11 {w : Cond} (i : Nat) (h : tables_1_11[i]? = some w) (hg : goodWord w = true) : w ∈ tGd := List.mem_filter.mpr ⟨tin11 (List.mem_of_getElem? h), hg⟩
theorem nsc11 {w : Cond} (i : Nat) (h : tables_1_11[i]? = some w) (hg : isNest w = true) : w ∈ nestW := List.mem_filter.mpr ⟨tin11 (List.mem_of_getElem? h), hg⟩
theorem tin12 {w : Cond} (hm : w ∈ tables_1_12) : w ∈ lw_tbl := List.mem_append_right _ (show w ∈ tables_1 from (List.mem_append_right _ (List.mem_append_right _ (List.mem_append_right _ (List.mem_append_right _ (List.mem_append_right _ (List.mem_append_right _ (List.mem_append_right _ (List.mem_append_right _ (List.mem_append_right _ (List.mem_append_right _ (List.mem_append_right _ hm))))))))))))
theorem tGc12 {w : Cond} (i : Nat) (h : tables_1_12[i]? = some w) (hg : goodWord w = true) : w ∈ tGd := List.mem_filter.mpr ⟨tin12 (List.mem_of_getElem? h), hg⟩
theorem nsc12 {w : Cond} (i : Nat) (h : tables_1_12[i]? = some w) (hg : isNest w = true) : w ∈ nestW := List.mem_filter.mpr ⟨tin12 (List.mem_of_getElem? h), hg⟩
