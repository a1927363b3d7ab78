/-! The law's own ways to call the class. -/
section Wrap
variable {σ σ' : St}
theorem wo_insert {p1 p2 p3 : Int} {v : Int} (hc : Con 5 mX9_insert 0 0 [vA 0, vI p1, vI p2, vI p3] σ (vI v, σ')) : Con 6 mL_insert 1 6 [vA 0, vI p1, vI p2, vI p3, vA 133] σ (vI 0, M1 σ' 133 0 v) := by
  refine con_of_go mfL_insert.1 trivial (Nat.le_of_ble_eq_true rfl) rfl (by decide) ?_
  show Go _ _ _ _ 0 [vA _, vI _, vI _, vI _, vA _, vT 9 0] [] _ _
  refine go_aload (at_of tL_insert 0 0 rfl) rfl ?_
  refine go_iconst (at_of tL_insert 0 1 rfl) (by unfold in32; omega) ?_
  refine go_aload_n (at_of tL_insert 0 2 rfl) rfl ?_
  refine go_iload_n (at_of tL_insert 0 3 rfl) rfl ?_
  refine go_iload_n (at_of tL_insert 0 4 rfl) rfl ?_
  refine go_iload_n (at_of tL_insert 0 5 rfl) rfl ?_
  refine go_cV (hc) lk_L_7 rfl G_0 (at_of tL_insert 0 6 rfl) rfl (by decide) rfl (Nat.le_of_ble_eq_true rfl) rfl (by first | decide | exact ⟨Nat.zero_le _, Nat.zero_le _⟩) ?_
  refine go_i2l (at_of tL_insert 0 7 rfl) ?_
  refine go_last1 G_133 (by omega) (by omega) (at_of tL_insert 0 8 rfl) ?_
  refine go_goto (tgt := 31) (at_of tL_insert 0 9 rfl) (by decide) ?_
  refine go_iconst (at_of tL_insert 1 6 rfl) (by unfold in32; omega) ?_
  first | exact go_reti (at_of tL_insert 1 7 rfl) rfl | exact go_reti (at_of tL_insert 1 7 rfl) (le_i (by omega)) | exact go_reti (at_of tL_insert 1 7 rfl) (le_i (by first | exact bI_t (by omega) | exact bI_f (by omega)))
theorem wt_insert_0 {p1 p2 p3 : Int} (hc : Con 5 mX9_insert 1 6 [vA 0, vI p1, vI p2, vI p3] σ (vT 20 0, σ)) : Con 6 mL_insert 1 6 [vA 0, vI p1, vI p2, vI p3, vA 133] σ (vI 1, σ) := by
  refine con_of_go mfL_insert.1 trivial (Nat.le_of_ble_eq_true rfl) rfl (by decide) ?_
  show Go _ _ _ _ 0 [vA _, vI _, vI _, vI _, vA _, vT 9 0] [] _ _
  refine go_aload (at_of tL_insert 0 0 rfl) rfl ?_
  refine go_iconst (at_of tL_insert 0 1 rfl) (by unfold in32; omega) ?_
  refine go_aload_n (at_of tL_insert 0 2 rfl) rfl ?_
  refine go_iload_n (at_of tL_insert 0 3 rfl) rfl ?_
  refine go_iload_n (at_of tL_insert 0 4 rfl) rfl ?_
  refine go_iload_n (at_of tL_insert 0 5 rfl) rfl ?_
  refine go_callC (i := 0) (h := 15) (k := 5) (Or.inl ⟨9, 0, [vI p1, vI p2, vI p3], rfl, rfl, G_0, lk_L_7, (at_of tL_insert 0 6 rfl)⟩) hc rfl ⟨[], [(0, 12, 19, 15), (0, 12, 23, 17), (0, 12, 27, 19)], 0, 12, 13, rfl, by decide, by decide, by decide, cl_L_13, List.mem_of_getElem? (i := 1) rfl, fun _ z => absurd z List.not_mem_nil⟩ (Or.inl ⟨rfl, (at_of tL_insert 0 10 rfl)⟩) rfl rfl (by decide) rfl (Nat.le_of_ble_eq_true rfl) rfl ⟨by decide, by decide⟩ ?_
  refine go_iconst (at_of tL_insert 0 11 rfl) (by unfold in32; omega) ?_
  first | exact go_reti (at_of tL_insert 0 12 rfl) rfl | exact go_reti (at_of tL_insert 0 12 rfl) (le_i (by omega)) | exact go_reti (at_of tL_insert 0 12 rfl) (le_i (by first | exact bI_t (by omega) | exact bI_f (by omega)))
theorem wt_insert_1 {p1 p2 p3 : Int} (hc : Con 5 mX9_insert 1 6 [vA 0, vI p1, vI p2, vI p3] σ (vT 21 0, σ)) : Con 6 mL_insert 1 6 [vA 0, vI p1, vI p2, vI p3, vA 133] σ (vI 2, σ) := by
  refine con_of_go mfL_insert.1 trivial (Nat.le_of_ble_eq_true rfl) rfl (by decide) ?_
  show Go _ _ _ _ 0 [vA _, vI _, vI _, vI _, vA _, vT 9 0] [] _ _
  refine go_aload (at_of tL_insert 0 0 rfl) rfl ?_
  refine go_iconst (at_of tL_insert 0 1 rfl) (by unfold in32; omega) ?_
  refine go_aload_n (at_of tL_insert 0 2 rfl) rfl ?_
  refine go_iload_n (at_of tL_insert 0 3 rfl) rfl ?_
  refine go_iload_n (at_of tL_insert 0 4 rfl) rfl ?_
  refine go_iload_n (at_of tL_insert 0 5 rfl) rfl ?_
  refine go_callC (i := 1) (h := 19) (k := 5) (Or.inl ⟨9, 0, [vI p1, vI p2, vI p3], rfl, rfl, G_0, lk_L_7, (at_of tL_insert 0 6 rfl)⟩) hc rfl ⟨[(0, 12, 15, 13)], [(0, 12, 23, 17), (0, 12, 27, 19)], 0, 12, 15, rfl, by decide, by decide, by decide, cl_L_15, List.mem_of_getElem? (i := 2) rfl, List.forall_mem_cons.mpr ⟨⟨by decide, _, cl_L_13, List.mem_of_getElem? (i := 0) rfl⟩, fun _ z => absurd z List.not_mem_nil⟩⟩ (Or.inl ⟨rfl, (at_of tL_insert 0 13 rfl)⟩) rfl rfl (by decide) rfl (Nat.le_of_ble_eq_true rfl) rfl ⟨by decide, by decide⟩ ?_
  refine go_iconst (at_of tL_insert 0 14 rfl) (by unfold in32; omega) ?_
  first | exact go_reti (at_of tL_insert 0 15 rfl) rfl | exact go_reti (at_of tL_insert 0 15 rfl) (le_i (by omega)) | exact go_reti (at_of tL_insert 0 15 rfl) (le_i (by first | exact bI_t (by omega) | exact bI_f (by omega)))
theorem wt_insert_2 {p1 p2 p3 : Int} (hc : Con 5 mX9_insert 1 6 [vA 0, vI p1, vI p2, vI p3] σ (vT 22 0, σ)) : Con 6 mL_insert 1 6 [vA 0, vI p1, vI p2, vI p3, vA 133] σ (vI 3, σ) := by
  refine con_of_go mfL_insert.1 trivial (Nat.le_of_ble_eq_true rfl) rfl (by decide) ?_
  show Go _ _ _ _ 0 [vA _, vI _, vI _, vI _, vA _, vT 9 0] [] _ _
  refine go_aload (at_of tL_insert 0 0 rfl) rfl ?_
  refine go_iconst (at_of tL_insert 0 1 rfl) (by unfold in32; omega) ?_
  refine go_aload_n (at_of tL_insert 0 2 rfl) rfl ?_
  refine go_iload_n (at_of tL_insert 0 3 rfl) rfl ?_
  refine go_iload_n (at_of tL_insert 0 4 rfl) rfl ?_
  refine go_iload_n (at_of tL_insert 0 5 rfl) rfl ?_
  refine go_callC (i := 2) (h := 23) (k := 5) (Or.inl ⟨9, 0, [vI p1, vI p2, vI p3], rfl, rfl, G_0, lk_L_7, (at_of tL_insert 0 6 rfl)⟩) hc rfl ⟨[(0, 12, 15, 13), (0, 12, 19, 15)], [(0, 12, 27, 19)], 0, 12, 17, rfl, by decide, by decide, by decide, cl_L_17, List.mem_of_getElem? (i := 3) rfl, List.forall_mem_cons.mpr ⟨⟨by decide, _, cl_L_13, List.mem_of_getElem? (i := 1) rfl⟩, List.forall_mem_cons.mpr ⟨⟨by decide, _, cl_L_15, List.mem_of_getElem? (i := 7) rfl⟩, fun _ z => absurd z List.not_mem_nil⟩⟩⟩ (Or.inl ⟨rfl, (at_of tL_insert 1 0 rfl)⟩) rfl rfl (by decide) rfl (Nat.le_of_ble_eq_true rfl) rfl ⟨by decide, by decide⟩ ?_
  refine go_iconst (at_of tL_insert 1 1 rfl) (by unfold in32; omega) ?_
  first | exact go_reti (at_of tL_insert 1 2 rfl) rfl | exact go_reti (at_of tL_insert 1 2 rfl) (le_i (by omega)) | exact go_reti (at_of tL_insert 1 2 rfl) (le_i (by first | exact bI_t (by omega) | exact bI_f (by omega)))
theorem wt_insert_3 {p1 p2 p3 : Int} (hc : Con 5 mX9_insert 1 6 [vA 0, vI p1, vI p2, vI p3] σ (vT 23 0, σ)) : Con 6 mL_insert 1 6 [vA 0, vI p1, vI p2, vI p3, vA 133] σ (vI 4, σ) := by
  refine con_of_go mfL_insert.1 trivial (Nat.le_of_ble_eq_true rfl) rfl (by decide) ?_
  show Go _ _ _ _ 0 [vA _, vI _, vI _, vI _, vA _, vT 9 0] [] _ _
  refine go_aload (at_of tL_insert 0 0 rfl) rfl ?_
  refine go_iconst (at_of tL_insert 0 1 rfl) (by unfold in32; omega) ?_
  refine go_aload_n (at_of tL_insert 0 2 rfl) rfl ?_
  refine go_iload_n (at_of tL_insert 0 3 rfl) rfl ?_
  refine go_iload_n (at_of tL_insert 0 4 rfl) rfl ?_
  refine go_iload_n (at_of tL_insert 0 5 rfl) rfl ?_
  refine go_callC (i := 3) (h := 27) (k := 5) (Or.inl ⟨9, 0, [vI p1, vI p2, vI p3], rfl, rfl, G_0, lk_L_7, (at_of tL_insert 0 6 rfl)⟩) hc rfl ⟨[(0, 12, 15, 13), (0, 12, 19, 15), (0, 12, 23, 17)], [], 0, 12, 19, rfl, by decide, by decide, by decide, cl_L_19, List.mem_of_getElem? (i := 4) rfl, List.forall_mem_cons.mpr ⟨⟨by decide, _, cl_L_13, List.mem_of_getElem? (i := 2) rfl⟩, List.forall_mem_cons.mpr ⟨⟨by decide, _, cl_L_15, List.mem_of_getElem? (i := 8) rfl⟩, List.forall_mem_cons.mpr ⟨⟨by decide, _, cl_L_17, List.mem_of_getElem? (i := 14) rfl⟩, fun _ z => absurd z List.not_mem_nil⟩⟩⟩⟩ (Or.inl ⟨rfl, (at_of tL_insert 1 3 rfl)⟩) rfl rfl (by decide) rfl (Nat.le_of_ble_eq_true rfl) rfl ⟨by decide, by decide⟩ ?_
  refine go_iconst (at_of tL_insert 1 4 rfl) (by unfold in32; omega) ?_
  first | exact go_reti (at_of tL_insert 1 5 rfl) rfl | exact go_reti (at_of tL_insert 1 5 rfl) (le_i (by omega)) | exact go_reti (at_of tL_insert 1 5 rfl) (le_i (by first | exact bI_t (by omega) | exact bI_f (by omega)))
theorem wo_addField {p1 p2 p3 p4 : Int} {v : Int} (hc : Con 5 mX9_addField 0 0 [vA 0, vI p1, vI p2, vI p3, vI p4] σ (vI v, σ')) : Con 6 mL_addField 1 6 [vA 0, vI p1, vI p2, vI p3, vI p4, vA 133] σ (vI 0, M1 σ' 133 0 v) := by
  refine con_of_go mfL_addField.1 trivial (Nat.le_of_ble_eq_true rfl) rfl (by decide) ?_
  show Go _ _ _ _ 0 [vA _, vI _, vI _, vI _, vI _, vA _, vT 9 0] [] _ _
  refine go_aload (at_of tL_addField 0 0 rfl) rfl ?_
  refine go_iconst (at_of tL_addField 0 1 rfl) (by unfold in32; omega) ?_
  refine go_aload_n (at_of tL_addField 0 2 rfl) rfl ?_
  refine go_iload_n (at_of tL_addField 0 3 rfl) rfl ?_
  refine go_iload_n (at_of tL_addField 0 4 rfl) rfl ?_
  refine go_iload_n (at_of tL_addField 0 5 rfl) rfl ?_
  refine go_iload (at_of tL_addField 0 6 rfl) rfl rfl ?_
  refine go_cV (hc) lk_L_21 rfl G_0 (at_of tL_addField 0 7 rfl) rfl (by decide) rfl (Nat.le_of_ble_eq_true rfl) rfl (by first | decide | exact ⟨Nat.zero_le _, Nat.zero_le _⟩) ?_
  refine go_i2l (at_of tL_addField 0 8 rfl) ?_
  refine go_last1 G_133 (by omega) (by omega) (at_of tL_addField 0 9 rfl) ?_
  refine go_goto (tgt := 33) (at_of tL_addField 0 10 rfl) (by decide) ?_
  refine go_iconst (at_of tL_addField 1 7 rfl) (by unfold in32; omega) ?_
  first | exact go_reti (at_of tL_addField 1 8 rfl) rfl | exact go_reti (at_of tL_addField 1 8 rfl) (le_i (by omega)) | exact go_reti (at_of tL_addField 1 8 rfl) (le_i (by first | exact bI_t (by omega) | exact bI_f (by omega)))
theorem wt_addField_0 {p1 p2 p3 p4 : Int} (hc : Con 5 mX9_addField 1 6 [vA 0, vI p1, vI p2, vI p3, vI p4] σ (vT 20 0, σ)) : Con 6 mL_addField 1 6 [vA 0, vI p1, vI p2, vI p3, vI p4, vA 133] σ (vI 1, σ) := by
  refine con_of_go mfL_addField.1 trivial (Nat.le_of_ble_eq_true rfl) rfl (by decide) ?_
  show Go _ _ _ _ 0 [vA _, vI _, vI _, vI _, vI _, vA _, vT 9 0] [] _ _
  refine go_aload (at_of tL_addField 0 0 rfl) rfl ?_
  refine go_iconst (at_of tL_addField 0 1 rfl) (by unfold in32; omega) ?_
  refine go_aload_n (at_of tL_addField 0 2 rfl) rfl ?_
  refine go_iload_n (at_of tL_addField 0 3 rfl) rfl ?_
  refine go_iload_n (at_of tL_addField 0 4 rfl) rfl ?_
  refine go_iload_n (at_of tL_addField 0 5 rfl) rfl ?_
  refine go_iload (at_of tL_addField 0 6 rfl) rfl rfl ?_
  refine go_callC (i := 0) (h := 17) (k := 6) (Or.inl ⟨9, 0, [vI p1, vI p2, vI p3, vI p4], rfl, rfl, G_0, lk_L_21, (at_of tL_addField 0 7 rfl)⟩) hc rfl ⟨[], [(0, 14, 21, 15), (0, 14, 25, 17), (0, 14, 29, 19)], 0, 14, 13, rfl, by decide, by decide, by decide, cl_L_13, List.mem_of_getElem? (i := 1) rfl, fun _ z => absurd z List.not_mem_nil⟩ (Or.inl ⟨rfl, (at_of tL_addField 0 11 rfl)⟩) rfl rfl (by decide) rfl (Nat.le_of_ble_eq_true rfl) rfl ⟨by decide, by decide⟩ ?_
  refine go_iconst (at_of tL_addField 0 12 rfl) (by unfold in32; omega) ?_
  first | exact go_reti (at_of tL_addField 0 13 rfl) rfl | exact go_reti (at_of tL_addField 0 13 rfl) (le_i (by omega)) | exact go_reti (at_of tL_addField 0 13 rfl) (le_i (by first | exact bI_t (by omega) | exact bI_f (by omega)))
theorem wt_addField_1 {p1 p2 p3 p4 : Int} (hc : Con 5 mX9_addField 1 6 [vA 0, vI p1, vI p2, vI p3, vI p4] σ (vT 21 0, σ)) : Con 6 mL_addField 1 6 [vA 0, vI p1, vI p2, vI p3, vI p4, vA 133] σ (vI 2, σ) := by
  refine con_of_go mfL_addField.1 trivial (Nat.le_of_ble_eq_true rfl) rfl (by decide) ?_
  show Go _ _ _ _ 0 [vA _, vI _, vI _, vI _, vI _, vA _, vT 9 0] [] _ _
  refine go_aload (at_of tL_addField 0 0 rfl) rfl ?_
  refine go_iconst (at_of tL_addField 0 1 rfl) (by unfold in32; omega) ?_
  refine go_aload_n (at_of tL_addField 0 2 rfl) rfl ?_
  refine go_iload_n (at_of tL_addField 0 3 rfl) rfl ?_
  refine go_iload_n (at_of tL_addField 0 4 rfl) rfl ?_
  refine go_iload_n (at_of tL_addField 0 5 rfl) rfl ?_
  refine go_iload (at_of tL_addField 0 6 rfl) rfl rfl ?_
  refine go_callC (i := 1) (h := 21) (k := 6) (Or.inl ⟨9, 0, [vI p1, vI p2, vI p3, vI p4], rfl, rfl, G_0, lk_L_21, (at_of tL_addField 0 7 rfl)⟩) hc rfl ⟨[(0, 14, 17, 13)], [(0, 14, 25, 17), (0, 14, 29, 19)], 0, 14, 15, rfl, by decide, by decide, by decide, cl_L_15, List.mem_of_getElem? (i := 2) rfl, List.forall_mem_cons.mpr ⟨⟨by decide, _, cl_L_13, List.mem_of_getElem? (i := 0) rfl⟩, fun _ z => absurd z List.not_mem_nil⟩⟩ (Or.inl ⟨rfl, (at_of tL_addField 0 14 rfl)⟩) rfl rfl (by decide) rfl (Nat.le_of_ble_eq_true rfl) rfl ⟨by decide, by decide⟩ ?_
  refine go_iconst (at_of tL_addField 0 15 rfl) (by unfold in32; omega) ?_
  first | exact go_reti (at_of tL_addField 1 0 rfl) rfl | exact go_reti (at_of tL_addField 1 0 rfl) (le_i (by omega)) | exact go_reti (at_of tL_addField 1 0 rfl) (le_i (by first | exact bI_t (by omega) | exact bI_f (by omega)))
theorem wt_addField_2 {p1 p2 p3 p4 : Int} (hc : Con 5 mX9_addField 1 6 [vA 0, vI p1, vI p2, vI p3, vI p4] σ (vT 22 0, σ)) : Con 6 mL_addField 1 6 [vA 0, vI p1, vI p2, vI p3, vI p4, vA 133] σ (vI 3, σ) := by
  refine con_of_go mfL_addField.1 trivial (Nat.le_of_ble_eq_true rfl) rfl (by decide) ?_
  show Go _ _ _ _ 0 [vA _, vI _, vI _, vI _, vI _, vA _, vT 9 0] [] _ _
  refine go_aload (at_of tL_addField 0 0 rfl) rfl ?_
  refine go_iconst (at_of tL_addField 0 1 rfl) (by unfold in32; omega) ?_
  refine go_aload_n (at_of tL_addField 0 2 rfl) rfl ?_
  refine go_iload_n (at_of tL_addField 0 3 rfl) rfl ?_
  refine go_iload_n (at_of tL_addField 0 4 rfl) rfl ?_
  refine go_iload_n (at_of tL_addField 0 5 rfl) rfl ?_
  refine go_iload (at_of tL_addField 0 6 rfl) rfl rfl ?_
  refine go_callC (i := 2) (h := 25) (k := 6) (Or.inl ⟨9, 0, [vI p1, vI p2, vI p3, vI p4], rfl, rfl, G_0, lk_L_21, (at_of tL_addField 0 7 rfl)⟩) hc rfl ⟨[(0, 14, 17, 13), (0, 14, 21, 15)], [(0, 14, 29, 19)], 0, 14, 17, rfl, by decide, by decide, by decide, cl_L_17, List.mem_of_getElem? (i := 3) rfl, List.forall_mem_cons.mpr ⟨⟨by decide, _, cl_L_13, List.mem_of_getElem? (i := 1) rfl⟩, List.forall_mem_cons.mpr ⟨⟨by decide, _, cl_L_15, List.mem_of_getElem? (i := 7) rfl⟩, fun _ z => absurd z List.not_mem_nil⟩⟩⟩ (Or.inl ⟨rfl, (at_of tL_addField 1 1 rfl)⟩) rfl rfl (by decide) rfl (Nat.le_of_ble_eq_true rfl) rfl ⟨by decide, by decide⟩ ?_
  refine go_iconst (at_of tL_addField 1 2 rfl) (by unfold in32; omega) ?_
  first | exact go_reti (at_of tL_addField 1 3 rfl) rfl | exact go_reti (at_of tL_addField 1 3 rfl) (le_i (by omega)) | exact go_reti (at_of tL_addField 1 3 rfl) (le_i (by first | exact bI_t (by omega) | exact bI_f (by omega)))
theorem wt_addField_3 {p1 p2 p3 p4 : Int} (hc : Con 5 mX9_addField 1 6 [vA 0, vI p1, vI p2, vI p3, vI p4] σ (vT 23 0, σ)) : Con 6 mL_addField 1 6 [vA 0, vI p1, vI p2, vI p3, vI p4, vA 133] σ (vI 4, σ) := by
  refine con_of_go mfL_addField.1 trivial (Nat.le_of_ble_eq_true rfl) rfl (by decide) ?_
  show Go _ _ _ _ 0 [vA _, vI _, vI _, vI _, vI _, vA _, vT 9 0] [] _ _
  refine go_aload (at_of tL_addField 0 0 rfl) rfl ?_
  refine go_iconst (at_of tL_addField 0 1 rfl) (by unfold in32; omega) ?_
  refine go_aload_n (at_of tL_addField 0 2 rfl) rfl ?_
  refine go_iload_n (at_of tL_addField 0 3 rfl) rfl ?_
  refine go_iload_n (at_of tL_addField 0 4 rfl) rfl ?_
  refine go_iload_n (at_of tL_addField 0 5 rfl) rfl ?_
  refine go_iload (at_of tL_addField 0 6 rfl) rfl rfl ?_
  refine go_callC (i := 3) (h := 29) (k := 6) (Or.inl ⟨9, 0, [vI p1, vI p2, vI p3, vI p4], rfl, rfl, G_0, lk_L_21, (at_of tL_addField 0 7 rfl)⟩) hc rfl ⟨[(0, 14, 17, 13), (0, 14, 21, 15), (0, 14, 25, 17)], [], 0, 14, 19, rfl, by decide, by decide, by decide, cl_L_19, List.mem_of_getElem? (i := 4) rfl, List.forall_mem_cons.mpr ⟨⟨by decide, _, cl_L_13, List.mem_of_getElem? (i := 2) rfl⟩, List.forall_mem_cons.mpr ⟨⟨by decide, _, cl_L_15, List.mem_of_getElem? (i := 8) rfl⟩, List.forall_mem_cons.mpr ⟨⟨by decide, _, cl_L_17, List.mem_of_getElem? (i := 14) rfl⟩, fun _ z => absurd z List.not_mem_nil⟩⟩⟩⟩ (Or.inl ⟨rfl, (at_of tL_addField 1 4 rfl)⟩) rfl rfl (by decide) rfl (Nat.le_of_ble_eq_true rfl) rfl ⟨by decide, by decide⟩ ?_
  refine go_iconst (at_of tL_addField 1 5 rfl) (by unfold in32; omega) ?_
  first | exact go_reti (at_of tL_addField 1 6 rfl) rfl | exact go_reti (at_of tL_addField 1 6 rfl) (le_i (by omega)) | exact go_reti (at_of tL_addField 1 6 rfl) (le_i (by first | exact bI_t (by omega) | exact bI_f (by omega)))
theorem wo_erase {p1 p2 p3 : Int} {v : Int} (hc : Con 6 mX9_erase 0 0 [vA 0, vI p1, vI p2, vI p3] σ (vI v, σ')) : Con 7 mL_erase 1 6 [vA 0, vI p1, vI p2, vI p3, vA 133] σ (vI 0, M1 σ' 133 0 v) := by
  refine con_of_go mfL_erase.1 trivial (Nat.le_of_ble_eq_true rfl) rfl (by decide) ?_
  show Go _ _ _ _ 0 [vA _, vI _, vI _, vI _, vA _, vT 9 0] [] _ _
  refine go_aload (at_of tL_erase 0 0 rfl) rfl ?_
  refine go_iconst (at_of tL_erase 0 1 rfl) (by unfold in32; omega) ?_
  refine go_aload_n (at_of tL_erase 0 2 rfl) rfl ?_
  refine go_iload_n (at_of tL_erase 0 3 rfl) rfl ?_
  refine go_iload_n (at_of tL_erase 0 4 rfl) rfl ?_
  refine go_iload_n (at_of tL_erase 0 5 rfl) rfl ?_
  refine go_cV (hc) lk_L_25 rfl G_0 (at_of tL_erase 0 6 rfl) rfl (by decide) rfl (Nat.le_of_ble_eq_true rfl) rfl (by first | decide | exact ⟨Nat.zero_le _, Nat.zero_le _⟩) ?_
  refine go_i2l (at_of tL_erase 0 7 rfl) ?_
  refine go_last1 G_133 (by omega) (by omega) (at_of tL_erase 0 8 rfl) ?_
  refine go_goto (tgt := 31) (at_of tL_erase 0 9 rfl) (by decide) ?_
  refine go_iconst (at_of tL_erase 1 6 rfl) (by unfold in32; omega) ?_
  first | exact go_reti (at_of tL_erase 1 7 rfl) rfl | exact go_reti (at_of tL_erase 1 7 rfl) (le_i (by omega)) | exact go_reti (at_of tL_erase 1 7 rfl) (le_i (by first | exact bI_t (by omega) | exact bI_f (by omega)))
theorem wt_erase_0 {p1 p2 p3 : Int} (hc : Con 6 mX9_erase 1 6 [vA 0, vI p1, vI p2, vI p3] σ (vT 20 0, σ)) : Con 7 mL_erase 1 6 [vA 0, vI p1, vI p2, vI p3, vA 133] σ (vI 1, σ) := by
  refine con_of_go mfL_erase.1 trivial (Nat.le_of_ble_eq_true rfl) rfl (by decide) ?_
  show Go _ _ _ _ 0 [vA _, vI _, vI _, vI _, vA _, vT 9 0] [] _ _
  refine go_aload (at_of tL_erase 0 0 rfl) rfl ?_
  refine go_iconst (at_of tL_erase 0 1 rfl) (by unfold in32; omega) ?_
  refine go_aload_n (at_of tL_erase 0 2 rfl) rfl ?_
  refine go_iload_n (at_of tL_erase 0 3 rfl) rfl ?_
  refine go_iload_n (at_of tL_erase 0 4 rfl) rfl ?_
  refine go_iload_n (at_of tL_erase 0 5 rfl) rfl ?_
  refine go_callC (i := 0) (h := 15) (k := 5) (Or.inl ⟨9, 0, [vI p1, vI p2, vI p3], rfl, rfl, G_0, lk_L_25, (at_of tL_erase 0 6 rfl)⟩) hc rfl ⟨[], [(0, 12, 19, 15), (0, 12, 23, 17), (0, 12, 27, 19)], 0, 12, 13, rfl, by decide, by decide, by decide, cl_L_13, List.mem_of_getElem? (i := 1) rfl, fun _ z => absurd z List.not_mem_nil⟩ (Or.inl ⟨rfl, (at_of tL_erase 0 10 rfl)⟩) rfl rfl (by decide) rfl (Nat.le_of_ble_eq_true rfl) rfl ⟨by decide, by decide⟩ ?_
  refine go_iconst (at_of tL_erase 0 11 rfl) (by unfold in32; omega) ?_
  first | exact go_reti (at_of tL_erase 0 12 rfl) rfl | exact go_reti (at_of tL_erase 0 12 rfl) (le_i (by omega)) | exact go_reti (at_of tL_erase 0 12 rfl) (le_i (by first | exact bI_t (by omega) | exact bI_f (by omega)))
theorem wt_erase_1 {p1 p2 p3 : Int} (hc : Con 6 mX9_erase 1 6 [vA 0, vI p1, vI p2, vI p3] σ (vT 21 0, σ)) : Con 7 mL_erase 1 6 [vA 0, vI p1, vI p2, vI p3, vA 133] σ (vI 2, σ) := by
  refine con_of_go mfL_erase.1 trivial (Nat.le_of_ble_eq_true rfl) rfl (by decide) ?_
  show Go _ _ _ _ 0 [vA _, vI _, vI _, vI _, vA _, vT 9 0] [] _ _
  refine go_aload (at_of tL_erase 0 0 rfl) rfl ?_
  refine go_iconst (at_of tL_erase 0 1 rfl) (by unfold in32; omega) ?_
  refine go_aload_n (at_of tL_erase 0 2 rfl) rfl ?_
  refine go_iload_n (at_of tL_erase 0 3 rfl) rfl ?_
  refine go_iload_n (at_of tL_erase 0 4 rfl) rfl ?_
  refine go_iload_n (at_of tL_erase 0 5 rfl) rfl ?_
  refine go_callC (i := 1) (h := 19) (k := 5) (Or.inl ⟨9, 0, [vI p1, vI p2, vI p3], rfl, rfl, G_0, lk_L_25, (at_of tL_erase 0 6 rfl)⟩) hc rfl ⟨[(0, 12, 15, 13)], [(0, 12, 23, 17), (0, 12, 27, 19)], 0, 12, 15, rfl, by decide, by decide, by decide, cl_L_15, List.mem_of_getElem? (i := 2) rfl, List.forall_mem_cons.mpr ⟨⟨by decide, _, cl_L_13, List.mem_of_getElem? (i := 0) rfl⟩, fun _ z => absurd z List.not_mem_nil⟩⟩ (Or.inl ⟨rfl, (at_of tL_erase 0 13 rfl)⟩) rfl rfl (by decide) rfl (Nat.le_of_ble_eq_true rfl) rfl ⟨by decide, by decide⟩ ?_
  refine go_iconst (at_of tL_erase 0 14 rfl) (by unfold in32; omega) ?_
  first | exact go_reti (at_of tL_erase 0 15 rfl) rfl | exact go_reti (at_of tL_erase 0 15 rfl) (le_i (by omega)) | exact go_reti (at_of tL_erase 0 15 rfl) (le_i (by first | exact bI_t (by omega) | exact bI_f (by omega)))
theorem wt_erase_2 {p1 p2 p3 : Int} (hc : Con 6 mX9_erase 1 6 [vA 0, vI p1, vI p2, vI p3] σ (vT 22 0, σ)) : Con 7 mL_erase 1 6 [vA 0, vI p1, vI p2, vI p3, vA 133] σ (vI 3, σ) := by
  refine con_of_go mfL_erase.1 trivial (Nat.le_of_ble_eq_true rfl) rfl (by decide) ?_
  show Go _ _ _ _ 0 [vA _, vI _, vI _, vI _, vA _, vT 9 0] [] _ _
  refine go_aload (at_of tL_erase 0 0 rfl) rfl ?_
  refine go_iconst (at_of tL_erase 0 1 rfl) (by unfold in32; omega) ?_
  refine go_aload_n (at_of tL_erase 0 2 rfl) rfl ?_
  refine go_iload_n (at_of tL_erase 0 3 rfl) rfl ?_
  refine go_iload_n (at_of tL_erase 0 4 rfl) rfl ?_
  refine go_iload_n (at_of tL_erase 0 5 rfl) rfl ?_
  refine go_callC (i := 2) (h := 23) (k := 5) (Or.inl ⟨9, 0, [vI p1, vI p2, vI p3], rfl, rfl, G_0, lk_L_25, (at_of tL_erase 0 6 rfl)⟩) hc rfl ⟨[(0, 12, 15, 13), (0, 12, 19, 15)], [(0, 12, 27, 19)], 0, 12, 17, rfl, by decide, by decide, by decide, cl_L_17, List.mem_of_getElem? (i := 3) rfl, List.forall_mem_cons.mpr ⟨⟨by decide, _, cl_L_13, List.mem_of_getElem? (i := 1) rfl⟩, List.forall_mem_cons.mpr ⟨⟨by decide, _, cl_L_15, List.mem_of_getElem? (i := 7) rfl⟩, fun _ z => absurd z List.not_mem_nil⟩⟩⟩ (Or.inl ⟨rfl, (at_of tL_erase 1 0 rfl)⟩) rfl rfl (by decide) rfl (Nat.le_of_ble_eq_true rfl) rfl ⟨by decide, by decide⟩ ?_
  refine go_iconst (at_of tL_erase 1 1 rfl) (by unfold in32; omega) ?_
  first | exact go_reti (at_of tL_erase 1 2 rfl) rfl | exact go_reti (at_of tL_erase 1 2 rfl) (le_i (by omega)) | exact go_reti (at_of tL_erase 1 2 rfl) (le_i (by first | exact bI_t (by omega) | exact bI_f (by omega)))
theorem wt_erase_3 {p1 p2 p3 : Int} (hc : Con 6 mX9_erase 1 6 [vA 0, vI p1, vI p2, vI p3] σ (vT 23 0, σ)) : Con 7 mL_erase 1 6 [vA 0, vI p1, vI p2, vI p3, vA 133] σ (vI 4, σ) := by
  refine con_of_go mfL_erase.1 trivial (Nat.le_of_ble_eq_true rfl) rfl (by decide) ?_
  show Go _ _ _ _ 0 [vA _, vI _, vI _, vI _, vA _, vT 9 0] [] _ _
  refine go_aload (at_of tL_erase 0 0 rfl) rfl ?_
  refine go_iconst (at_of tL_erase 0 1 rfl) (by unfold in32; omega) ?_
  refine go_aload_n (at_of tL_erase 0 2 rfl) rfl ?_
  refine go_iload_n (at_of tL_erase 0 3 rfl) rfl ?_
  refine go_iload_n (at_of tL_erase 0 4 rfl) rfl ?_
  refine go_iload_n (at_of tL_erase 0 5 rfl) rfl ?_
  refine go_callC (i := 3) (h := 27) (k := 5) (Or.inl ⟨9, 0, [vI p1, vI p2, vI p3], rfl, rfl, G_0, lk_L_25, (at_of tL_erase 0 6 rfl)⟩) hc rfl ⟨[(0, 12, 15, 13), (0, 12, 19, 15), (0, 12, 23, 17)], [], 0, 12, 19, rfl, by decide, by decide, by decide, cl_L_19, List.mem_of_getElem? (i := 4) rfl, List.forall_mem_cons.mpr ⟨⟨by decide, _, cl_L_13, List.mem_of_getElem? (i := 2) rfl⟩, List.forall_mem_cons.mpr ⟨⟨by decide, _, cl_L_15, List.mem_of_getElem? (i := 8) rfl⟩, List.forall_mem_cons.mpr ⟨⟨by decide, _, cl_L_17, List.mem_of_getElem? (i := 14) rfl⟩, fun _ z => absurd z List.not_mem_nil⟩⟩⟩⟩ (Or.inl ⟨rfl, (at_of tL_erase 1 3 rfl)⟩) rfl rfl (by decide) rfl (Nat.le_of_ble_eq_true rfl) rfl ⟨by decide, by decide⟩ ?_
  refine go_iconst (at_of tL_erase 1 4 rfl) (by unfold in32; omega) ?_
  first | exact go_reti (at_of tL_erase 1 5 rfl) rfl | exact go_reti (at_of tL_erase 1 5 rfl) (le_i (by omega)) | exact go_reti (at_of tL_erase 1 5 rfl) (le_i (by first | exact bI_t (by omega) | exact bI_f (by omega)))
theorem wo_setStyle {p1 p2 p3 : Int} {v : Int} (hc : Con 5 mX9_setStyle 0 0 [vA 0, vI p1, vI p2, vI p3] σ (vI v, σ')) : Con 6 mL_setStyle 1 6 [vA 0, vI p1, vI p2, vI p3, vA 133] σ (vI 0, M1 σ' 133 0 v) := by
  refine con_of_go mfL_setStyle.1 trivial (Nat.le_of_ble_eq_true rfl) rfl (by decide) ?_
  show Go _ _ _ _ 0 [vA _, vI _, vI _, vI _, vA _, vT 9 0] [] _ _
  refine go_aload (at_of tL_setStyle 0 0 rfl) rfl ?_
  refine go_iconst (at_of tL_setStyle 0 1 rfl) (by unfold in32; omega) ?_
  refine go_aload_n (at_of tL_setStyle 0 2 rfl) rfl ?_
  refine go_iload_n (at_of tL_setStyle 0 3 rfl) rfl ?_
  refine go_iload_n (at_of tL_setStyle 0 4 rfl) rfl ?_
  refine go_iload_n (at_of tL_setStyle 0 5 rfl) rfl ?_
  refine go_cV (hc) lk_L_29 rfl G_0 (at_of tL_setStyle 0 6 rfl) rfl (by decide) rfl (Nat.le_of_ble_eq_true rfl) rfl (by first | decide | exact ⟨Nat.zero_le _, Nat.zero_le _⟩) ?_
  refine go_i2l (at_of tL_setStyle 0 7 rfl) ?_
  refine go_last1 G_133 (by omega) (by omega) (at_of tL_setStyle 0 8 rfl) ?_
  refine go_goto (tgt := 27) (at_of tL_setStyle 0 9 rfl) (by decide) ?_
  refine go_iconst (at_of tL_setStyle 1 3 rfl) (by unfold in32; omega) ?_
  first | exact go_reti (at_of tL_setStyle 1 4 rfl) rfl | exact go_reti (at_of tL_setStyle 1 4 rfl) (le_i (by omega)) | exact go_reti (at_of tL_setStyle 1 4 rfl) (le_i (by first | exact bI_t (by omega) | exact bI_f (by omega)))
theorem wt_setStyle_0 {p1 p2 p3 : Int} (hc : Con 5 mX9_setStyle 1 6 [vA 0, vI p1, vI p2, vI p3] σ (vT 20 0, σ)) : Con 6 mL_setStyle 1 6 [vA 0, vI p1, vI p2, vI p3, vA 133] σ (vI 1, σ) := by
  refine con_of_go mfL_setStyle.1 trivial (Nat.le_of_ble_eq_true rfl) rfl (by decide) ?_
  show Go _ _ _ _ 0 [vA _, vI _, vI _, vI _, vA _, vT 9 0] [] _ _
  refine go_aload (at_of tL_setStyle 0 0 rfl) rfl ?_
  refine go_iconst (at_of tL_setStyle 0 1 rfl) (by unfold in32; omega) ?_
  refine go_aload_n (at_of tL_setStyle 0 2 rfl) rfl ?_
  refine go_iload_n (at_of tL_setStyle 0 3 rfl) rfl ?_
  refine go_iload_n (at_of tL_setStyle 0 4 rfl) rfl ?_
  refine go_iload_n (at_of tL_setStyle 0 5 rfl) rfl ?_
  refine go_callC (i := 0) (h := 15) (k := 5) (Or.inl ⟨9, 0, [vI p1, vI p2, vI p3], rfl, rfl, G_0, lk_L_29, (at_of tL_setStyle 0 6 rfl)⟩) hc rfl ⟨[], [(0, 12, 19, 17), (0, 12, 23, 19)], 0, 12, 13, rfl, by decide, by decide, by decide, cl_L_13, List.mem_of_getElem? (i := 1) rfl, fun _ z => absurd z List.not_mem_nil⟩ (Or.inl ⟨rfl, (at_of tL_setStyle 0 10 rfl)⟩) rfl rfl (by decide) rfl (Nat.le_of_ble_eq_true rfl) rfl ⟨by decide, by decide⟩ ?_
  refine go_iconst (at_of tL_setStyle 0 11 rfl) (by unfold in32; omega) ?_
  first | exact go_reti (at_of tL_setStyle 0 12 rfl) rfl | exact go_reti (at_of tL_setStyle 0 12 rfl) (le_i (by omega)) | exact go_reti (at_of tL_setStyle 0 12 rfl) (le_i (by first | exact bI_t (by omega) | exact bI_f (by omega)))
theorem wt_setStyle_2 {p1 p2 p3 : Int} (hc : Con 5 mX9_setStyle 1 6 [vA 0, vI p1, vI p2, vI p3] σ (vT 22 0, σ)) : Con 6 mL_setStyle 1 6 [vA 0, vI p1, vI p2, vI p3, vA 133] σ (vI 2, σ) := by
  refine con_of_go mfL_setStyle.1 trivial (Nat.le_of_ble_eq_true rfl) rfl (by decide) ?_
  show Go _ _ _ _ 0 [vA _, vI _, vI _, vI _, vA _, vT 9 0] [] _ _
  refine go_aload (at_of tL_setStyle 0 0 rfl) rfl ?_
  refine go_iconst (at_of tL_setStyle 0 1 rfl) (by unfold in32; omega) ?_
  refine go_aload_n (at_of tL_setStyle 0 2 rfl) rfl ?_
  refine go_iload_n (at_of tL_setStyle 0 3 rfl) rfl ?_
  refine go_iload_n (at_of tL_setStyle 0 4 rfl) rfl ?_
  refine go_iload_n (at_of tL_setStyle 0 5 rfl) rfl ?_
  refine go_callC (i := 2) (h := 19) (k := 5) (Or.inl ⟨9, 0, [vI p1, vI p2, vI p3], rfl, rfl, G_0, lk_L_29, (at_of tL_setStyle 0 6 rfl)⟩) hc rfl ⟨[(0, 12, 15, 13)], [(0, 12, 23, 19)], 0, 12, 17, rfl, by decide, by decide, by decide, cl_L_17, List.mem_of_getElem? (i := 3) rfl, List.forall_mem_cons.mpr ⟨⟨by decide, _, cl_L_13, List.mem_of_getElem? (i := 1) rfl⟩, fun _ z => absurd z List.not_mem_nil⟩⟩ (Or.inl ⟨rfl, (at_of tL_setStyle 0 13 rfl)⟩) rfl rfl (by decide) rfl (Nat.le_of_ble_eq_true rfl) rfl ⟨by decide, by decide⟩ ?_
  refine go_iconst (at_of tL_setStyle 0 14 rfl) (by unfold in32; omega) ?_
  first | exact go_reti (at_of tL_setStyle 0 15 rfl) rfl | exact go_reti (at_of tL_setStyle 0 15 rfl) (le_i (by omega)) | exact go_reti (at_of tL_setStyle 0 15 rfl) (le_i (by first | exact bI_t (by omega) | exact bI_f (by omega)))
theorem wt_setStyle_3 {p1 p2 p3 : Int} (hc : Con 5 mX9_setStyle 1 6 [vA 0, vI p1, vI p2, vI p3] σ (vT 23 0, σ)) : Con 6 mL_setStyle 1 6 [vA 0, vI p1, vI p2, vI p3, vA 133] σ (vI 3, σ) := by
  refine con_of_go mfL_setStyle.1 trivial (Nat.le_of_ble_eq_true rfl) rfl (by decide) ?_
  show Go _ _ _ _ 0 [vA _, vI _, vI _, vI _, vA _, vT 9 0] [] _ _
  refine go_aload (at_of tL_setStyle 0 0 rfl) rfl ?_
  refine go_iconst (at_of tL_setStyle 0 1 rfl) (by unfold in32; omega) ?_
  refine go_aload_n (at_of tL_setStyle 0 2 rfl) rfl ?_
  refine go_iload_n (at_of tL_setStyle 0 3 rfl) rfl ?_
  refine go_iload_n (at_of tL_setStyle 0 4 rfl) rfl ?_
  refine go_iload_n (at_of tL_setStyle 0 5 rfl) rfl ?_
  refine go_callC (i := 3) (h := 23) (k := 5) (Or.inl ⟨9, 0, [vI p1, vI p2, vI p3], rfl, rfl, G_0, lk_L_29, (at_of tL_setStyle 0 6 rfl)⟩) hc rfl ⟨[(0, 12, 15, 13), (0, 12, 19, 17)], [], 0, 12, 19, rfl, by decide, by decide, by decide, cl_L_19, List.mem_of_getElem? (i := 4) rfl, List.forall_mem_cons.mpr ⟨⟨by decide, _, cl_L_13, List.mem_of_getElem? (i := 2) rfl⟩, List.forall_mem_cons.mpr ⟨⟨by decide, _, cl_L_17, List.mem_of_getElem? (i := 14) rfl⟩, fun _ z => absurd z List.not_mem_nil⟩⟩⟩ (Or.inl ⟨rfl, (at_of tL_setStyle 1 0 rfl)⟩) rfl rfl (by decide) rfl (Nat.le_of_ble_eq_true rfl) rfl ⟨by decide, by decide⟩ ?_
  refine go_iconst (at_of tL_setStyle 1 1 rfl) (by unfold in32; omega) ?_
  first | exact go_reti (at_of tL_setStyle 1 2 rfl) rfl | exact go_reti (at_of tL_setStyle 1 2 rfl) (le_i (by omega)) | exact go_reti (at_of tL_setStyle 1 2 rfl) (le_i (by first | exact bI_t (by omega) | exact bI_f (by omega)))
theorem wo_protect {p1 p2 : Int} {v : Int} (hv : v = 0 ∨ v = 1) (hc : Con 4 mX9_protect 0 0 [vA 0, vI p1, vI p2] σ (vI v, σ')) : Con 5 mL_protect 1 6 [vA 0, vI p1, vI p2, vA 133] σ (vI 0, M1 σ' 133 0 v) := by
  rcases hv with rfl | rfl
  · refine con_of_go mfL_protect.1 trivial (Nat.le_of_ble_eq_true rfl) rfl (by decide) ?_
    show Go _ _ _ _ 0 [vA _, vI _, vI _, vA _, vT 9 0] [] _ _
    refine go_aload_n (at_of tL_protect 0 0 rfl) rfl ?_
    refine go_iconst (at_of tL_protect 0 1 rfl) (by unfold in32; omega) ?_
    refine go_aload_n (at_of tL_protect 0 2 rfl) rfl ?_
    refine go_iload_n (at_of tL_protect 0 3 rfl) rfl ?_
    refine go_iload_n (at_of tL_protect 0 4 rfl) rfl ?_
    refine go_cV (hc) lk_L_32 rfl G_0 (at_of tL_protect 0 5 rfl) rfl (by decide) rfl (Nat.le_of_ble_eq_true rfl) rfl (by first | decide | exact ⟨Nat.zero_le _, Nat.zero_le _⟩) ?_
    refine go_if_eq (tgt := 15) (at_of tL_protect 0 6 rfl) (by decide) (fun h8 => ?_) (fun h8 => ?_)
    rotate_left
    · exfalso; omega
    refine go_lconst (at_of tL_protect 0 9 rfl) ?_
    refine go_last1 G_133 (by omega) (by omega) (at_of tL_protect 0 10 rfl) ?_
    refine go_goto (tgt := 24) (at_of tL_protect 0 11 rfl) (by decide) ?_
    refine go_iconst (at_of tL_protect 0 15 rfl) (by unfold in32; omega) ?_
    first | exact go_reti (at_of tL_protect 1 0 rfl) rfl | exact go_reti (at_of tL_protect 1 0 rfl) (le_i (by omega)) | exact go_reti (at_of tL_protect 1 0 rfl) (le_i (by first | exact bI_t (by omega) | exact bI_f (by omega)))
  · refine con_of_go mfL_protect.1 trivial (Nat.le_of_ble_eq_true rfl) rfl (by decide) ?_
    show Go _ _ _ _ 0 [vA _, vI _, vI _, vA _, vT 9 0] [] _ _
    refine go_aload_n (at_of tL_protect 0 0 rfl) rfl ?_
    refine go_iconst (at_of tL_protect 0 1 rfl) (by unfold in32; omega) ?_
    refine go_aload_n (at_of tL_protect 0 2 rfl) rfl ?_
    refine go_iload_n (at_of tL_protect 0 3 rfl) rfl ?_
    refine go_iload_n (at_of tL_protect 0 4 rfl) rfl ?_
    refine go_cV (hc) lk_L_32 rfl G_0 (at_of tL_protect 0 5 rfl) rfl (by decide) rfl (Nat.le_of_ble_eq_true rfl) rfl (by first | decide | exact ⟨Nat.zero_le _, Nat.zero_le _⟩) ?_
    refine go_if_eq (tgt := 15) (at_of tL_protect 0 6 rfl) (by decide) (fun h8 => ?_) (fun h8 => ?_)
    · exfalso; omega
    refine go_lconst (at_of tL_protect 0 7 rfl) ?_
    refine go_goto (tgt := 16) (at_of tL_protect 0 8 rfl) (by decide) ?_
    refine go_last1 G_133 (by omega) (by omega) (at_of tL_protect 0 10 rfl) ?_
    refine go_goto (tgt := 24) (at_of tL_protect 0 11 rfl) (by decide) ?_
    refine go_iconst (at_of tL_protect 0 15 rfl) (by unfold in32; omega) ?_
    first | exact go_reti (at_of tL_protect 1 0 rfl) rfl | exact go_reti (at_of tL_protect 1 0 rfl) (le_i (by omega)) | exact go_reti (at_of tL_protect 1 0 rfl) (le_i (by first | exact bI_t (by omega) | exact bI_f (by omega)))
theorem wt_protect_0 {p1 p2 : Int} (hc : Con 4 mX9_protect 1 6 [vA 0, vI p1, vI p2] σ (vT 20 0, σ)) : Con 5 mL_protect 1 6 [vA 0, vI p1, vI p2, vA 133] σ (vI 1, σ) := by
  refine con_of_go mfL_protect.1 trivial (Nat.le_of_ble_eq_true rfl) rfl (by decide) ?_
  show Go _ _ _ _ 0 [vA _, vI _, vI _, vA _, vT 9 0] [] _ _
  refine go_aload_n (at_of tL_protect 0 0 rfl) rfl ?_
  refine go_iconst (at_of tL_protect 0 1 rfl) (by unfold in32; omega) ?_
  refine go_aload_n (at_of tL_protect 0 2 rfl) rfl ?_
  refine go_iload_n (at_of tL_protect 0 3 rfl) rfl ?_
  refine go_iload_n (at_of tL_protect 0 4 rfl) rfl ?_
  refine go_callC (i := 0) (h := 20) (k := 4) (Or.inl ⟨9, 0, [vI p1, vI p2], rfl, rfl, G_0, lk_L_32, (at_of tL_protect 0 5 rfl)⟩) hc rfl ⟨[], [], 0, 17, 13, rfl, by decide, by decide, by decide, cl_L_13, List.mem_of_getElem? (i := 1) rfl, fun _ z => absurd z List.not_mem_nil⟩ (Or.inl ⟨rfl, (at_of tL_protect 0 12 rfl)⟩) rfl rfl (by decide) rfl (Nat.le_of_ble_eq_true rfl) rfl ⟨by decide, by decide⟩ ?_
  refine go_iconst (at_of tL_protect 0 13 rfl) (by unfold in32; omega) ?_
  first | exact go_reti (at_of tL_protect 0 14 rfl) rfl | exact go_reti (at_of tL_protect 0 14 rfl) (le_i (by omega)) | exact go_reti (at_of tL_protect 0 14 rfl) (le_i (by first | exact bI_t (by omega) | exact bI_f (by omega)))
theorem wo_undo {v : Int} (hc : Con 1 mX9_undo 0 0 [vA 0] σ (vI v, σ')) : Con 2 mL_undo 1 6 [vA 0, vA 133] σ (vI 0, M1 σ' 133 0 v) := by
  refine con_of_go mfL_undo.1 trivial (Nat.le_of_ble_eq_true rfl) rfl (by decide) ?_
  show Go _ _ _ _ 0 [vA _, vA _, vT 9 0] [] _ _
  refine go_aload_n (at_of tL_undo 0 0 rfl) rfl ?_
  refine go_iconst (at_of tL_undo 0 1 rfl) (by unfold in32; omega) ?_
  refine go_aload_n (at_of tL_undo 0 2 rfl) rfl ?_
  refine go_cV (hc) lk_L_36 rfl G_0 (at_of tL_undo 0 3 rfl) rfl (by decide) rfl (Nat.le_of_ble_eq_true rfl) rfl (by first | decide | exact ⟨Nat.zero_le _, Nat.zero_le _⟩) ?_
  refine go_i2l (at_of tL_undo 0 4 rfl) ?_
  refine go_last1 G_133 (by omega) (by omega) (at_of tL_undo 0 5 rfl) ?_
  refine go_goto (tgt := 14) (at_of tL_undo 0 6 rfl) (by decide) ?_
  refine go_iconst (at_of tL_undo 0 10 rfl) (by unfold in32; omega) ?_
  first | exact go_reti (at_of tL_undo 0 11 rfl) rfl | exact go_reti (at_of tL_undo 0 11 rfl) (le_i (by omega)) | exact go_reti (at_of tL_undo 0 11 rfl) (le_i (by first | exact bI_t (by omega) | exact bI_f (by omega)))
theorem wt_undo_4 (hc : Con 1 mX9_undo 1 6 [vA 0] σ (vT 24 0, σ)) : Con 2 mL_undo 1 6 [vA 0, vA 133] σ (vI 1, σ) := by
  refine con_of_go mfL_undo.1 trivial (Nat.le_of_ble_eq_true rfl) rfl (by decide) ?_
  show Go _ _ _ _ 0 [vA _, vA _, vT 9 0] [] _ _
  refine go_aload_n (at_of tL_undo 0 0 rfl) rfl ?_
  refine go_iconst (at_of tL_undo 0 1 rfl) (by unfold in32; omega) ?_
  refine go_aload_n (at_of tL_undo 0 2 rfl) rfl ?_
  refine go_callC (i := 4) (h := 11) (k := 2) (Or.inl ⟨9, 0, [], rfl, rfl, G_0, lk_L_36, (at_of tL_undo 0 3 rfl)⟩) hc rfl ⟨[], [], 0, 8, 40, rfl, by decide, by decide, by decide, cl_L_40, List.mem_of_getElem? (i := 5) rfl, fun _ z => absurd z List.not_mem_nil⟩ (Or.inr ⟨rfl, 2, rfl, (at_of tL_undo 0 7 rfl)⟩) rfl rfl (by decide) rfl (Nat.le_of_ble_eq_true rfl) rfl ⟨by decide, by decide⟩ ?_
  refine go_iconst (at_of tL_undo 0 8 rfl) (by unfold in32; omega) ?_
  first | exact go_reti (at_of tL_undo 0 9 rfl) rfl | exact go_reti (at_of tL_undo 0 9 rfl) (le_i (by omega)) | exact go_reti (at_of tL_undo 0 9 rfl) (le_i (by first | exact bI_t (by omega) | exact bI_f (by omega)))
theorem wo_redo {v : Int} (hc : Con 1 mX9_redo 0 0 [vA 0] σ (vI v, σ')) : Con 2 mL_redo 1 6 [vA 0, vA 133] σ (vI 0, M1 σ' 133 0 v) := by
  refine con_of_go mfL_redo.1 trivial (Nat.le_of_ble_eq_true rfl) rfl (by decide) ?_
  show Go _ _ _ _ 0 [vA _, vA _, vT 9 0] [] _ _
  refine go_aload_n (at_of tL_redo 0 0 rfl) rfl ?_
  refine go_iconst (at_of tL_redo 0 1 rfl) (by unfold in32; omega) ?_
  refine go_aload_n (at_of tL_redo 0 2 rfl) rfl ?_
  refine go_cV (hc) lk_L_42 rfl G_0 (at_of tL_redo 0 3 rfl) rfl (by decide) rfl (Nat.le_of_ble_eq_true rfl) rfl (by first | decide | exact ⟨Nat.zero_le _, Nat.zero_le _⟩) ?_
  refine go_i2l (at_of tL_redo 0 4 rfl) ?_
  refine go_last1 G_133 (by omega) (by omega) (at_of tL_redo 0 5 rfl) ?_
  refine go_goto (tgt := 14) (at_of tL_redo 0 6 rfl) (by decide) ?_
  refine go_iconst (at_of tL_redo 0 10 rfl) (by unfold in32; omega) ?_
  first | exact go_reti (at_of tL_redo 0 11 rfl) rfl | exact go_reti (at_of tL_redo 0 11 rfl) (le_i (by omega)) | exact go_reti (at_of tL_redo 0 11 rfl) (le_i (by first | exact bI_t (by omega) | exact bI_f (by omega)))
theorem wt_redo_4 (hc : Con 1 mX9_redo 1 6 [vA 0] σ (vT 24 0, σ)) : Con 2 mL_redo 1 6 [vA 0, vA 133] σ (vI 1, σ) := by
  refine con_of_go mfL_redo.1 trivial (Nat.le_of_ble_eq_true rfl) rfl (by decide) ?_
  show Go _ _ _ _ 0 [vA _, vA _, vT 9 0] [] _ _
  refine go_aload_n (at_of tL_redo 0 0 rfl) rfl ?_
  refine go_iconst (at_of tL_redo 0 1 rfl) (by unfold in32; omega) ?_
  refine go_aload_n (at_of tL_redo 0 2 rfl) rfl ?_
  refine go_callC (i := 4) (h := 11) (k := 2) (Or.inl ⟨9, 0, [], rfl, rfl, G_0, lk_L_42, (at_of tL_redo 0 3 rfl)⟩) hc rfl ⟨[], [], 0, 8, 40, rfl, by decide, by decide, by decide, cl_L_40, List.mem_of_getElem? (i := 5) rfl, fun _ z => absurd z List.not_mem_nil⟩ (Or.inr ⟨rfl, 2, rfl, (at_of tL_redo 0 7 rfl)⟩) rfl rfl (by decide) rfl (Nat.le_of_ble_eq_true rfl) rfl ⟨by decide, by decide⟩ ?_
  refine go_iconst (at_of tL_redo 0 8 rfl) (by unfold in32; omega) ?_
  first | exact go_reti (at_of tL_redo 0 9 rfl) rfl | exact go_reti (at_of tL_redo 0 9 rfl) (le_i (by omega)) | exact go_reti (at_of tL_redo 0 9 rfl) (le_i (by first | exact bI_t (by omega) | exact bI_f (by omega)))
theorem wo_unitAt {p1 : Int} {v : Int} (hc : Con 5 mX9_unitAt 0 0 [vA 0, vI p1] σ (vI v, σ')) : Con 6 mL_unitAt 1 6 [vA 0, vI p1, vA 133] σ (vI 0, M1 σ' 133 0 v) := by
  refine con_of_go mfL_unitAt.1 trivial (Nat.le_of_ble_eq_true rfl) rfl (by decide) ?_
  show Go _ _ _ _ 0 [vA _, vI _, vA _, vT 9 0] [] _ _
  refine go_aload_n (at_of tL_unitAt 0 0 rfl) rfl ?_
  refine go_iconst (at_of tL_unitAt 0 1 rfl) (by unfold in32; omega) ?_
  refine go_aload_n (at_of tL_unitAt 0 2 rfl) rfl ?_
  refine go_iload_n (at_of tL_unitAt 0 3 rfl) rfl ?_
  refine go_cV (hc) lk_L_45 rfl G_0 (at_of tL_unitAt 0 4 rfl) rfl (by decide) rfl (Nat.le_of_ble_eq_true rfl) rfl (by first | decide | exact ⟨Nat.zero_le _, Nat.zero_le _⟩) ?_
  refine go_i2l (at_of tL_unitAt 0 5 rfl) ?_
  refine go_last1 G_133 (by omega) (by omega) (at_of tL_unitAt 0 6 rfl) ?_
  refine go_goto (tgt := 15) (at_of tL_unitAt 0 7 rfl) (by decide) ?_
  refine go_iconst (at_of tL_unitAt 0 11 rfl) (by unfold in32; omega) ?_
  first | exact go_reti (at_of tL_unitAt 0 12 rfl) rfl | exact go_reti (at_of tL_unitAt 0 12 rfl) (le_i (by omega)) | exact go_reti (at_of tL_unitAt 0 12 rfl) (le_i (by first | exact bI_t (by omega) | exact bI_f (by omega)))
theorem wt_unitAt_0 {p1 : Int} (hc : Con 5 mX9_unitAt 1 6 [vA 0, vI p1] σ (vT 20 0, σ)) : Con 6 mL_unitAt 1 6 [vA 0, vI p1, vA 133] σ (vI 1, σ) := by
  refine con_of_go mfL_unitAt.1 trivial (Nat.le_of_ble_eq_true rfl) rfl (by decide) ?_
  show Go _ _ _ _ 0 [vA _, vI _, vA _, vT 9 0] [] _ _
  refine go_aload_n (at_of tL_unitAt 0 0 rfl) rfl ?_
  refine go_iconst (at_of tL_unitAt 0 1 rfl) (by unfold in32; omega) ?_
  refine go_aload_n (at_of tL_unitAt 0 2 rfl) rfl ?_
  refine go_iload_n (at_of tL_unitAt 0 3 rfl) rfl ?_
  refine go_callC (i := 0) (h := 12) (k := 3) (Or.inl ⟨9, 0, [vI p1], rfl, rfl, G_0, lk_L_45, (at_of tL_unitAt 0 4 rfl)⟩) hc rfl ⟨[], [], 0, 9, 13, rfl, by decide, by decide, by decide, cl_L_13, List.mem_of_getElem? (i := 1) rfl, fun _ z => absurd z List.not_mem_nil⟩ (Or.inr ⟨rfl, 3, rfl, (at_of tL_unitAt 0 8 rfl)⟩) rfl rfl (by decide) rfl (Nat.le_of_ble_eq_true rfl) rfl ⟨by decide, by decide⟩ ?_
  refine go_iconst (at_of tL_unitAt 0 9 rfl) (by unfold in32; omega) ?_
  first | exact go_reti (at_of tL_unitAt 0 10 rfl) rfl | exact go_reti (at_of tL_unitAt 0 10 rfl) (le_i (by omega)) | exact go_reti (at_of tL_unitAt 0 10 rfl) (le_i (by first | exact bI_t (by omega) | exact bI_f (by omega)))
theorem wo_oldAt {p1 : Int} {v : Int} (hc : Con 3 mX9_oldAt 0 0 [vA 0, vI p1] σ (vI v, σ')) : Con 4 mL_oldAt 1 6 [vA 0, vI p1, vA 133] σ (vI 0, M1 σ' 133 0 v) := by
  refine con_of_go mfL_oldAt.1 trivial (Nat.le_of_ble_eq_true rfl) rfl (by decide) ?_
  show Go _ _ _ _ 0 [vA _, vI _, vA _, vT 9 0] [] _ _
  refine go_aload_n (at_of tL_oldAt 0 0 rfl) rfl ?_
  refine go_iconst (at_of tL_oldAt 0 1 rfl) (by unfold in32; omega) ?_
  refine go_aload_n (at_of tL_oldAt 0 2 rfl) rfl ?_
  refine go_iload_n (at_of tL_oldAt 0 3 rfl) rfl ?_
  refine go_cV (hc) lk_L_49 rfl G_0 (at_of tL_oldAt 0 4 rfl) rfl (by decide) rfl (Nat.le_of_ble_eq_true rfl) rfl (by first | decide | exact ⟨Nat.zero_le _, Nat.zero_le _⟩) ?_
  refine go_i2l (at_of tL_oldAt 0 5 rfl) ?_
  refine go_last1 G_133 (by omega) (by omega) (at_of tL_oldAt 0 6 rfl) ?_
  refine go_goto (tgt := 15) (at_of tL_oldAt 0 7 rfl) (by decide) ?_
  refine go_iconst (at_of tL_oldAt 0 11 rfl) (by unfold in32; omega) ?_
  first | exact go_reti (at_of tL_oldAt 0 12 rfl) rfl | exact go_reti (at_of tL_oldAt 0 12 rfl) (le_i (by omega)) | exact go_reti (at_of tL_oldAt 0 12 rfl) (le_i (by first | exact bI_t (by omega) | exact bI_f (by omega)))
theorem wt_oldAt_0 {p1 : Int} (hc : Con 3 mX9_oldAt 1 6 [vA 0, vI p1] σ (vT 20 0, σ)) : Con 4 mL_oldAt 1 6 [vA 0, vI p1, vA 133] σ (vI 1, σ) := by
  refine con_of_go mfL_oldAt.1 trivial (Nat.le_of_ble_eq_true rfl) rfl (by decide) ?_
  show Go _ _ _ _ 0 [vA _, vI _, vA _, vT 9 0] [] _ _
  refine go_aload_n (at_of tL_oldAt 0 0 rfl) rfl ?_
  refine go_iconst (at_of tL_oldAt 0 1 rfl) (by unfold in32; omega) ?_
  refine go_aload_n (at_of tL_oldAt 0 2 rfl) rfl ?_
  refine go_iload_n (at_of tL_oldAt 0 3 rfl) rfl ?_
  refine go_callC (i := 0) (h := 12) (k := 3) (Or.inl ⟨9, 0, [vI p1], rfl, rfl, G_0, lk_L_49, (at_of tL_oldAt 0 4 rfl)⟩) hc rfl ⟨[], [], 0, 9, 13, rfl, by decide, by decide, by decide, cl_L_13, List.mem_of_getElem? (i := 1) rfl, fun _ z => absurd z List.not_mem_nil⟩ (Or.inr ⟨rfl, 3, rfl, (at_of tL_oldAt 0 8 rfl)⟩) rfl rfl (by decide) rfl (Nat.le_of_ble_eq_true rfl) rfl ⟨by decide, by decide⟩ ?_
  refine go_iconst (at_of tL_oldAt 0 9 rfl) (by unfold in32; omega) ?_
  first | exact go_reti (at_of tL_oldAt 0 10 rfl) rfl | exact go_reti (at_of tL_oldAt 0 10 rfl) (le_i (by omega)) | exact go_reti (at_of tL_oldAt 0 10 rfl) (le_i (by first | exact bI_t (by omega) | exact bI_f (by omega)))
theorem wo_paragraphOf {p1 : Int} {v : Int} (hc : Con 4 mX9_paragraphOf 0 0 [vA 0, vI p1] σ (vI v, σ')) : Con 5 mL_paragraphOf 1 6 [vA 0, vI p1, vA 133] σ (vI 0, M1 σ' 133 0 v) := by
  refine con_of_go mfL_paragraphOf.1 trivial (Nat.le_of_ble_eq_true rfl) rfl (by decide) ?_
  show Go _ _ _ _ 0 [vA _, vI _, vA _, vT 9 0] [] _ _
  refine go_aload_n (at_of tL_paragraphOf 0 0 rfl) rfl ?_
  refine go_iconst (at_of tL_paragraphOf 0 1 rfl) (by unfold in32; omega) ?_
  refine go_aload_n (at_of tL_paragraphOf 0 2 rfl) rfl ?_
  refine go_iload_n (at_of tL_paragraphOf 0 3 rfl) rfl ?_
  refine go_cV (hc) lk_L_52 rfl G_0 (at_of tL_paragraphOf 0 4 rfl) rfl (by decide) rfl (Nat.le_of_ble_eq_true rfl) rfl (by first | decide | exact ⟨Nat.zero_le _, Nat.zero_le _⟩) ?_
  refine go_i2l (at_of tL_paragraphOf 0 5 rfl) ?_
  refine go_last1 G_133 (by omega) (by omega) (at_of tL_paragraphOf 0 6 rfl) ?_
  refine go_goto (tgt := 15) (at_of tL_paragraphOf 0 7 rfl) (by decide) ?_
  refine go_iconst (at_of tL_paragraphOf 0 11 rfl) (by unfold in32; omega) ?_
  first | exact go_reti (at_of tL_paragraphOf 0 12 rfl) rfl | exact go_reti (at_of tL_paragraphOf 0 12 rfl) (le_i (by omega)) | exact go_reti (at_of tL_paragraphOf 0 12 rfl) (le_i (by first | exact bI_t (by omega) | exact bI_f (by omega)))
theorem wt_paragraphOf_0 {p1 : Int} (hc : Con 4 mX9_paragraphOf 1 6 [vA 0, vI p1] σ (vT 20 0, σ)) : Con 5 mL_paragraphOf 1 6 [vA 0, vI p1, vA 133] σ (vI 1, σ) := by
  refine con_of_go mfL_paragraphOf.1 trivial (Nat.le_of_ble_eq_true rfl) rfl (by decide) ?_
  show Go _ _ _ _ 0 [vA _, vI _, vA _, vT 9 0] [] _ _
  refine go_aload_n (at_of tL_paragraphOf 0 0 rfl) rfl ?_
  refine go_iconst (at_of tL_paragraphOf 0 1 rfl) (by unfold in32; omega) ?_
  refine go_aload_n (at_of tL_paragraphOf 0 2 rfl) rfl ?_
  refine go_iload_n (at_of tL_paragraphOf 0 3 rfl) rfl ?_
  refine go_callC (i := 0) (h := 12) (k := 3) (Or.inl ⟨9, 0, [vI p1], rfl, rfl, G_0, lk_L_52, (at_of tL_paragraphOf 0 4 rfl)⟩) hc rfl ⟨[], [], 0, 9, 13, rfl, by decide, by decide, by decide, cl_L_13, List.mem_of_getElem? (i := 1) rfl, fun _ z => absurd z List.not_mem_nil⟩ (Or.inr ⟨rfl, 3, rfl, (at_of tL_paragraphOf 0 8 rfl)⟩) rfl rfl (by decide) rfl (Nat.le_of_ble_eq_true rfl) rfl ⟨by decide, by decide⟩ ?_
  refine go_iconst (at_of tL_paragraphOf 0 9 rfl) (by unfold in32; omega) ?_
  first | exact go_reti (at_of tL_paragraphOf 0 10 rfl) rfl | exact go_reti (at_of tL_paragraphOf 0 10 rfl) (le_i (by omega)) | exact go_reti (at_of tL_paragraphOf 0 10 rfl) (le_i (by first | exact bI_t (by omega) | exact bI_f (by omega)))
theorem wo_startOf {p1 : Int} {v : Int} (hc : Con 4 mX9_startOf 0 0 [vA 0, vI p1] σ (vI v, σ')) : Con 5 mL_startOf 1 6 [vA 0, vI p1, vA 133] σ (vI 0, M1 σ' 133 0 v) := by
  refine con_of_go mfL_startOf.1 trivial (Nat.le_of_ble_eq_true rfl) rfl (by decide) ?_
  show Go _ _ _ _ 0 [vA _, vI _, vA _, vT 9 0] [] _ _
  refine go_aload_n (at_of tL_startOf 0 0 rfl) rfl ?_
  refine go_iconst (at_of tL_startOf 0 1 rfl) (by unfold in32; omega) ?_
  refine go_aload_n (at_of tL_startOf 0 2 rfl) rfl ?_
  refine go_iload_n (at_of tL_startOf 0 3 rfl) rfl ?_
  refine go_cV (hc) lk_L_56 rfl G_0 (at_of tL_startOf 0 4 rfl) rfl (by decide) rfl (Nat.le_of_ble_eq_true rfl) rfl (by first | decide | exact ⟨Nat.zero_le _, Nat.zero_le _⟩) ?_
  refine go_i2l (at_of tL_startOf 0 5 rfl) ?_
  refine go_last1 G_133 (by omega) (by omega) (at_of tL_startOf 0 6 rfl) ?_
  refine go_goto (tgt := 15) (at_of tL_startOf 0 7 rfl) (by decide) ?_
  refine go_iconst (at_of tL_startOf 0 11 rfl) (by unfold in32; omega) ?_
  first | exact go_reti (at_of tL_startOf 0 12 rfl) rfl | exact go_reti (at_of tL_startOf 0 12 rfl) (le_i (by omega)) | exact go_reti (at_of tL_startOf 0 12 rfl) (le_i (by first | exact bI_t (by omega) | exact bI_f (by omega)))
theorem wt_startOf_0 {p1 : Int} (hc : Con 4 mX9_startOf 1 6 [vA 0, vI p1] σ (vT 20 0, σ)) : Con 5 mL_startOf 1 6 [vA 0, vI p1, vA 133] σ (vI 1, σ) := by
  refine con_of_go mfL_startOf.1 trivial (Nat.le_of_ble_eq_true rfl) rfl (by decide) ?_
  show Go _ _ _ _ 0 [vA _, vI _, vA _, vT 9 0] [] _ _
  refine go_aload_n (at_of tL_startOf 0 0 rfl) rfl ?_
  refine go_iconst (at_of tL_startOf 0 1 rfl) (by unfold in32; omega) ?_
  refine go_aload_n (at_of tL_startOf 0 2 rfl) rfl ?_
  refine go_iload_n (at_of tL_startOf 0 3 rfl) rfl ?_
  refine go_callC (i := 0) (h := 12) (k := 3) (Or.inl ⟨9, 0, [vI p1], rfl, rfl, G_0, lk_L_56, (at_of tL_startOf 0 4 rfl)⟩) hc rfl ⟨[], [], 0, 9, 13, rfl, by decide, by decide, by decide, cl_L_13, List.mem_of_getElem? (i := 1) rfl, fun _ z => absurd z List.not_mem_nil⟩ (Or.inr ⟨rfl, 3, rfl, (at_of tL_startOf 0 8 rfl)⟩) rfl rfl (by decide) rfl (Nat.le_of_ble_eq_true rfl) rfl ⟨by decide, by decide⟩ ?_
  refine go_iconst (at_of tL_startOf 0 9 rfl) (by unfold in32; omega) ?_
  first | exact go_reti (at_of tL_startOf 0 10 rfl) rfl | exact go_reti (at_of tL_startOf 0 10 rfl) (le_i (by omega)) | exact go_reti (at_of tL_startOf 0 10 rfl) (le_i (by first | exact bI_t (by omega) | exact bI_f (by omega)))
theorem wo_kindOf {p1 : Int} {v : Int} (hc : Con 3 mX9_kindOf 0 0 [vA 0, vI p1] σ (vI v, σ')) : Con 4 mL_kindOf 1 6 [vA 0, vI p1, vA 133] σ (vI 0, M1 σ' 133 0 v) := by
  refine con_of_go mfL_kindOf.1 trivial (Nat.le_of_ble_eq_true rfl) rfl (by decide) ?_
  show Go _ _ _ _ 0 [vA _, vI _, vA _, vT 9 0] [] _ _
  refine go_aload_n (at_of tL_kindOf 0 0 rfl) rfl ?_
  refine go_iconst (at_of tL_kindOf 0 1 rfl) (by unfold in32; omega) ?_
  refine go_aload_n (at_of tL_kindOf 0 2 rfl) rfl ?_
  refine go_iload_n (at_of tL_kindOf 0 3 rfl) rfl ?_
  refine go_cV (hc) lk_L_59 rfl G_0 (at_of tL_kindOf 0 4 rfl) rfl (by decide) rfl (Nat.le_of_ble_eq_true rfl) rfl (by first | decide | exact ⟨Nat.zero_le _, Nat.zero_le _⟩) ?_
  refine go_i2l (at_of tL_kindOf 0 5 rfl) ?_
  refine go_last1 G_133 (by omega) (by omega) (at_of tL_kindOf 0 6 rfl) ?_
  refine go_goto (tgt := 15) (at_of tL_kindOf 0 7 rfl) (by decide) ?_
  refine go_iconst (at_of tL_kindOf 0 11 rfl) (by unfold in32; omega) ?_
  first | exact go_reti (at_of tL_kindOf 0 12 rfl) rfl | exact go_reti (at_of tL_kindOf 0 12 rfl) (le_i (by omega)) | exact go_reti (at_of tL_kindOf 0 12 rfl) (le_i (by first | exact bI_t (by omega) | exact bI_f (by omega)))
theorem wt_kindOf_0 {p1 : Int} (hc : Con 3 mX9_kindOf 1 6 [vA 0, vI p1] σ (vT 20 0, σ)) : Con 4 mL_kindOf 1 6 [vA 0, vI p1, vA 133] σ (vI 1, σ) := by
  refine con_of_go mfL_kindOf.1 trivial (Nat.le_of_ble_eq_true rfl) rfl (by decide) ?_
  show Go _ _ _ _ 0 [vA _, vI _, vA _, vT 9 0] [] _ _
  refine go_aload_n (at_of tL_kindOf 0 0 rfl) rfl ?_
  refine go_iconst (at_of tL_kindOf 0 1 rfl) (by unfold in32; omega) ?_
  refine go_aload_n (at_of tL_kindOf 0 2 rfl) rfl ?_
  refine go_iload_n (at_of tL_kindOf 0 3 rfl) rfl ?_
  refine go_callC (i := 0) (h := 12) (k := 3) (Or.inl ⟨9, 0, [vI p1], rfl, rfl, G_0, lk_L_59, (at_of tL_kindOf 0 4 rfl)⟩) hc rfl ⟨[], [], 0, 9, 13, rfl, by decide, by decide, by decide, cl_L_13, List.mem_of_getElem? (i := 1) rfl, fun _ z => absurd z List.not_mem_nil⟩ (Or.inr ⟨rfl, 3, rfl, (at_of tL_kindOf 0 8 rfl)⟩) rfl rfl (by decide) rfl (Nat.le_of_ble_eq_true rfl) rfl ⟨by decide, by decide⟩ ?_
  refine go_iconst (at_of tL_kindOf 0 9 rfl) (by unfold in32; omega) ?_
  first | exact go_reti (at_of tL_kindOf 0 10 rfl) rfl | exact go_reti (at_of tL_kindOf 0 10 rfl) (le_i (by omega)) | exact go_reti (at_of tL_kindOf 0 10 rfl) (le_i (by first | exact bI_t (by omega) | exact bI_f (by omega)))
theorem wo_authorOf {p1 : Int} {v : Int} (hc : Con 3 mX9_authorOf 0 0 [vA 0, vI p1] σ (vI v, σ')) : Con 4 mL_authorOf 1 6 [vA 0, vI p1, vA 133] σ (vI 0, M1 σ' 133 0 v) := by
  refine con_of_go mfL_authorOf.1 trivial (Nat.le_of_ble_eq_true rfl) rfl (by decide) ?_
  show Go _ _ _ _ 0 [vA _, vI _, vA _, vT 9 0] [] _ _
  refine go_aload_n (at_of tL_authorOf 0 0 rfl) rfl ?_
  refine go_iconst (at_of tL_authorOf 0 1 rfl) (by unfold in32; omega) ?_
  refine go_aload_n (at_of tL_authorOf 0 2 rfl) rfl ?_
  refine go_iload_n (at_of tL_authorOf 0 3 rfl) rfl ?_
  refine go_cV (hc) lk_L_62 rfl G_0 (at_of tL_authorOf 0 4 rfl) rfl (by decide) rfl (Nat.le_of_ble_eq_true rfl) rfl (by first | decide | exact ⟨Nat.zero_le _, Nat.zero_le _⟩) ?_
  refine go_i2l (at_of tL_authorOf 0 5 rfl) ?_
  refine go_last1 G_133 (by omega) (by omega) (at_of tL_authorOf 0 6 rfl) ?_
  refine go_goto (tgt := 15) (at_of tL_authorOf 0 7 rfl) (by decide) ?_
  refine go_iconst (at_of tL_authorOf 0 11 rfl) (by unfold in32; omega) ?_
  first | exact go_reti (at_of tL_authorOf 0 12 rfl) rfl | exact go_reti (at_of tL_authorOf 0 12 rfl) (le_i (by omega)) | exact go_reti (at_of tL_authorOf 0 12 rfl) (le_i (by first | exact bI_t (by omega) | exact bI_f (by omega)))
theorem wt_authorOf_0 {p1 : Int} (hc : Con 3 mX9_authorOf 1 6 [vA 0, vI p1] σ (vT 20 0, σ)) : Con 4 mL_authorOf 1 6 [vA 0, vI p1, vA 133] σ (vI 1, σ) := by
  refine con_of_go mfL_authorOf.1 trivial (Nat.le_of_ble_eq_true rfl) rfl (by decide) ?_
  show Go _ _ _ _ 0 [vA _, vI _, vA _, vT 9 0] [] _ _
  refine go_aload_n (at_of tL_authorOf 0 0 rfl) rfl ?_
  refine go_iconst (at_of tL_authorOf 0 1 rfl) (by unfold in32; omega) ?_
  refine go_aload_n (at_of tL_authorOf 0 2 rfl) rfl ?_
  refine go_iload_n (at_of tL_authorOf 0 3 rfl) rfl ?_
  refine go_callC (i := 0) (h := 12) (k := 3) (Or.inl ⟨9, 0, [vI p1], rfl, rfl, G_0, lk_L_62, (at_of tL_authorOf 0 4 rfl)⟩) hc rfl ⟨[], [], 0, 9, 13, rfl, by decide, by decide, by decide, cl_L_13, List.mem_of_getElem? (i := 1) rfl, fun _ z => absurd z List.not_mem_nil⟩ (Or.inr ⟨rfl, 3, rfl, (at_of tL_authorOf 0 8 rfl)⟩) rfl rfl (by decide) rfl (Nat.le_of_ble_eq_true rfl) rfl ⟨by decide, by decide⟩ ?_
  refine go_iconst (at_of tL_authorOf 0 9 rfl) (by unfold in32; omega) ?_
  first | exact go_reti (at_of tL_authorOf 0 10 rfl) rfl | exact go_reti (at_of tL_authorOf 0 10 rfl) (le_i (by omega)) | exact go_reti (at_of tL_authorOf 0 10 rfl) (le_i (by first | exact bI_t (by omega) | exact bI_f (by omega)))
theorem wo_stateOf {p1 : Int} {v : Int} (hc : Con 3 mX9_stateOf 0 0 [vA 0, vI p1] σ (vI v, σ')) : Con 4 mL_stateOf 1 6 [vA 0, vI p1, vA 133] σ (vI 0, M1 σ' 133 0 v) := by
  refine con_of_go mfL_stateOf.1 trivial (Nat.le_of_ble_eq_true rfl) rfl (by decide) ?_
  show Go _ _ _ _ 0 [vA _, vI _, vA _, vT 9 0] [] _ _
  refine go_aload_n (at_of tL_stateOf 0 0 rfl) rfl ?_
  refine go_iconst (at_of tL_stateOf 0 1 rfl) (by unfold in32; omega) ?_
  refine go_aload_n (at_of tL_stateOf 0 2 rfl) rfl ?_
  refine go_iload_n (at_of tL_stateOf 0 3 rfl) rfl ?_
  refine go_cV (hc) lk_L_65 rfl G_0 (at_of tL_stateOf 0 4 rfl) rfl (by decide) rfl (Nat.le_of_ble_eq_true rfl) rfl (by first | decide | exact ⟨Nat.zero_le _, Nat.zero_le _⟩) ?_
  refine go_i2l (at_of tL_stateOf 0 5 rfl) ?_
  refine go_last1 G_133 (by omega) (by omega) (at_of tL_stateOf 0 6 rfl) ?_
  refine go_goto (tgt := 15) (at_of tL_stateOf 0 7 rfl) (by decide) ?_
  refine go_iconst (at_of tL_stateOf 0 11 rfl) (by unfold in32; omega) ?_
  first | exact go_reti (at_of tL_stateOf 0 12 rfl) rfl | exact go_reti (at_of tL_stateOf 0 12 rfl) (le_i (by omega)) | exact go_reti (at_of tL_stateOf 0 12 rfl) (le_i (by first | exact bI_t (by omega) | exact bI_f (by omega)))
theorem wt_stateOf_0 {p1 : Int} (hc : Con 3 mX9_stateOf 1 6 [vA 0, vI p1] σ (vT 20 0, σ)) : Con 4 mL_stateOf 1 6 [vA 0, vI p1, vA 133] σ (vI 1, σ) := by
  refine con_of_go mfL_stateOf.1 trivial (Nat.le_of_ble_eq_true rfl) rfl (by decide) ?_
  show Go _ _ _ _ 0 [vA _, vI _, vA _, vT 9 0] [] _ _
  refine go_aload_n (at_of tL_stateOf 0 0 rfl) rfl ?_
  refine go_iconst (at_of tL_stateOf 0 1 rfl) (by unfold in32; omega) ?_
  refine go_aload_n (at_of tL_stateOf 0 2 rfl) rfl ?_
  refine go_iload_n (at_of tL_stateOf 0 3 rfl) rfl ?_
  refine go_callC (i := 0) (h := 12) (k := 3) (Or.inl ⟨9, 0, [vI p1], rfl, rfl, G_0, lk_L_65, (at_of tL_stateOf 0 4 rfl)⟩) hc rfl ⟨[], [], 0, 9, 13, rfl, by decide, by decide, by decide, cl_L_13, List.mem_of_getElem? (i := 1) rfl, fun _ z => absurd z List.not_mem_nil⟩ (Or.inr ⟨rfl, 3, rfl, (at_of tL_stateOf 0 8 rfl)⟩) rfl rfl (by decide) rfl (Nat.le_of_ble_eq_true rfl) rfl ⟨by decide, by decide⟩ ?_
  refine go_iconst (at_of tL_stateOf 0 9 rfl) (by unfold in32; omega) ?_
  first | exact go_reti (at_of tL_stateOf 0 10 rfl) rfl | exact go_reti (at_of tL_stateOf 0 10 rfl) (le_i (by omega)) | exact go_reti (at_of tL_stateOf 0 10 rfl) (le_i (by first | exact bI_t (by omega) | exact bI_f (by omega)))
theorem wo_unitsOf {p1 : Int} {v : Int} (hc : Con 3 mX9_unitsOf 0 0 [vA 0, vI p1] σ (vI v, σ')) : Con 4 mL_unitsOf 1 6 [vA 0, vI p1, vA 133] σ (vI 0, M1 σ' 133 0 v) := by
  refine con_of_go mfL_unitsOf.1 trivial (Nat.le_of_ble_eq_true rfl) rfl (by decide) ?_
  show Go _ _ _ _ 0 [vA _, vI _, vA _, vT 9 0] [] _ _
  refine go_aload_n (at_of tL_unitsOf 0 0 rfl) rfl ?_
  refine go_iconst (at_of tL_unitsOf 0 1 rfl) (by unfold in32; omega) ?_
  refine go_aload_n (at_of tL_unitsOf 0 2 rfl) rfl ?_
  refine go_iload_n (at_of tL_unitsOf 0 3 rfl) rfl ?_
  refine go_cV (hc) lk_L_68 rfl G_0 (at_of tL_unitsOf 0 4 rfl) rfl (by decide) rfl (Nat.le_of_ble_eq_true rfl) rfl (by first | decide | exact ⟨Nat.zero_le _, Nat.zero_le _⟩) ?_
  refine go_i2l (at_of tL_unitsOf 0 5 rfl) ?_
  refine go_last1 G_133 (by omega) (by omega) (at_of tL_unitsOf 0 6 rfl) ?_
  refine go_goto (tgt := 15) (at_of tL_unitsOf 0 7 rfl) (by decide) ?_
  refine go_iconst (at_of tL_unitsOf 0 11 rfl) (by unfold in32; omega) ?_
  first | exact go_reti (at_of tL_unitsOf 0 12 rfl) rfl | exact go_reti (at_of tL_unitsOf 0 12 rfl) (le_i (by omega)) | exact go_reti (at_of tL_unitsOf 0 12 rfl) (le_i (by first | exact bI_t (by omega) | exact bI_f (by omega)))
theorem wt_unitsOf_0 {p1 : Int} (hc : Con 3 mX9_unitsOf 1 6 [vA 0, vI p1] σ (vT 20 0, σ)) : Con 4 mL_unitsOf 1 6 [vA 0, vI p1, vA 133] σ (vI 1, σ) := by
  refine con_of_go mfL_unitsOf.1 trivial (Nat.le_of_ble_eq_true rfl) rfl (by decide) ?_
  show Go _ _ _ _ 0 [vA _, vI _, vA _, vT 9 0] [] _ _
  refine go_aload_n (at_of tL_unitsOf 0 0 rfl) rfl ?_
  refine go_iconst (at_of tL_unitsOf 0 1 rfl) (by unfold in32; omega) ?_
  refine go_aload_n (at_of tL_unitsOf 0 2 rfl) rfl ?_
  refine go_iload_n (at_of tL_unitsOf 0 3 rfl) rfl ?_
  refine go_callC (i := 0) (h := 12) (k := 3) (Or.inl ⟨9, 0, [vI p1], rfl, rfl, G_0, lk_L_68, (at_of tL_unitsOf 0 4 rfl)⟩) hc rfl ⟨[], [], 0, 9, 13, rfl, by decide, by decide, by decide, cl_L_13, List.mem_of_getElem? (i := 1) rfl, fun _ z => absurd z List.not_mem_nil⟩ (Or.inr ⟨rfl, 3, rfl, (at_of tL_unitsOf 0 8 rfl)⟩) rfl rfl (by decide) rfl (Nat.le_of_ble_eq_true rfl) rfl ⟨by decide, by decide⟩ ?_
  refine go_iconst (at_of tL_unitsOf 0 9 rfl) (by unfold in32; omega) ?_
  first | exact go_reti (at_of tL_unitsOf 0 10 rfl) rfl | exact go_reti (at_of tL_unitsOf 0 10 rfl) (le_i (by omega)) | exact go_reti (at_of tL_unitsOf 0 10 rfl) (le_i (by first | exact bI_t (by omega) | exact bI_f (by omega)))
theorem wo_changeAt {p1 : Int} {v : Int} (hc : Con 5 mX9_changeAt 0 0 [vA 0, vI p1] σ (vI v, σ')) : Con 6 mL_changeAt 1 6 [vA 0, vI p1, vA 133] σ (vI 0, M1 σ' 133 0 v) := by
  refine con_of_go mfL_changeAt.1 trivial (Nat.le_of_ble_eq_true rfl) rfl (by decide) ?_
  show Go _ _ _ _ 0 [vA _, vI _, vA _, vT 9 0] [] _ _
  refine go_aload_n (at_of tL_changeAt 0 0 rfl) rfl ?_
  refine go_iconst (at_of tL_changeAt 0 1 rfl) (by unfold in32; omega) ?_
  refine go_aload_n (at_of tL_changeAt 0 2 rfl) rfl ?_
  refine go_iload_n (at_of tL_changeAt 0 3 rfl) rfl ?_
  refine go_cV (hc) lk_L_71 rfl G_0 (at_of tL_changeAt 0 4 rfl) rfl (by decide) rfl (Nat.le_of_ble_eq_true rfl) rfl (by first | decide | exact ⟨Nat.zero_le _, Nat.zero_le _⟩) ?_
  refine go_i2l (at_of tL_changeAt 0 5 rfl) ?_
  refine go_last1 G_133 (by omega) (by omega) (at_of tL_changeAt 0 6 rfl) ?_
  refine go_goto (tgt := 18) (at_of tL_changeAt 0 7 rfl) (by decide) ?_
  refine go_iconst (at_of tL_changeAt 0 14 rfl) (by unfold in32; omega) ?_
  first | exact go_reti (at_of tL_changeAt 0 15 rfl) rfl | exact go_reti (at_of tL_changeAt 0 15 rfl) (le_i (by omega)) | exact go_reti (at_of tL_changeAt 0 15 rfl) (le_i (by first | exact bI_t (by omega) | exact bI_f (by omega)))
theorem wt_changeAt_0 {p1 : Int} (hc : Con 5 mX9_changeAt 1 6 [vA 0, vI p1] σ (vT 20 0, σ)) : Con 6 mL_changeAt 1 6 [vA 0, vI p1, vA 133] σ (vI 1, σ) := by
  refine con_of_go mfL_changeAt.1 trivial (Nat.le_of_ble_eq_true rfl) rfl (by decide) ?_
  show Go _ _ _ _ 0 [vA _, vI _, vA _, vT 9 0] [] _ _
  refine go_aload_n (at_of tL_changeAt 0 0 rfl) rfl ?_
  refine go_iconst (at_of tL_changeAt 0 1 rfl) (by unfold in32; omega) ?_
  refine go_aload_n (at_of tL_changeAt 0 2 rfl) rfl ?_
  refine go_iload_n (at_of tL_changeAt 0 3 rfl) rfl ?_
  refine go_callC (i := 0) (h := 12) (k := 3) (Or.inl ⟨9, 0, [vI p1], rfl, rfl, G_0, lk_L_71, (at_of tL_changeAt 0 4 rfl)⟩) hc rfl ⟨[], [(0, 9, 15, 40)], 0, 9, 13, rfl, by decide, by decide, by decide, cl_L_13, List.mem_of_getElem? (i := 1) rfl, fun _ z => absurd z List.not_mem_nil⟩ (Or.inr ⟨rfl, 3, rfl, (at_of tL_changeAt 0 8 rfl)⟩) rfl rfl (by decide) rfl (Nat.le_of_ble_eq_true rfl) rfl ⟨by decide, by decide⟩ ?_
  refine go_iconst (at_of tL_changeAt 0 9 rfl) (by unfold in32; omega) ?_
  first | exact go_reti (at_of tL_changeAt 0 10 rfl) rfl | exact go_reti (at_of tL_changeAt 0 10 rfl) (le_i (by omega)) | exact go_reti (at_of tL_changeAt 0 10 rfl) (le_i (by first | exact bI_t (by omega) | exact bI_f (by omega)))
theorem wt_changeAt_4 {p1 : Int} (hc : Con 5 mX9_changeAt 1 6 [vA 0, vI p1] σ (vT 24 0, σ)) : Con 6 mL_changeAt 1 6 [vA 0, vI p1, vA 133] σ (vI 2, σ) := by
  refine con_of_go mfL_changeAt.1 trivial (Nat.le_of_ble_eq_true rfl) rfl (by decide) ?_
  show Go _ _ _ _ 0 [vA _, vI _, vA _, vT 9 0] [] _ _
  refine go_aload_n (at_of tL_changeAt 0 0 rfl) rfl ?_
  refine go_iconst (at_of tL_changeAt 0 1 rfl) (by unfold in32; omega) ?_
  refine go_aload_n (at_of tL_changeAt 0 2 rfl) rfl ?_
  refine go_iload_n (at_of tL_changeAt 0 3 rfl) rfl ?_
  refine go_callC (i := 4) (h := 15) (k := 3) (Or.inl ⟨9, 0, [vI p1], rfl, rfl, G_0, lk_L_71, (at_of tL_changeAt 0 4 rfl)⟩) hc rfl ⟨[(0, 9, 12, 13)], [], 0, 9, 40, rfl, by decide, by decide, by decide, cl_L_40, List.mem_of_getElem? (i := 5) rfl, List.forall_mem_cons.mpr ⟨⟨by decide, _, cl_L_13, List.mem_of_getElem? (i := 3) rfl⟩, fun _ z => absurd z List.not_mem_nil⟩⟩ (Or.inr ⟨rfl, 3, rfl, (at_of tL_changeAt 0 11 rfl)⟩) rfl rfl (by decide) rfl (Nat.le_of_ble_eq_true rfl) rfl ⟨by decide, by decide⟩ ?_
  refine go_iconst (at_of tL_changeAt 0 12 rfl) (by unfold in32; omega) ?_
  first | exact go_reti (at_of tL_changeAt 0 13 rfl) rfl | exact go_reti (at_of tL_changeAt 0 13 rfl) (le_i (by omega)) | exact go_reti (at_of tL_changeAt 0 13 rfl) (le_i (by first | exact bI_t (by omega) | exact bI_f (by omega)))
theorem wo_accept {p1 : Int} {v : Int} (hc : Con 4 mX9_accept 0 0 [vA 0, vI p1] σ (vI v, σ')) : Con 5 mL_accept 1 6 [vA 0, vI p1, vA 133] σ (vI 0, M1 σ' 133 0 v) := by
  refine con_of_go mfL_accept.1 trivial (Nat.le_of_ble_eq_true rfl) rfl (by decide) ?_
  show Go _ _ _ _ 0 [vA _, vI _, vA _, vT 9 0] [] _ _
  refine go_aload_n (at_of tL_accept 0 0 rfl) rfl ?_
  refine go_iconst (at_of tL_accept 0 1 rfl) (by unfold in32; omega) ?_
  refine go_aload_n (at_of tL_accept 0 2 rfl) rfl ?_
  refine go_iload_n (at_of tL_accept 0 3 rfl) rfl ?_
  refine go_cV (hc) lk_L_74 rfl G_0 (at_of tL_accept 0 4 rfl) rfl (by decide) rfl (Nat.le_of_ble_eq_true rfl) rfl (by first | decide | exact ⟨Nat.zero_le _, Nat.zero_le _⟩) ?_
  refine go_i2l (at_of tL_accept 0 5 rfl) ?_
  refine go_last1 G_133 (by omega) (by omega) (at_of tL_accept 0 6 rfl) ?_
  refine go_goto (tgt := 18) (at_of tL_accept 0 7 rfl) (by decide) ?_
  refine go_iconst (at_of tL_accept 0 14 rfl) (by unfold in32; omega) ?_
  first | exact go_reti (at_of tL_accept 0 15 rfl) rfl | exact go_reti (at_of tL_accept 0 15 rfl) (le_i (by omega)) | exact go_reti (at_of tL_accept 0 15 rfl) (le_i (by first | exact bI_t (by omega) | exact bI_f (by omega)))
theorem wt_accept_0 {p1 : Int} (hc : Con 4 mX9_accept 1 6 [vA 0, vI p1] σ (vT 20 0, σ)) : Con 5 mL_accept 1 6 [vA 0, vI p1, vA 133] σ (vI 1, σ) := by
  refine con_of_go mfL_accept.1 trivial (Nat.le_of_ble_eq_true rfl) rfl (by decide) ?_
  show Go _ _ _ _ 0 [vA _, vI _, vA _, vT 9 0] [] _ _
  refine go_aload_n (at_of tL_accept 0 0 rfl) rfl ?_
  refine go_iconst (at_of tL_accept 0 1 rfl) (by unfold in32; omega) ?_
  refine go_aload_n (at_of tL_accept 0 2 rfl) rfl ?_
  refine go_iload_n (at_of tL_accept 0 3 rfl) rfl ?_
  refine go_callC (i := 0) (h := 12) (k := 3) (Or.inl ⟨9, 0, [vI p1], rfl, rfl, G_0, lk_L_74, (at_of tL_accept 0 4 rfl)⟩) hc rfl ⟨[], [(0, 9, 15, 17)], 0, 9, 13, rfl, by decide, by decide, by decide, cl_L_13, List.mem_of_getElem? (i := 1) rfl, fun _ z => absurd z List.not_mem_nil⟩ (Or.inr ⟨rfl, 3, rfl, (at_of tL_accept 0 8 rfl)⟩) rfl rfl (by decide) rfl (Nat.le_of_ble_eq_true rfl) rfl ⟨by decide, by decide⟩ ?_
  refine go_iconst (at_of tL_accept 0 9 rfl) (by unfold in32; omega) ?_
  first | exact go_reti (at_of tL_accept 0 10 rfl) rfl | exact go_reti (at_of tL_accept 0 10 rfl) (le_i (by omega)) | exact go_reti (at_of tL_accept 0 10 rfl) (le_i (by first | exact bI_t (by omega) | exact bI_f (by omega)))
theorem wt_accept_2 {p1 : Int} (hc : Con 4 mX9_accept 1 6 [vA 0, vI p1] σ (vT 22 0, σ)) : Con 5 mL_accept 1 6 [vA 0, vI p1, vA 133] σ (vI 2, σ) := by
  refine con_of_go mfL_accept.1 trivial (Nat.le_of_ble_eq_true rfl) rfl (by decide) ?_
  show Go _ _ _ _ 0 [vA _, vI _, vA _, vT 9 0] [] _ _
  refine go_aload_n (at_of tL_accept 0 0 rfl) rfl ?_
  refine go_iconst (at_of tL_accept 0 1 rfl) (by unfold in32; omega) ?_
  refine go_aload_n (at_of tL_accept 0 2 rfl) rfl ?_
  refine go_iload_n (at_of tL_accept 0 3 rfl) rfl ?_
  refine go_callC (i := 2) (h := 15) (k := 3) (Or.inl ⟨9, 0, [vI p1], rfl, rfl, G_0, lk_L_74, (at_of tL_accept 0 4 rfl)⟩) hc rfl ⟨[(0, 9, 12, 13)], [], 0, 9, 17, rfl, by decide, by decide, by decide, cl_L_17, List.mem_of_getElem? (i := 3) rfl, List.forall_mem_cons.mpr ⟨⟨by decide, _, cl_L_13, List.mem_of_getElem? (i := 1) rfl⟩, fun _ z => absurd z List.not_mem_nil⟩⟩ (Or.inr ⟨rfl, 3, rfl, (at_of tL_accept 0 11 rfl)⟩) rfl rfl (by decide) rfl (Nat.le_of_ble_eq_true rfl) rfl ⟨by decide, by decide⟩ ?_
  refine go_iconst (at_of tL_accept 0 12 rfl) (by unfold in32; omega) ?_
  first | exact go_reti (at_of tL_accept 0 13 rfl) rfl | exact go_reti (at_of tL_accept 0 13 rfl) (le_i (by omega)) | exact go_reti (at_of tL_accept 0 13 rfl) (le_i (by first | exact bI_t (by omega) | exact bI_f (by omega)))
theorem wo_refuse {p1 : Int} {v : Int} (hc : Con 4 mX9_refuse 0 0 [vA 0, vI p1] σ (vI v, σ')) : Con 5 mL_refuse 1 6 [vA 0, vI p1, vA 133] σ (vI 0, M1 σ' 133 0 v) := by
  refine con_of_go mfL_refuse.1 trivial (Nat.le_of_ble_eq_true rfl) rfl (by decide) ?_
  show Go _ _ _ _ 0 [vA _, vI _, vA _, vT 9 0] [] _ _
  refine go_aload_n (at_of tL_refuse 0 0 rfl) rfl ?_
  refine go_iconst (at_of tL_refuse 0 1 rfl) (by unfold in32; omega) ?_
  refine go_aload_n (at_of tL_refuse 0 2 rfl) rfl ?_
  refine go_iload_n (at_of tL_refuse 0 3 rfl) rfl ?_
  refine go_cV (hc) lk_L_77 rfl G_0 (at_of tL_refuse 0 4 rfl) rfl (by decide) rfl (Nat.le_of_ble_eq_true rfl) rfl (by first | decide | exact ⟨Nat.zero_le _, Nat.zero_le _⟩) ?_
  refine go_i2l (at_of tL_refuse 0 5 rfl) ?_
  refine go_last1 G_133 (by omega) (by omega) (at_of tL_refuse 0 6 rfl) ?_
  refine go_goto (tgt := 18) (at_of tL_refuse 0 7 rfl) (by decide) ?_
  refine go_iconst (at_of tL_refuse 0 14 rfl) (by unfold in32; omega) ?_
  first | exact go_reti (at_of tL_refuse 0 15 rfl) rfl | exact go_reti (at_of tL_refuse 0 15 rfl) (le_i (by omega)) | exact go_reti (at_of tL_refuse 0 15 rfl) (le_i (by first | exact bI_t (by omega) | exact bI_f (by omega)))
theorem wt_refuse_0 {p1 : Int} (hc : Con 4 mX9_refuse 1 6 [vA 0, vI p1] σ (vT 20 0, σ)) : Con 5 mL_refuse 1 6 [vA 0, vI p1, vA 133] σ (vI 1, σ) := by
  refine con_of_go mfL_refuse.1 trivial (Nat.le_of_ble_eq_true rfl) rfl (by decide) ?_
  show Go _ _ _ _ 0 [vA _, vI _, vA _, vT 9 0] [] _ _
  refine go_aload_n (at_of tL_refuse 0 0 rfl) rfl ?_
  refine go_iconst (at_of tL_refuse 0 1 rfl) (by unfold in32; omega) ?_
  refine go_aload_n (at_of tL_refuse 0 2 rfl) rfl ?_
  refine go_iload_n (at_of tL_refuse 0 3 rfl) rfl ?_
  refine go_callC (i := 0) (h := 12) (k := 3) (Or.inl ⟨9, 0, [vI p1], rfl, rfl, G_0, lk_L_77, (at_of tL_refuse 0 4 rfl)⟩) hc rfl ⟨[], [(0, 9, 15, 17)], 0, 9, 13, rfl, by decide, by decide, by decide, cl_L_13, List.mem_of_getElem? (i := 1) rfl, fun _ z => absurd z List.not_mem_nil⟩ (Or.inr ⟨rfl, 3, rfl, (at_of tL_refuse 0 8 rfl)⟩) rfl rfl (by decide) rfl (Nat.le_of_ble_eq_true rfl) rfl ⟨by decide, by decide⟩ ?_
  refine go_iconst (at_of tL_refuse 0 9 rfl) (by unfold in32; omega) ?_
  first | exact go_reti (at_of tL_refuse 0 10 rfl) rfl | exact go_reti (at_of tL_refuse 0 10 rfl) (le_i (by omega)) | exact go_reti (at_of tL_refuse 0 10 rfl) (le_i (by first | exact bI_t (by omega) | exact bI_f (by omega)))
theorem wt_refuse_2 {p1 : Int} (hc : Con 4 mX9_refuse 1 6 [vA 0, vI p1] σ (vT 22 0, σ)) : Con 5 mL_refuse 1 6 [vA 0, vI p1, vA 133] σ (vI 2, σ) := by
  refine con_of_go mfL_refuse.1 trivial (Nat.le_of_ble_eq_true rfl) rfl (by decide) ?_
  show Go _ _ _ _ 0 [vA _, vI _, vA _, vT 9 0] [] _ _
  refine go_aload_n (at_of tL_refuse 0 0 rfl) rfl ?_
  refine go_iconst (at_of tL_refuse 0 1 rfl) (by unfold in32; omega) ?_
  refine go_aload_n (at_of tL_refuse 0 2 rfl) rfl ?_
  refine go_iload_n (at_of tL_refuse 0 3 rfl) rfl ?_
  refine go_callC (i := 2) (h := 15) (k := 3) (Or.inl ⟨9, 0, [vI p1], rfl, rfl, G_0, lk_L_77, (at_of tL_refuse 0 4 rfl)⟩) hc rfl ⟨[(0, 9, 12, 13)], [], 0, 9, 17, rfl, by decide, by decide, by decide, cl_L_17, List.mem_of_getElem? (i := 3) rfl, List.forall_mem_cons.mpr ⟨⟨by decide, _, cl_L_13, List.mem_of_getElem? (i := 1) rfl⟩, fun _ z => absurd z List.not_mem_nil⟩⟩ (Or.inr ⟨rfl, 3, rfl, (at_of tL_refuse 0 11 rfl)⟩) rfl rfl (by decide) rfl (Nat.le_of_ble_eq_true rfl) rfl ⟨by decide, by decide⟩ ?_
  refine go_iconst (at_of tL_refuse 0 12 rfl) (by unfold in32; omega) ?_
  first | exact go_reti (at_of tL_refuse 0 13 rfl) rfl | exact go_reti (at_of tL_refuse 0 13 rfl) (le_i (by omega)) | exact go_reti (at_of tL_refuse 0 13 rfl) (le_i (by first | exact bI_t (by omega) | exact bI_f (by omega)))
theorem wo_judge {p1 p2 : Int} {v : Int} (hc : Con 5 mX9_judge 0 0 [vA 0, vI p1, vI p2] σ (vI v, σ')) : Con 6 mL_judge 1 6 [vA 0, vI p1, vI p2, vA 133] σ (vI 0, M1 σ' 133 0 v) := by
  refine con_of_go mfL_judge.1 trivial (Nat.le_of_ble_eq_true rfl) rfl (by decide) ?_
  show Go _ _ _ _ 0 [vA _, vI _, vI _, vA _, vT 9 0] [] _ _
  refine go_aload_n (at_of tL_judge 0 0 rfl) rfl ?_
  refine go_iconst (at_of tL_judge 0 1 rfl) (by unfold in32; omega) ?_
  refine go_aload_n (at_of tL_judge 0 2 rfl) rfl ?_
  refine go_iload_n (at_of tL_judge 0 3 rfl) rfl ?_
  refine go_iload_n (at_of tL_judge 0 4 rfl) rfl ?_
  refine go_cV (hc) lk_L_80 rfl G_0 (at_of tL_judge 0 5 rfl) rfl (by decide) rfl (Nat.le_of_ble_eq_true rfl) rfl (by first | decide | exact ⟨Nat.zero_le _, Nat.zero_le _⟩) ?_
  refine go_i2l (at_of tL_judge 0 6 rfl) ?_
  refine go_last1 G_133 (by omega) (by omega) (at_of tL_judge 0 7 rfl) ?_
  refine go_goto (tgt := 17) (at_of tL_judge 0 8 rfl) (by decide) ?_
  refine go_iconst (at_of tL_judge 0 12 rfl) (by unfold in32; omega) ?_
  first | exact go_reti (at_of tL_judge 0 13 rfl) rfl | exact go_reti (at_of tL_judge 0 13 rfl) (le_i (by omega)) | exact go_reti (at_of tL_judge 0 13 rfl) (le_i (by first | exact bI_t (by omega) | exact bI_f (by omega)))
theorem wt_judge_0 {p1 p2 : Int} (hc : Con 5 mX9_judge 1 6 [vA 0, vI p1, vI p2] σ (vT 20 0, σ)) : Con 6 mL_judge 1 6 [vA 0, vI p1, vI p2, vA 133] σ (vI 1, σ) := by
  refine con_of_go mfL_judge.1 trivial (Nat.le_of_ble_eq_true rfl) rfl (by decide) ?_
  show Go _ _ _ _ 0 [vA _, vI _, vI _, vA _, vT 9 0] [] _ _
  refine go_aload_n (at_of tL_judge 0 0 rfl) rfl ?_
  refine go_iconst (at_of tL_judge 0 1 rfl) (by unfold in32; omega) ?_
  refine go_aload_n (at_of tL_judge 0 2 rfl) rfl ?_
  refine go_iload_n (at_of tL_judge 0 3 rfl) rfl ?_
  refine go_iload_n (at_of tL_judge 0 4 rfl) rfl ?_
  refine go_callC (i := 0) (h := 13) (k := 4) (Or.inl ⟨9, 0, [vI p1, vI p2], rfl, rfl, G_0, lk_L_80, (at_of tL_judge 0 5 rfl)⟩) hc rfl ⟨[], [], 0, 10, 13, rfl, by decide, by decide, by decide, cl_L_13, List.mem_of_getElem? (i := 1) rfl, fun _ z => absurd z List.not_mem_nil⟩ (Or.inl ⟨rfl, (at_of tL_judge 0 9 rfl)⟩) rfl rfl (by decide) rfl (Nat.le_of_ble_eq_true rfl) rfl ⟨by decide, by decide⟩ ?_
  refine go_iconst (at_of tL_judge 0 10 rfl) (by unfold in32; omega) ?_
  first | exact go_reti (at_of tL_judge 0 11 rfl) rfl | exact go_reti (at_of tL_judge 0 11 rfl) (le_i (by omega)) | exact go_reti (at_of tL_judge 0 11 rfl) (le_i (by first | exact bI_t (by omega) | exact bI_f (by omega)))
theorem wo_addStyle {p1 p2 p3 : Int} {v : Int} (hc : Con 2 mX9_addStyle 0 0 [vA 0, vI p1, vI p2, vI p3] σ (vI v, σ')) : Con 3 mL_addStyle 1 6 [vA 0, vI p1, vI p2, vI p3, vA 133] σ (vI 0, M1 σ' 133 0 v) := by
  refine con_of_go mfL_addStyle.1 trivial (Nat.le_of_ble_eq_true rfl) rfl (by decide) ?_
  show Go _ _ _ _ 0 [vA _, vI _, vI _, vI _, vA _, vT 9 0] [] _ _
  refine go_aload (at_of tL_addStyle 0 0 rfl) rfl ?_
  refine go_iconst (at_of tL_addStyle 0 1 rfl) (by unfold in32; omega) ?_
  refine go_aload_n (at_of tL_addStyle 0 2 rfl) rfl ?_
  refine go_iload_n (at_of tL_addStyle 0 3 rfl) rfl ?_
  refine go_iload_n (at_of tL_addStyle 0 4 rfl) rfl ?_
  refine go_iload_n (at_of tL_addStyle 0 5 rfl) rfl ?_
  refine go_cV (hc) lk_L_84 rfl G_0 (at_of tL_addStyle 0 6 rfl) rfl (by decide) rfl (Nat.le_of_ble_eq_true rfl) rfl (by first | decide | exact ⟨Nat.zero_le _, Nat.zero_le _⟩) ?_
  refine go_i2l (at_of tL_addStyle 0 7 rfl) ?_
  refine go_last1 G_133 (by omega) (by omega) (at_of tL_addStyle 0 8 rfl) ?_
  refine go_goto (tgt := 23) (at_of tL_addStyle 0 9 rfl) (by decide) ?_
  refine go_iconst (at_of tL_addStyle 1 0 rfl) (by unfold in32; omega) ?_
  first | exact go_reti (at_of tL_addStyle 1 1 rfl) rfl | exact go_reti (at_of tL_addStyle 1 1 rfl) (le_i (by omega)) | exact go_reti (at_of tL_addStyle 1 1 rfl) (le_i (by first | exact bI_t (by omega) | exact bI_f (by omega)))
theorem wt_addStyle_1 {p1 p2 p3 : Int} (hc : Con 2 mX9_addStyle 1 6 [vA 0, vI p1, vI p2, vI p3] σ (vT 21 0, σ)) : Con 3 mL_addStyle 1 6 [vA 0, vI p1, vI p2, vI p3, vA 133] σ (vI 1, σ) := by
  refine con_of_go mfL_addStyle.1 trivial (Nat.le_of_ble_eq_true rfl) rfl (by decide) ?_
  show Go _ _ _ _ 0 [vA _, vI _, vI _, vI _, vA _, vT 9 0] [] _ _
  refine go_aload (at_of tL_addStyle 0 0 rfl) rfl ?_
  refine go_iconst (at_of tL_addStyle 0 1 rfl) (by unfold in32; omega) ?_
  refine go_aload_n (at_of tL_addStyle 0 2 rfl) rfl ?_
  refine go_iload_n (at_of tL_addStyle 0 3 rfl) rfl ?_
  refine go_iload_n (at_of tL_addStyle 0 4 rfl) rfl ?_
  refine go_iload_n (at_of tL_addStyle 0 5 rfl) rfl ?_
  refine go_callC (i := 1) (h := 15) (k := 5) (Or.inl ⟨9, 0, [vI p1, vI p2, vI p3], rfl, rfl, G_0, lk_L_84, (at_of tL_addStyle 0 6 rfl)⟩) hc rfl ⟨[], [(0, 12, 19, 17)], 0, 12, 15, rfl, by decide, by decide, by decide, cl_L_15, List.mem_of_getElem? (i := 2) rfl, fun _ z => absurd z List.not_mem_nil⟩ (Or.inl ⟨rfl, (at_of tL_addStyle 0 10 rfl)⟩) rfl rfl (by decide) rfl (Nat.le_of_ble_eq_true rfl) rfl ⟨by decide, by decide⟩ ?_
  refine go_iconst (at_of tL_addStyle 0 11 rfl) (by unfold in32; omega) ?_
  first | exact go_reti (at_of tL_addStyle 0 12 rfl) rfl | exact go_reti (at_of tL_addStyle 0 12 rfl) (le_i (by omega)) | exact go_reti (at_of tL_addStyle 0 12 rfl) (le_i (by first | exact bI_t (by omega) | exact bI_f (by omega)))
theorem wt_addStyle_2 {p1 p2 p3 : Int} (hc : Con 2 mX9_addStyle 1 6 [vA 0, vI p1, vI p2, vI p3] σ (vT 22 0, σ)) : Con 3 mL_addStyle 1 6 [vA 0, vI p1, vI p2, vI p3, vA 133] σ (vI 2, σ) := by
  refine con_of_go mfL_addStyle.1 trivial (Nat.le_of_ble_eq_true rfl) rfl (by decide) ?_
  show Go _ _ _ _ 0 [vA _, vI _, vI _, vI _, vA _, vT 9 0] [] _ _
  refine go_aload (at_of tL_addStyle 0 0 rfl) rfl ?_
  refine go_iconst (at_of tL_addStyle 0 1 rfl) (by unfold in32; omega) ?_
  refine go_aload_n (at_of tL_addStyle 0 2 rfl) rfl ?_
  refine go_iload_n (at_of tL_addStyle 0 3 rfl) rfl ?_
  refine go_iload_n (at_of tL_addStyle 0 4 rfl) rfl ?_
  refine go_iload_n (at_of tL_addStyle 0 5 rfl) rfl ?_
  refine go_callC (i := 2) (h := 19) (k := 5) (Or.inl ⟨9, 0, [vI p1, vI p2, vI p3], rfl, rfl, G_0, lk_L_84, (at_of tL_addStyle 0 6 rfl)⟩) hc rfl ⟨[(0, 12, 15, 15)], [], 0, 12, 17, rfl, by decide, by decide, by decide, cl_L_17, List.mem_of_getElem? (i := 3) rfl, List.forall_mem_cons.mpr ⟨⟨by decide, _, cl_L_15, List.mem_of_getElem? (i := 7) rfl⟩, fun _ z => absurd z List.not_mem_nil⟩⟩ (Or.inl ⟨rfl, (at_of tL_addStyle 0 13 rfl)⟩) rfl rfl (by decide) rfl (Nat.le_of_ble_eq_true rfl) rfl ⟨by decide, by decide⟩ ?_
  refine go_iconst (at_of tL_addStyle 0 14 rfl) (by unfold in32; omega) ?_
  first | exact go_reti (at_of tL_addStyle 0 15 rfl) rfl | exact go_reti (at_of tL_addStyle 0 15 rfl) (le_i (by omega)) | exact go_reti (at_of tL_addStyle 0 15 rfl) (le_i (by first | exact bI_t (by omega) | exact bI_f (by omega)))
theorem wo_styleOf {p1 : Int} {v : Int} (hc : Con 4 mX9_styleOf 0 0 [vA 0, vI p1] σ (vI v, σ')) : Con 5 mL_styleOf 1 6 [vA 0, vI p1, vA 133] σ (vI 0, M1 σ' 133 0 v) := by
  refine con_of_go mfL_styleOf.1 trivial (Nat.le_of_ble_eq_true rfl) rfl (by decide) ?_
  show Go _ _ _ _ 0 [vA _, vI _, vA _, vT 9 0] [] _ _
  refine go_aload_n (at_of tL_styleOf 0 0 rfl) rfl ?_
  refine go_iconst (at_of tL_styleOf 0 1 rfl) (by unfold in32; omega) ?_
  refine go_aload_n (at_of tL_styleOf 0 2 rfl) rfl ?_
  refine go_iload_n (at_of tL_styleOf 0 3 rfl) rfl ?_
  refine go_cV (hc) lk_L_88 rfl G_0 (at_of tL_styleOf 0 4 rfl) rfl (by decide) rfl (Nat.le_of_ble_eq_true rfl) rfl (by first | decide | exact ⟨Nat.zero_le _, Nat.zero_le _⟩) ?_
  refine go_i2l (at_of tL_styleOf 0 5 rfl) ?_
  refine go_last1 G_133 (by omega) (by omega) (at_of tL_styleOf 0 6 rfl) ?_
  refine go_goto (tgt := 15) (at_of tL_styleOf 0 7 rfl) (by decide) ?_
  refine go_iconst (at_of tL_styleOf 0 11 rfl) (by unfold in32; omega) ?_
  first | exact go_reti (at_of tL_styleOf 0 12 rfl) rfl | exact go_reti (at_of tL_styleOf 0 12 rfl) (le_i (by omega)) | exact go_reti (at_of tL_styleOf 0 12 rfl) (le_i (by first | exact bI_t (by omega) | exact bI_f (by omega)))
theorem wt_styleOf_0 {p1 : Int} (hc : Con 4 mX9_styleOf 1 6 [vA 0, vI p1] σ (vT 20 0, σ)) : Con 5 mL_styleOf 1 6 [vA 0, vI p1, vA 133] σ (vI 1, σ) := by
  refine con_of_go mfL_styleOf.1 trivial (Nat.le_of_ble_eq_true rfl) rfl (by decide) ?_
  show Go _ _ _ _ 0 [vA _, vI _, vA _, vT 9 0] [] _ _
  refine go_aload_n (at_of tL_styleOf 0 0 rfl) rfl ?_
  refine go_iconst (at_of tL_styleOf 0 1 rfl) (by unfold in32; omega) ?_
  refine go_aload_n (at_of tL_styleOf 0 2 rfl) rfl ?_
  refine go_iload_n (at_of tL_styleOf 0 3 rfl) rfl ?_
  refine go_callC (i := 0) (h := 12) (k := 3) (Or.inl ⟨9, 0, [vI p1], rfl, rfl, G_0, lk_L_88, (at_of tL_styleOf 0 4 rfl)⟩) hc rfl ⟨[], [], 0, 9, 13, rfl, by decide, by decide, by decide, cl_L_13, List.mem_of_getElem? (i := 1) rfl, fun _ z => absurd z List.not_mem_nil⟩ (Or.inr ⟨rfl, 3, rfl, (at_of tL_styleOf 0 8 rfl)⟩) rfl rfl (by decide) rfl (Nat.le_of_ble_eq_true rfl) rfl ⟨by decide, by decide⟩ ?_
  refine go_iconst (at_of tL_styleOf 0 9 rfl) (by unfold in32; omega) ?_
  first | exact go_reti (at_of tL_styleOf 0 10 rfl) rfl | exact go_reti (at_of tL_styleOf 0 10 rfl) (le_i (by omega)) | exact go_reti (at_of tL_styleOf 0 10 rfl) (le_i (by first | exact bI_t (by omega) | exact bI_f (by omega)))
theorem wo_isBold {p1 : Int} {v : Int} (hv : v = 0 ∨ v = 1) (hc : Con 4 mX9_isBold 0 0 [vA 0, vI p1] σ (vI v, σ')) : Con 5 mL_isBold 1 6 [vA 0, vI p1, vA 133] σ (vI 0, M1 σ' 133 0 v) := by
  rcases hv with rfl | rfl
  · refine con_of_go mfL_isBold.1 trivial (Nat.le_of_ble_eq_true rfl) rfl (by decide) ?_
    show Go _ _ _ _ 0 [vA _, vI _, vA _, vT 9 0] [] _ _
    refine go_aload_n (at_of tL_isBold 0 0 rfl) rfl ?_
    refine go_iconst (at_of tL_isBold 0 1 rfl) (by unfold in32; omega) ?_
    refine go_aload_n (at_of tL_isBold 0 2 rfl) rfl ?_
    refine go_iload_n (at_of tL_isBold 0 3 rfl) rfl ?_
    refine go_cV (hc) lk_L_91 rfl G_0 (at_of tL_isBold 0 4 rfl) rfl (by decide) rfl (Nat.le_of_ble_eq_true rfl) rfl (by first | decide | exact ⟨Nat.zero_le _, Nat.zero_le _⟩) ?_
    refine go_if_eq (tgt := 14) (at_of tL_isBold 0 5 rfl) (by decide) (fun h7 => ?_) (fun h7 => ?_)
    rotate_left
    · exfalso; omega
    refine go_lconst (at_of tL_isBold 0 8 rfl) ?_
    refine go_last1 G_133 (by omega) (by omega) (at_of tL_isBold 0 9 rfl) ?_
    refine go_goto (tgt := 22) (at_of tL_isBold 0 10 rfl) (by decide) ?_
    refine go_iconst (at_of tL_isBold 0 14 rfl) (by unfold in32; omega) ?_
    first | exact go_reti (at_of tL_isBold 0 15 rfl) rfl | exact go_reti (at_of tL_isBold 0 15 rfl) (le_i (by omega)) | exact go_reti (at_of tL_isBold 0 15 rfl) (le_i (by first | exact bI_t (by omega) | exact bI_f (by omega)))
  · refine con_of_go mfL_isBold.1 trivial (Nat.le_of_ble_eq_true rfl) rfl (by decide) ?_
    show Go _ _ _ _ 0 [vA _, vI _, vA _, vT 9 0] [] _ _
    refine go_aload_n (at_of tL_isBold 0 0 rfl) rfl ?_
    refine go_iconst (at_of tL_isBold 0 1 rfl) (by unfold in32; omega) ?_
    refine go_aload_n (at_of tL_isBold 0 2 rfl) rfl ?_
    refine go_iload_n (at_of tL_isBold 0 3 rfl) rfl ?_
    refine go_cV (hc) lk_L_91 rfl G_0 (at_of tL_isBold 0 4 rfl) rfl (by decide) rfl (Nat.le_of_ble_eq_true rfl) rfl (by first | decide | exact ⟨Nat.zero_le _, Nat.zero_le _⟩) ?_
    refine go_if_eq (tgt := 14) (at_of tL_isBold 0 5 rfl) (by decide) (fun h7 => ?_) (fun h7 => ?_)
    · exfalso; omega
    refine go_lconst (at_of tL_isBold 0 6 rfl) ?_
    refine go_goto (tgt := 15) (at_of tL_isBold 0 7 rfl) (by decide) ?_
    refine go_last1 G_133 (by omega) (by omega) (at_of tL_isBold 0 9 rfl) ?_
    refine go_goto (tgt := 22) (at_of tL_isBold 0 10 rfl) (by decide) ?_
    refine go_iconst (at_of tL_isBold 0 14 rfl) (by unfold in32; omega) ?_
    first | exact go_reti (at_of tL_isBold 0 15 rfl) rfl | exact go_reti (at_of tL_isBold 0 15 rfl) (le_i (by omega)) | exact go_reti (at_of tL_isBold 0 15 rfl) (le_i (by first | exact bI_t (by omega) | exact bI_f (by omega)))
theorem wt_isBold_0 {p1 : Int} (hc : Con 4 mX9_isBold 1 6 [vA 0, vI p1] σ (vT 20 0, σ)) : Con 5 mL_isBold 1 6 [vA 0, vI p1, vA 133] σ (vI 1, σ) := by
  refine con_of_go mfL_isBold.1 trivial (Nat.le_of_ble_eq_true rfl) rfl (by decide) ?_
  show Go _ _ _ _ 0 [vA _, vI _, vA _, vT 9 0] [] _ _
  refine go_aload_n (at_of tL_isBold 0 0 rfl) rfl ?_
  refine go_iconst (at_of tL_isBold 0 1 rfl) (by unfold in32; omega) ?_
  refine go_aload_n (at_of tL_isBold 0 2 rfl) rfl ?_
  refine go_iload_n (at_of tL_isBold 0 3 rfl) rfl ?_
  refine go_callC (i := 0) (h := 19) (k := 3) (Or.inl ⟨9, 0, [vI p1], rfl, rfl, G_0, lk_L_91, (at_of tL_isBold 0 4 rfl)⟩) hc rfl ⟨[], [], 0, 16, 13, rfl, by decide, by decide, by decide, cl_L_13, List.mem_of_getElem? (i := 1) rfl, fun _ z => absurd z List.not_mem_nil⟩ (Or.inr ⟨rfl, 3, rfl, (at_of tL_isBold 0 11 rfl)⟩) rfl rfl (by decide) rfl (Nat.le_of_ble_eq_true rfl) rfl ⟨by decide, by decide⟩ ?_
  refine go_iconst (at_of tL_isBold 0 12 rfl) (by unfold in32; omega) ?_
  first | exact go_reti (at_of tL_isBold 0 13 rfl) rfl | exact go_reti (at_of tL_isBold 0 13 rfl) (le_i (by omega)) | exact go_reti (at_of tL_isBold 0 13 rfl) (le_i (by first | exact bI_t (by omega) | exact bI_f (by omega)))
theorem wo_setList {p1 p2 p3 : Int} {v : Int} (hc : Con 4 mX9_setList 0 0 [vA 0, vI p1, vI p2, vI p3] σ (vI v, σ')) : Con 5 mL_setList 1 6 [vA 0, vI p1, vI p2, vI p3, vA 133] σ (vI 0, M1 σ' 133 0 v) := by
  refine con_of_go mfL_setList.1 trivial (Nat.le_of_ble_eq_true rfl) rfl (by decide) ?_
  show Go _ _ _ _ 0 [vA _, vI _, vI _, vI _, vA _, vT 9 0] [] _ _
  refine go_aload (at_of tL_setList 0 0 rfl) rfl ?_
  refine go_iconst (at_of tL_setList 0 1 rfl) (by unfold in32; omega) ?_
  refine go_aload_n (at_of tL_setList 0 2 rfl) rfl ?_
  refine go_iload_n (at_of tL_setList 0 3 rfl) rfl ?_
  refine go_iload_n (at_of tL_setList 0 4 rfl) rfl ?_
  refine go_iload_n (at_of tL_setList 0 5 rfl) rfl ?_
  refine go_cV (hc) lk_L_95 rfl G_0 (at_of tL_setList 0 6 rfl) rfl (by decide) rfl (Nat.le_of_ble_eq_true rfl) rfl (by first | decide | exact ⟨Nat.zero_le _, Nat.zero_le _⟩) ?_
  refine go_i2l (at_of tL_setList 0 7 rfl) ?_
  refine go_last1 G_133 (by omega) (by omega) (at_of tL_setList 0 8 rfl) ?_
  refine go_goto (tgt := 27) (at_of tL_setList 0 9 rfl) (by decide) ?_
  refine go_iconst (at_of tL_setList 1 3 rfl) (by unfold in32; omega) ?_
  first | exact go_reti (at_of tL_setList 1 4 rfl) rfl | exact go_reti (at_of tL_setList 1 4 rfl) (le_i (by omega)) | exact go_reti (at_of tL_setList 1 4 rfl) (le_i (by first | exact bI_t (by omega) | exact bI_f (by omega)))
theorem wt_setList_0 {p1 p2 p3 : Int} (hc : Con 4 mX9_setList 1 6 [vA 0, vI p1, vI p2, vI p3] σ (vT 20 0, σ)) : Con 5 mL_setList 1 6 [vA 0, vI p1, vI p2, vI p3, vA 133] σ (vI 1, σ) := by
  refine con_of_go mfL_setList.1 trivial (Nat.le_of_ble_eq_true rfl) rfl (by decide) ?_
  show Go _ _ _ _ 0 [vA _, vI _, vI _, vI _, vA _, vT 9 0] [] _ _
  refine go_aload (at_of tL_setList 0 0 rfl) rfl ?_
  refine go_iconst (at_of tL_setList 0 1 rfl) (by unfold in32; omega) ?_
  refine go_aload_n (at_of tL_setList 0 2 rfl) rfl ?_
  refine go_iload_n (at_of tL_setList 0 3 rfl) rfl ?_
  refine go_iload_n (at_of tL_setList 0 4 rfl) rfl ?_
  refine go_iload_n (at_of tL_setList 0 5 rfl) rfl ?_
  refine go_callC (i := 0) (h := 15) (k := 5) (Or.inl ⟨9, 0, [vI p1, vI p2, vI p3], rfl, rfl, G_0, lk_L_95, (at_of tL_setList 0 6 rfl)⟩) hc rfl ⟨[], [(0, 12, 19, 15), (0, 12, 23, 19)], 0, 12, 13, rfl, by decide, by decide, by decide, cl_L_13, List.mem_of_getElem? (i := 1) rfl, fun _ z => absurd z List.not_mem_nil⟩ (Or.inl ⟨rfl, (at_of tL_setList 0 10 rfl)⟩) rfl rfl (by decide) rfl (Nat.le_of_ble_eq_true rfl) rfl ⟨by decide, by decide⟩ ?_
  refine go_iconst (at_of tL_setList 0 11 rfl) (by unfold in32; omega) ?_
  first | exact go_reti (at_of tL_setList 0 12 rfl) rfl | exact go_reti (at_of tL_setList 0 12 rfl) (le_i (by omega)) | exact go_reti (at_of tL_setList 0 12 rfl) (le_i (by first | exact bI_t (by omega) | exact bI_f (by omega)))
theorem wt_setList_1 {p1 p2 p3 : Int} (hc : Con 4 mX9_setList 1 6 [vA 0, vI p1, vI p2, vI p3] σ (vT 21 0, σ)) : Con 5 mL_setList 1 6 [vA 0, vI p1, vI p2, vI p3, vA 133] σ (vI 2, σ) := by
  refine con_of_go mfL_setList.1 trivial (Nat.le_of_ble_eq_true rfl) rfl (by decide) ?_
  show Go _ _ _ _ 0 [vA _, vI _, vI _, vI _, vA _, vT 9 0] [] _ _
  refine go_aload (at_of tL_setList 0 0 rfl) rfl ?_
  refine go_iconst (at_of tL_setList 0 1 rfl) (by unfold in32; omega) ?_
  refine go_aload_n (at_of tL_setList 0 2 rfl) rfl ?_
  refine go_iload_n (at_of tL_setList 0 3 rfl) rfl ?_
  refine go_iload_n (at_of tL_setList 0 4 rfl) rfl ?_
  refine go_iload_n (at_of tL_setList 0 5 rfl) rfl ?_
  refine go_callC (i := 1) (h := 19) (k := 5) (Or.inl ⟨9, 0, [vI p1, vI p2, vI p3], rfl, rfl, G_0, lk_L_95, (at_of tL_setList 0 6 rfl)⟩) hc rfl ⟨[(0, 12, 15, 13)], [(0, 12, 23, 19)], 0, 12, 15, rfl, by decide, by decide, by decide, cl_L_15, List.mem_of_getElem? (i := 2) rfl, List.forall_mem_cons.mpr ⟨⟨by decide, _, cl_L_13, List.mem_of_getElem? (i := 0) rfl⟩, fun _ z => absurd z List.not_mem_nil⟩⟩ (Or.inl ⟨rfl, (at_of tL_setList 0 13 rfl)⟩) rfl rfl (by decide) rfl (Nat.le_of_ble_eq_true rfl) rfl ⟨by decide, by decide⟩ ?_
  refine go_iconst (at_of tL_setList 0 14 rfl) (by unfold in32; omega) ?_
  first | exact go_reti (at_of tL_setList 0 15 rfl) rfl | exact go_reti (at_of tL_setList 0 15 rfl) (le_i (by omega)) | exact go_reti (at_of tL_setList 0 15 rfl) (le_i (by first | exact bI_t (by omega) | exact bI_f (by omega)))
theorem wt_setList_3 {p1 p2 p3 : Int} (hc : Con 4 mX9_setList 1 6 [vA 0, vI p1, vI p2, vI p3] σ (vT 23 0, σ)) : Con 5 mL_setList 1 6 [vA 0, vI p1, vI p2, vI p3, vA 133] σ (vI 3, σ) := by
  refine con_of_go mfL_setList.1 trivial (Nat.le_of_ble_eq_true rfl) rfl (by decide) ?_
  show Go _ _ _ _ 0 [vA _, vI _, vI _, vI _, vA _, vT 9 0] [] _ _
  refine go_aload (at_of tL_setList 0 0 rfl) rfl ?_
  refine go_iconst (at_of tL_setList 0 1 rfl) (by unfold in32; omega) ?_
  refine go_aload_n (at_of tL_setList 0 2 rfl) rfl ?_
  refine go_iload_n (at_of tL_setList 0 3 rfl) rfl ?_
  refine go_iload_n (at_of tL_setList 0 4 rfl) rfl ?_
  refine go_iload_n (at_of tL_setList 0 5 rfl) rfl ?_
  refine go_callC (i := 3) (h := 23) (k := 5) (Or.inl ⟨9, 0, [vI p1, vI p2, vI p3], rfl, rfl, G_0, lk_L_95, (at_of tL_setList 0 6 rfl)⟩) hc rfl ⟨[(0, 12, 15, 13), (0, 12, 19, 15)], [], 0, 12, 19, rfl, by decide, by decide, by decide, cl_L_19, List.mem_of_getElem? (i := 4) rfl, List.forall_mem_cons.mpr ⟨⟨by decide, _, cl_L_13, List.mem_of_getElem? (i := 2) rfl⟩, List.forall_mem_cons.mpr ⟨⟨by decide, _, cl_L_15, List.mem_of_getElem? (i := 8) rfl⟩, fun _ z => absurd z List.not_mem_nil⟩⟩⟩ (Or.inl ⟨rfl, (at_of tL_setList 1 0 rfl)⟩) rfl rfl (by decide) rfl (Nat.le_of_ble_eq_true rfl) rfl ⟨by decide, by decide⟩ ?_
  refine go_iconst (at_of tL_setList 1 1 rfl) (by unfold in32; omega) ?_
  first | exact go_reti (at_of tL_setList 1 2 rfl) rfl | exact go_reti (at_of tL_setList 1 2 rfl) (le_i (by omega)) | exact go_reti (at_of tL_setList 1 2 rfl) (le_i (by first | exact bI_t (by omega) | exact bI_f (by omega)))
theorem wo_restart {p1 p2 : Int} {v : Int} (hc : Con 4 mX9_restart 0 0 [vA 0, vI p1, vI p2] σ (vI v, σ')) : Con 5 mL_restart 1 6 [vA 0, vI p1, vI p2, vA 133] σ (vI 0, M1 σ' 133 0 v) := by
  refine con_of_go mfL_restart.1 trivial (Nat.le_of_ble_eq_true rfl) rfl (by decide) ?_
  show Go _ _ _ _ 0 [vA _, vI _, vI _, vA _, vT 9 0] [] _ _
  refine go_aload_n (at_of tL_restart 0 0 rfl) rfl ?_
  refine go_iconst (at_of tL_restart 0 1 rfl) (by unfold in32; omega) ?_
  refine go_aload_n (at_of tL_restart 0 2 rfl) rfl ?_
  refine go_iload_n (at_of tL_restart 0 3 rfl) rfl ?_
  refine go_iload_n (at_of tL_restart 0 4 rfl) rfl ?_
  refine go_cV (hc) lk_L_98 rfl G_0 (at_of tL_restart 0 5 rfl) rfl (by decide) rfl (Nat.le_of_ble_eq_true rfl) rfl (by first | decide | exact ⟨Nat.zero_le _, Nat.zero_le _⟩) ?_
  refine go_i2l (at_of tL_restart 0 6 rfl) ?_
  refine go_last1 G_133 (by omega) (by omega) (at_of tL_restart 0 7 rfl) ?_
  refine go_goto (tgt := 25) (at_of tL_restart 0 8 rfl) (by decide) ?_
  refine go_iconst (at_of tL_restart 1 2 rfl) (by unfold in32; omega) ?_
  first | exact go_reti (at_of tL_restart 1 3 rfl) rfl | exact go_reti (at_of tL_restart 1 3 rfl) (le_i (by omega)) | exact go_reti (at_of tL_restart 1 3 rfl) (le_i (by first | exact bI_t (by omega) | exact bI_f (by omega)))
theorem wt_restart_0 {p1 p2 : Int} (hc : Con 4 mX9_restart 1 6 [vA 0, vI p1, vI p2] σ (vT 20 0, σ)) : Con 5 mL_restart 1 6 [vA 0, vI p1, vI p2, vA 133] σ (vI 1, σ) := by
  refine con_of_go mfL_restart.1 trivial (Nat.le_of_ble_eq_true rfl) rfl (by decide) ?_
  show Go _ _ _ _ 0 [vA _, vI _, vI _, vA _, vT 9 0] [] _ _
  refine go_aload_n (at_of tL_restart 0 0 rfl) rfl ?_
  refine go_iconst (at_of tL_restart 0 1 rfl) (by unfold in32; omega) ?_
  refine go_aload_n (at_of tL_restart 0 2 rfl) rfl ?_
  refine go_iload_n (at_of tL_restart 0 3 rfl) rfl ?_
  refine go_iload_n (at_of tL_restart 0 4 rfl) rfl ?_
  refine go_callC (i := 0) (h := 13) (k := 4) (Or.inl ⟨9, 0, [vI p1, vI p2], rfl, rfl, G_0, lk_L_98, (at_of tL_restart 0 5 rfl)⟩) hc rfl ⟨[], [(0, 10, 17, 15), (0, 10, 21, 19)], 0, 10, 13, rfl, by decide, by decide, by decide, cl_L_13, List.mem_of_getElem? (i := 1) rfl, fun _ z => absurd z List.not_mem_nil⟩ (Or.inl ⟨rfl, (at_of tL_restart 0 9 rfl)⟩) rfl rfl (by decide) rfl (Nat.le_of_ble_eq_true rfl) rfl ⟨by decide, by decide⟩ ?_
  refine go_iconst (at_of tL_restart 0 10 rfl) (by unfold in32; omega) ?_
  first | exact go_reti (at_of tL_restart 0 11 rfl) rfl | exact go_reti (at_of tL_restart 0 11 rfl) (le_i (by omega)) | exact go_reti (at_of tL_restart 0 11 rfl) (le_i (by first | exact bI_t (by omega) | exact bI_f (by omega)))
theorem wt_restart_1 {p1 p2 : Int} (hc : Con 4 mX9_restart 1 6 [vA 0, vI p1, vI p2] σ (vT 21 0, σ)) : Con 5 mL_restart 1 6 [vA 0, vI p1, vI p2, vA 133] σ (vI 2, σ) := by
  refine con_of_go mfL_restart.1 trivial (Nat.le_of_ble_eq_true rfl) rfl (by decide) ?_
  show Go _ _ _ _ 0 [vA _, vI _, vI _, vA _, vT 9 0] [] _ _
  refine go_aload_n (at_of tL_restart 0 0 rfl) rfl ?_
  refine go_iconst (at_of tL_restart 0 1 rfl) (by unfold in32; omega) ?_
  refine go_aload_n (at_of tL_restart 0 2 rfl) rfl ?_
  refine go_iload_n (at_of tL_restart 0 3 rfl) rfl ?_
  refine go_iload_n (at_of tL_restart 0 4 rfl) rfl ?_
  refine go_callC (i := 1) (h := 17) (k := 4) (Or.inl ⟨9, 0, [vI p1, vI p2], rfl, rfl, G_0, lk_L_98, (at_of tL_restart 0 5 rfl)⟩) hc rfl ⟨[(0, 10, 13, 13)], [(0, 10, 21, 19)], 0, 10, 15, rfl, by decide, by decide, by decide, cl_L_15, List.mem_of_getElem? (i := 2) rfl, List.forall_mem_cons.mpr ⟨⟨by decide, _, cl_L_13, List.mem_of_getElem? (i := 0) rfl⟩, fun _ z => absurd z List.not_mem_nil⟩⟩ (Or.inl ⟨rfl, (at_of tL_restart 0 12 rfl)⟩) rfl rfl (by decide) rfl (Nat.le_of_ble_eq_true rfl) rfl ⟨by decide, by decide⟩ ?_
  refine go_iconst (at_of tL_restart 0 13 rfl) (by unfold in32; omega) ?_
  first | exact go_reti (at_of tL_restart 0 14 rfl) rfl | exact go_reti (at_of tL_restart 0 14 rfl) (le_i (by omega)) | exact go_reti (at_of tL_restart 0 14 rfl) (le_i (by first | exact bI_t (by omega) | exact bI_f (by omega)))
theorem wt_restart_3 {p1 p2 : Int} (hc : Con 4 mX9_restart 1 6 [vA 0, vI p1, vI p2] σ (vT 23 0, σ)) : Con 5 mL_restart 1 6 [vA 0, vI p1, vI p2, vA 133] σ (vI 3, σ) := by
  refine con_of_go mfL_restart.1 trivial (Nat.le_of_ble_eq_true rfl) rfl (by decide) ?_
  show Go _ _ _ _ 0 [vA _, vI _, vI _, vA _, vT 9 0] [] _ _
  refine go_aload_n (at_of tL_restart 0 0 rfl) rfl ?_
  refine go_iconst (at_of tL_restart 0 1 rfl) (by unfold in32; omega) ?_
  refine go_aload_n (at_of tL_restart 0 2 rfl) rfl ?_
  refine go_iload_n (at_of tL_restart 0 3 rfl) rfl ?_
  refine go_iload_n (at_of tL_restart 0 4 rfl) rfl ?_
  refine go_callC (i := 3) (h := 21) (k := 4) (Or.inl ⟨9, 0, [vI p1, vI p2], rfl, rfl, G_0, lk_L_98, (at_of tL_restart 0 5 rfl)⟩) hc rfl ⟨[(0, 10, 13, 13), (0, 10, 17, 15)], [], 0, 10, 19, rfl, by decide, by decide, by decide, cl_L_19, List.mem_of_getElem? (i := 4) rfl, List.forall_mem_cons.mpr ⟨⟨by decide, _, cl_L_13, List.mem_of_getElem? (i := 2) rfl⟩, List.forall_mem_cons.mpr ⟨⟨by decide, _, cl_L_15, List.mem_of_getElem? (i := 8) rfl⟩, fun _ z => absurd z List.not_mem_nil⟩⟩⟩ (Or.inl ⟨rfl, (at_of tL_restart 0 15 rfl)⟩) rfl rfl (by decide) rfl (Nat.le_of_ble_eq_true rfl) rfl ⟨by decide, by decide⟩ ?_
  refine go_iconst (at_of tL_restart 1 0 rfl) (by unfold in32; omega) ?_
  first | exact go_reti (at_of tL_restart 1 1 rfl) rfl | exact go_reti (at_of tL_restart 1 1 rfl) (le_i (by omega)) | exact go_reti (at_of tL_restart 1 1 rfl) (le_i (by first | exact bI_t (by omega) | exact bI_f (by omega)))
theorem wo_setKind {p1 p2 p3 : Int} {v : Int} (hc : Con 2 mX9_setKind 0 0 [vA 0, vI p1, vI p2, vI p3] σ (vI v, σ')) : Con 3 mL_setKind 1 6 [vA 0, vI p1, vI p2, vI p3, vA 133] σ (vI 0, M1 σ' 133 0 v) := by
  refine con_of_go mfL_setKind.1 trivial (Nat.le_of_ble_eq_true rfl) rfl (by decide) ?_
  show Go _ _ _ _ 0 [vA _, vI _, vI _, vI _, vA _, vT 9 0] [] _ _
  refine go_aload (at_of tL_setKind 0 0 rfl) rfl ?_
  refine go_iconst (at_of tL_setKind 0 1 rfl) (by unfold in32; omega) ?_
  refine go_aload_n (at_of tL_setKind 0 2 rfl) rfl ?_
  refine go_iload_n (at_of tL_setKind 0 3 rfl) rfl ?_
  refine go_iload_n (at_of tL_setKind 0 4 rfl) rfl ?_
  refine go_iload_n (at_of tL_setKind 0 5 rfl) rfl ?_
  refine go_cV (hc) lk_L_102 rfl G_0 (at_of tL_setKind 0 6 rfl) rfl (by decide) rfl (Nat.le_of_ble_eq_true rfl) rfl (by first | decide | exact ⟨Nat.zero_le _, Nat.zero_le _⟩) ?_
  refine go_i2l (at_of tL_setKind 0 7 rfl) ?_
  refine go_last1 G_133 (by omega) (by omega) (at_of tL_setKind 0 8 rfl) ?_
  refine go_goto (tgt := 19) (at_of tL_setKind 0 9 rfl) (by decide) ?_
  refine go_iconst (at_of tL_setKind 0 13 rfl) (by unfold in32; omega) ?_
  first | exact go_reti (at_of tL_setKind 0 14 rfl) rfl | exact go_reti (at_of tL_setKind 0 14 rfl) (le_i (by omega)) | exact go_reti (at_of tL_setKind 0 14 rfl) (le_i (by first | exact bI_t (by omega) | exact bI_f (by omega)))
theorem wt_setKind_1 {p1 p2 p3 : Int} (hc : Con 2 mX9_setKind 1 6 [vA 0, vI p1, vI p2, vI p3] σ (vT 21 0, σ)) : Con 3 mL_setKind 1 6 [vA 0, vI p1, vI p2, vI p3, vA 133] σ (vI 1, σ) := by
  refine con_of_go mfL_setKind.1 trivial (Nat.le_of_ble_eq_true rfl) rfl (by decide) ?_
  show Go _ _ _ _ 0 [vA _, vI _, vI _, vI _, vA _, vT 9 0] [] _ _
  refine go_aload (at_of tL_setKind 0 0 rfl) rfl ?_
  refine go_iconst (at_of tL_setKind 0 1 rfl) (by unfold in32; omega) ?_
  refine go_aload_n (at_of tL_setKind 0 2 rfl) rfl ?_
  refine go_iload_n (at_of tL_setKind 0 3 rfl) rfl ?_
  refine go_iload_n (at_of tL_setKind 0 4 rfl) rfl ?_
  refine go_iload_n (at_of tL_setKind 0 5 rfl) rfl ?_
  refine go_callC (i := 1) (h := 15) (k := 5) (Or.inl ⟨9, 0, [vI p1, vI p2, vI p3], rfl, rfl, G_0, lk_L_102, (at_of tL_setKind 0 6 rfl)⟩) hc rfl ⟨[], [], 0, 12, 15, rfl, by decide, by decide, by decide, cl_L_15, List.mem_of_getElem? (i := 2) rfl, fun _ z => absurd z List.not_mem_nil⟩ (Or.inl ⟨rfl, (at_of tL_setKind 0 10 rfl)⟩) rfl rfl (by decide) rfl (Nat.le_of_ble_eq_true rfl) rfl ⟨by decide, by decide⟩ ?_
  refine go_iconst (at_of tL_setKind 0 11 rfl) (by unfold in32; omega) ?_
  first | exact go_reti (at_of tL_setKind 0 12 rfl) rfl | exact go_reti (at_of tL_setKind 0 12 rfl) (le_i (by omega)) | exact go_reti (at_of tL_setKind 0 12 rfl) (le_i (by first | exact bI_t (by omega) | exact bI_f (by omega)))
theorem wo_setLegal {p1 p2 : Int} {v : Int} (hv : v = 0 ∨ v = 1) (hc : Con 2 mX9_setLegal 0 0 [vA 0, vI p1, vI p2] σ (vI v, σ')) : Con 3 mL_setLegal 1 6 [vA 0, vI p1, vI p2, vA 133] σ (vI 0, M1 σ' 133 0 v) := by
  rcases hv with rfl | rfl
  · refine con_of_go mfL_setLegal.1 trivial (Nat.le_of_ble_eq_true rfl) rfl (by decide) ?_
    show Go _ _ _ _ 0 [vA _, vI _, vI _, vA _, vT 9 0] [] _ _
    refine go_aload_n (at_of tL_setLegal 0 0 rfl) rfl ?_
    refine go_iconst (at_of tL_setLegal 0 1 rfl) (by unfold in32; omega) ?_
    refine go_aload_n (at_of tL_setLegal 0 2 rfl) rfl ?_
    refine go_iload_n (at_of tL_setLegal 0 3 rfl) rfl ?_
    refine go_iload_n (at_of tL_setLegal 0 4 rfl) rfl ?_
    refine go_cV (hc) lk_L_106 rfl G_0 (at_of tL_setLegal 0 5 rfl) rfl (by decide) rfl (Nat.le_of_ble_eq_true rfl) rfl (by first | decide | exact ⟨Nat.zero_le _, Nat.zero_le _⟩) ?_
    refine go_if_eq (tgt := 15) (at_of tL_setLegal 0 6 rfl) (by decide) (fun h8 => ?_) (fun h8 => ?_)
    rotate_left
    · exfalso; omega
    refine go_lconst (at_of tL_setLegal 0 9 rfl) ?_
    refine go_last1 G_133 (by omega) (by omega) (at_of tL_setLegal 0 10 rfl) ?_
    refine go_goto (tgt := 24) (at_of tL_setLegal 0 11 rfl) (by decide) ?_
    refine go_iconst (at_of tL_setLegal 0 15 rfl) (by unfold in32; omega) ?_
    first | exact go_reti (at_of tL_setLegal 1 0 rfl) rfl | exact go_reti (at_of tL_setLegal 1 0 rfl) (le_i (by omega)) | exact go_reti (at_of tL_setLegal 1 0 rfl) (le_i (by first | exact bI_t (by omega) | exact bI_f (by omega)))
  · refine con_of_go mfL_setLegal.1 trivial (Nat.le_of_ble_eq_true rfl) rfl (by decide) ?_
    show Go _ _ _ _ 0 [vA _, vI _, vI _, vA _, vT 9 0] [] _ _
    refine go_aload_n (at_of tL_setLegal 0 0 rfl) rfl ?_
    refine go_iconst (at_of tL_setLegal 0 1 rfl) (by unfold in32; omega) ?_
    refine go_aload_n (at_of tL_setLegal 0 2 rfl) rfl ?_
    refine go_iload_n (at_of tL_setLegal 0 3 rfl) rfl ?_
    refine go_iload_n (at_of tL_setLegal 0 4 rfl) rfl ?_
    refine go_cV (hc) lk_L_106 rfl G_0 (at_of tL_setLegal 0 5 rfl) rfl (by decide) rfl (Nat.le_of_ble_eq_true rfl) rfl (by first | decide | exact ⟨Nat.zero_le _, Nat.zero_le _⟩) ?_
    refine go_if_eq (tgt := 15) (at_of tL_setLegal 0 6 rfl) (by decide) (fun h8 => ?_) (fun h8 => ?_)
    · exfalso; omega
    refine go_lconst (at_of tL_setLegal 0 7 rfl) ?_
    refine go_goto (tgt := 16) (at_of tL_setLegal 0 8 rfl) (by decide) ?_
    refine go_last1 G_133 (by omega) (by omega) (at_of tL_setLegal 0 10 rfl) ?_
    refine go_goto (tgt := 24) (at_of tL_setLegal 0 11 rfl) (by decide) ?_
    refine go_iconst (at_of tL_setLegal 0 15 rfl) (by unfold in32; omega) ?_
    first | exact go_reti (at_of tL_setLegal 1 0 rfl) rfl | exact go_reti (at_of tL_setLegal 1 0 rfl) (le_i (by omega)) | exact go_reti (at_of tL_setLegal 1 0 rfl) (le_i (by first | exact bI_t (by omega) | exact bI_f (by omega)))
theorem wt_setLegal_1 {p1 p2 : Int} (hc : Con 2 mX9_setLegal 1 6 [vA 0, vI p1, vI p2] σ (vT 21 0, σ)) : Con 3 mL_setLegal 1 6 [vA 0, vI p1, vI p2, vA 133] σ (vI 1, σ) := by
  refine con_of_go mfL_setLegal.1 trivial (Nat.le_of_ble_eq_true rfl) rfl (by decide) ?_
  show Go _ _ _ _ 0 [vA _, vI _, vI _, vA _, vT 9 0] [] _ _
  refine go_aload_n (at_of tL_setLegal 0 0 rfl) rfl ?_
  refine go_iconst (at_of tL_setLegal 0 1 rfl) (by unfold in32; omega) ?_
  refine go_aload_n (at_of tL_setLegal 0 2 rfl) rfl ?_
  refine go_iload_n (at_of tL_setLegal 0 3 rfl) rfl ?_
  refine go_iload_n (at_of tL_setLegal 0 4 rfl) rfl ?_
  refine go_callC (i := 1) (h := 20) (k := 4) (Or.inl ⟨9, 0, [vI p1, vI p2], rfl, rfl, G_0, lk_L_106, (at_of tL_setLegal 0 5 rfl)⟩) hc rfl ⟨[], [], 0, 17, 15, rfl, by decide, by decide, by decide, cl_L_15, List.mem_of_getElem? (i := 2) rfl, fun _ z => absurd z List.not_mem_nil⟩ (Or.inl ⟨rfl, (at_of tL_setLegal 0 12 rfl)⟩) rfl rfl (by decide) rfl (Nat.le_of_ble_eq_true rfl) rfl ⟨by decide, by decide⟩ ?_
  refine go_iconst (at_of tL_setLegal 0 13 rfl) (by unfold in32; omega) ?_
  first | exact go_reti (at_of tL_setLegal 0 14 rfl) rfl | exact go_reti (at_of tL_setLegal 0 14 rfl) (le_i (by omega)) | exact go_reti (at_of tL_setLegal 0 14 rfl) (le_i (by first | exact bI_t (by omega) | exact bI_f (by omega)))
theorem wo_numberOf {p1 : Int} {v : Int} (hc : Con 4 mX9_numberOf 0 0 [vA 0, vI p1] σ (vI v, σ')) : Con 5 mL_numberOf 1 6 [vA 0, vI p1, vA 133] σ (vI 0, M1 σ' 133 0 v) := by
  refine con_of_go mfL_numberOf.1 trivial (Nat.le_of_ble_eq_true rfl) rfl (by decide) ?_
  show Go _ _ _ _ 0 [vA _, vI _, vA _, vT 9 0] [] _ _
  refine go_aload_n (at_of tL_numberOf 0 0 rfl) rfl ?_
  refine go_iconst (at_of tL_numberOf 0 1 rfl) (by unfold in32; omega) ?_
  refine go_aload_n (at_of tL_numberOf 0 2 rfl) rfl ?_
  refine go_iload_n (at_of tL_numberOf 0 3 rfl) rfl ?_
  refine go_cV (hc) lk_L_109 rfl G_0 (at_of tL_numberOf 0 4 rfl) rfl (by decide) rfl (Nat.le_of_ble_eq_true rfl) rfl (by first | decide | exact ⟨Nat.zero_le _, Nat.zero_le _⟩) ?_
  refine go_i2l (at_of tL_numberOf 0 5 rfl) ?_
  refine go_last1 G_133 (by omega) (by omega) (at_of tL_numberOf 0 6 rfl) ?_
  refine go_goto (tgt := 15) (at_of tL_numberOf 0 7 rfl) (by decide) ?_
  refine go_iconst (at_of tL_numberOf 0 11 rfl) (by unfold in32; omega) ?_
  first | exact go_reti (at_of tL_numberOf 0 12 rfl) rfl | exact go_reti (at_of tL_numberOf 0 12 rfl) (le_i (by omega)) | exact go_reti (at_of tL_numberOf 0 12 rfl) (le_i (by first | exact bI_t (by omega) | exact bI_f (by omega)))
theorem wt_numberOf_0 {p1 : Int} (hc : Con 4 mX9_numberOf 1 6 [vA 0, vI p1] σ (vT 20 0, σ)) : Con 5 mL_numberOf 1 6 [vA 0, vI p1, vA 133] σ (vI 1, σ) := by
  refine con_of_go mfL_numberOf.1 trivial (Nat.le_of_ble_eq_true rfl) rfl (by decide) ?_
  show Go _ _ _ _ 0 [vA _, vI _, vA _, vT 9 0] [] _ _
  refine go_aload_n (at_of tL_numberOf 0 0 rfl) rfl ?_
  refine go_iconst (at_of tL_numberOf 0 1 rfl) (by unfold in32; omega) ?_
  refine go_aload_n (at_of tL_numberOf 0 2 rfl) rfl ?_
  refine go_iload_n (at_of tL_numberOf 0 3 rfl) rfl ?_
  refine go_callC (i := 0) (h := 12) (k := 3) (Or.inl ⟨9, 0, [vI p1], rfl, rfl, G_0, lk_L_109, (at_of tL_numberOf 0 4 rfl)⟩) hc rfl ⟨[], [], 0, 9, 13, rfl, by decide, by decide, by decide, cl_L_13, List.mem_of_getElem? (i := 1) rfl, fun _ z => absurd z List.not_mem_nil⟩ (Or.inr ⟨rfl, 3, rfl, (at_of tL_numberOf 0 8 rfl)⟩) rfl rfl (by decide) rfl (Nat.le_of_ble_eq_true rfl) rfl ⟨by decide, by decide⟩ ?_
  refine go_iconst (at_of tL_numberOf 0 9 rfl) (by unfold in32; omega) ?_
  first | exact go_reti (at_of tL_numberOf 0 10 rfl) rfl | exact go_reti (at_of tL_numberOf 0 10 rfl) (le_i (by omega)) | exact go_reti (at_of tL_numberOf 0 10 rfl) (le_i (by first | exact bI_t (by omega) | exact bI_f (by omega)))
theorem wo_writeNumber {p1 : Int} {v : Int} (hc : Con 6 mX9_writeNumber 0 0 [vA 0, vI p1] σ (vI v, σ')) : Con 7 mL_writeNumber 1 6 [vA 0, vI p1, vA 133] σ (vI 0, M1 σ' 133 0 v) := by
  refine con_of_go mfL_writeNumber.1 trivial (Nat.le_of_ble_eq_true rfl) rfl (by decide) ?_
  show Go _ _ _ _ 0 [vA _, vI _, vA _, vT 9 0] [] _ _
  refine go_aload_n (at_of tL_writeNumber 0 0 rfl) rfl ?_
  refine go_iconst (at_of tL_writeNumber 0 1 rfl) (by unfold in32; omega) ?_
  refine go_aload_n (at_of tL_writeNumber 0 2 rfl) rfl ?_
  refine go_iload_n (at_of tL_writeNumber 0 3 rfl) rfl ?_
  refine go_cV (hc) lk_L_112 rfl G_0 (at_of tL_writeNumber 0 4 rfl) rfl (by decide) rfl (Nat.le_of_ble_eq_true rfl) rfl (by first | decide | exact ⟨Nat.zero_le _, Nat.zero_le _⟩) ?_
  refine go_i2l (at_of tL_writeNumber 0 5 rfl) ?_
  refine go_last1 G_133 (by omega) (by omega) (at_of tL_writeNumber 0 6 rfl) ?_
  refine go_goto (tgt := 18) (at_of tL_writeNumber 0 7 rfl) (by decide) ?_
  refine go_iconst (at_of tL_writeNumber 0 14 rfl) (by unfold in32; omega) ?_
  first | exact go_reti (at_of tL_writeNumber 0 15 rfl) rfl | exact go_reti (at_of tL_writeNumber 0 15 rfl) (le_i (by omega)) | exact go_reti (at_of tL_writeNumber 0 15 rfl) (le_i (by first | exact bI_t (by omega) | exact bI_f (by omega)))
theorem wt_writeNumber_0 {p1 : Int} (hc : Con 6 mX9_writeNumber 1 6 [vA 0, vI p1] σ (vT 20 0, σ)) : Con 7 mL_writeNumber 1 6 [vA 0, vI p1, vA 133] σ (vI 1, σ) := by
  refine con_of_go mfL_writeNumber.1 trivial (Nat.le_of_ble_eq_true rfl) rfl (by decide) ?_
  show Go _ _ _ _ 0 [vA _, vI _, vA _, vT 9 0] [] _ _
  refine go_aload_n (at_of tL_writeNumber 0 0 rfl) rfl ?_
  refine go_iconst (at_of tL_writeNumber 0 1 rfl) (by unfold in32; omega) ?_
  refine go_aload_n (at_of tL_writeNumber 0 2 rfl) rfl ?_
  refine go_iload_n (at_of tL_writeNumber 0 3 rfl) rfl ?_
  refine go_callC (i := 0) (h := 12) (k := 3) (Or.inl ⟨9, 0, [vI p1], rfl, rfl, G_0, lk_L_112, (at_of tL_writeNumber 0 4 rfl)⟩) hc rfl ⟨[], [(0, 9, 15, 40)], 0, 9, 13, rfl, by decide, by decide, by decide, cl_L_13, List.mem_of_getElem? (i := 1) rfl, fun _ z => absurd z List.not_mem_nil⟩ (Or.inr ⟨rfl, 3, rfl, (at_of tL_writeNumber 0 8 rfl)⟩) rfl rfl (by decide) rfl (Nat.le_of_ble_eq_true rfl) rfl ⟨by decide, by decide⟩ ?_
  refine go_iconst (at_of tL_writeNumber 0 9 rfl) (by unfold in32; omega) ?_
  first | exact go_reti (at_of tL_writeNumber 0 10 rfl) rfl | exact go_reti (at_of tL_writeNumber 0 10 rfl) (le_i (by omega)) | exact go_reti (at_of tL_writeNumber 0 10 rfl) (le_i (by first | exact bI_t (by omega) | exact bI_f (by omega)))
theorem wt_writeNumber_4 {p1 : Int} (hc : Con 6 mX9_writeNumber 1 6 [vA 0, vI p1] σ (vT 24 0, σ)) : Con 7 mL_writeNumber 1 6 [vA 0, vI p1, vA 133] σ (vI 2, σ) := by
  refine con_of_go mfL_writeNumber.1 trivial (Nat.le_of_ble_eq_true rfl) rfl (by decide) ?_
  show Go _ _ _ _ 0 [vA _, vI _, vA _, vT 9 0] [] _ _
  refine go_aload_n (at_of tL_writeNumber 0 0 rfl) rfl ?_
  refine go_iconst (at_of tL_writeNumber 0 1 rfl) (by unfold in32; omega) ?_
  refine go_aload_n (at_of tL_writeNumber 0 2 rfl) rfl ?_
  refine go_iload_n (at_of tL_writeNumber 0 3 rfl) rfl ?_
  refine go_callC (i := 4) (h := 15) (k := 3) (Or.inl ⟨9, 0, [vI p1], rfl, rfl, G_0, lk_L_112, (at_of tL_writeNumber 0 4 rfl)⟩) hc rfl ⟨[(0, 9, 12, 13)], [], 0, 9, 40, rfl, by decide, by decide, by decide, cl_L_40, List.mem_of_getElem? (i := 5) rfl, List.forall_mem_cons.mpr ⟨⟨by decide, _, cl_L_13, List.mem_of_getElem? (i := 3) rfl⟩, fun _ z => absurd z List.not_mem_nil⟩⟩ (Or.inr ⟨rfl, 3, rfl, (at_of tL_writeNumber 0 11 rfl)⟩) rfl rfl (by decide) rfl (Nat.le_of_ble_eq_true rfl) rfl ⟨by decide, by decide⟩ ?_
  refine go_iconst (at_of tL_writeNumber 0 12 rfl) (by unfold in32; omega) ?_
  first | exact go_reti (at_of tL_writeNumber 0 13 rfl) rfl | exact go_reti (at_of tL_writeNumber 0 13 rfl) (le_i (by omega)) | exact go_reti (at_of tL_writeNumber 0 13 rfl) (le_i (by first | exact bI_t (by omega) | exact bI_f (by omega)))
theorem wo_lineAt {p1 : Int} {v : Int} (hc : Con 2 mX9_lineAt 0 0 [vA 0, vI p1] σ (vI v, σ')) : Con 3 mL_lineAt 1 6 [vA 0, vI p1, vA 133] σ (vI 0, M1 σ' 133 0 v) := by
  refine con_of_go mfL_lineAt.1 trivial (Nat.le_of_ble_eq_true rfl) rfl (by decide) ?_
  show Go _ _ _ _ 0 [vA _, vI _, vA _, vT 9 0] [] _ _
  refine go_aload_n (at_of tL_lineAt 0 0 rfl) rfl ?_
  refine go_iconst (at_of tL_lineAt 0 1 rfl) (by unfold in32; omega) ?_
  refine go_aload_n (at_of tL_lineAt 0 2 rfl) rfl ?_
  refine go_iload_n (at_of tL_lineAt 0 3 rfl) rfl ?_
  refine go_cV (hc) lk_L_115 rfl G_0 (at_of tL_lineAt 0 4 rfl) rfl (by decide) rfl (Nat.le_of_ble_eq_true rfl) rfl (by first | decide | exact ⟨Nat.zero_le _, Nat.zero_le _⟩) ?_
  refine go_i2l (at_of tL_lineAt 0 5 rfl) ?_
  refine go_last1 G_133 (by omega) (by omega) (at_of tL_lineAt 0 6 rfl) ?_
  refine go_goto (tgt := 15) (at_of tL_lineAt 0 7 rfl) (by decide) ?_
  refine go_iconst (at_of tL_lineAt 0 11 rfl) (by unfold in32; omega) ?_
  first | exact go_reti (at_of tL_lineAt 0 12 rfl) rfl | exact go_reti (at_of tL_lineAt 0 12 rfl) (le_i (by omega)) | exact go_reti (at_of tL_lineAt 0 12 rfl) (le_i (by first | exact bI_t (by omega) | exact bI_f (by omega)))
theorem wt_lineAt_0 {p1 : Int} (hc : Con 2 mX9_lineAt 1 6 [vA 0, vI p1] σ (vT 20 0, σ)) : Con 3 mL_lineAt 1 6 [vA 0, vI p1, vA 133] σ (vI 1, σ) := by
  refine con_of_go mfL_lineAt.1 trivial (Nat.le_of_ble_eq_true rfl) rfl (by decide) ?_
  show Go _ _ _ _ 0 [vA _, vI _, vA _, vT 9 0] [] _ _
  refine go_aload_n (at_of tL_lineAt 0 0 rfl) rfl ?_
  refine go_iconst (at_of tL_lineAt 0 1 rfl) (by unfold in32; omega) ?_
  refine go_aload_n (at_of tL_lineAt 0 2 rfl) rfl ?_
  refine go_iload_n (at_of tL_lineAt 0 3 rfl) rfl ?_
  refine go_callC (i := 0) (h := 12) (k := 3) (Or.inl ⟨9, 0, [vI p1], rfl, rfl, G_0, lk_L_115, (at_of tL_lineAt 0 4 rfl)⟩) hc rfl ⟨[], [], 0, 9, 13, rfl, by decide, by decide, by decide, cl_L_13, List.mem_of_getElem? (i := 1) rfl, fun _ z => absurd z List.not_mem_nil⟩ (Or.inr ⟨rfl, 3, rfl, (at_of tL_lineAt 0 8 rfl)⟩) rfl rfl (by decide) rfl (Nat.le_of_ble_eq_true rfl) rfl ⟨by decide, by decide⟩ ?_
  refine go_iconst (at_of tL_lineAt 0 9 rfl) (by unfold in32; omega) ?_
  first | exact go_reti (at_of tL_lineAt 0 10 rfl) rfl | exact go_reti (at_of tL_lineAt 0 10 rfl) (le_i (by omega)) | exact go_reti (at_of tL_lineAt 0 10 rfl) (le_i (by first | exact bI_t (by omega) | exact bI_f (by omega)))
theorem wo_setBookmark {p1 p2 p3 : Int} {v : Int} (hc : Con 4 mX9_setBookmark 0 0 [vA 0, vI p1, vI p2, vI p3] σ (vI v, σ')) : Con 5 mL_setBookmark 1 6 [vA 0, vI p1, vI p2, vI p3, vA 133] σ (vI 0, M1 σ' 133 0 v) := by
  refine con_of_go mfL_setBookmark.1 trivial (Nat.le_of_ble_eq_true rfl) rfl (by decide) ?_
  show Go _ _ _ _ 0 [vA _, vI _, vI _, vI _, vA _, vT 9 0] [] _ _
  refine go_aload (at_of tL_setBookmark 0 0 rfl) rfl ?_
  refine go_iconst (at_of tL_setBookmark 0 1 rfl) (by unfold in32; omega) ?_
  refine go_aload_n (at_of tL_setBookmark 0 2 rfl) rfl ?_
  refine go_iload_n (at_of tL_setBookmark 0 3 rfl) rfl ?_
  refine go_iload_n (at_of tL_setBookmark 0 4 rfl) rfl ?_
  refine go_iload_n (at_of tL_setBookmark 0 5 rfl) rfl ?_
  refine go_cV (hc) lk_L_118 rfl G_0 (at_of tL_setBookmark 0 6 rfl) rfl (by decide) rfl (Nat.le_of_ble_eq_true rfl) rfl (by first | decide | exact ⟨Nat.zero_le _, Nat.zero_le _⟩) ?_
  refine go_i2l (at_of tL_setBookmark 0 7 rfl) ?_
  refine go_last1 G_133 (by omega) (by omega) (at_of tL_setBookmark 0 8 rfl) ?_
  refine go_goto (tgt := 23) (at_of tL_setBookmark 0 9 rfl) (by decide) ?_
  refine go_iconst (at_of tL_setBookmark 1 0 rfl) (by unfold in32; omega) ?_
  first | exact go_reti (at_of tL_setBookmark 1 1 rfl) rfl | exact go_reti (at_of tL_setBookmark 1 1 rfl) (le_i (by omega)) | exact go_reti (at_of tL_setBookmark 1 1 rfl) (le_i (by first | exact bI_t (by omega) | exact bI_f (by omega)))
theorem wt_setBookmark_0 {p1 p2 p3 : Int} (hc : Con 4 mX9_setBookmark 1 6 [vA 0, vI p1, vI p2, vI p3] σ (vT 20 0, σ)) : Con 5 mL_setBookmark 1 6 [vA 0, vI p1, vI p2, vI p3, vA 133] σ (vI 1, σ) := by
  refine con_of_go mfL_setBookmark.1 trivial (Nat.le_of_ble_eq_true rfl) rfl (by decide) ?_
  show Go _ _ _ _ 0 [vA _, vI _, vI _, vI _, vA _, vT 9 0] [] _ _
  refine go_aload (at_of tL_setBookmark 0 0 rfl) rfl ?_
  refine go_iconst (at_of tL_setBookmark 0 1 rfl) (by unfold in32; omega) ?_
  refine go_aload_n (at_of tL_setBookmark 0 2 rfl) rfl ?_
  refine go_iload_n (at_of tL_setBookmark 0 3 rfl) rfl ?_
  refine go_iload_n (at_of tL_setBookmark 0 4 rfl) rfl ?_
  refine go_iload_n (at_of tL_setBookmark 0 5 rfl) rfl ?_
  refine go_callC (i := 0) (h := 15) (k := 5) (Or.inl ⟨9, 0, [vI p1, vI p2, vI p3], rfl, rfl, G_0, lk_L_118, (at_of tL_setBookmark 0 6 rfl)⟩) hc rfl ⟨[], [(0, 12, 19, 15)], 0, 12, 13, rfl, by decide, by decide, by decide, cl_L_13, List.mem_of_getElem? (i := 1) rfl, fun _ z => absurd z List.not_mem_nil⟩ (Or.inl ⟨rfl, (at_of tL_setBookmark 0 10 rfl)⟩) rfl rfl (by decide) rfl (Nat.le_of_ble_eq_true rfl) rfl ⟨by decide, by decide⟩ ?_
  refine go_iconst (at_of tL_setBookmark 0 11 rfl) (by unfold in32; omega) ?_
  first | exact go_reti (at_of tL_setBookmark 0 12 rfl) rfl | exact go_reti (at_of tL_setBookmark 0 12 rfl) (le_i (by omega)) | exact go_reti (at_of tL_setBookmark 0 12 rfl) (le_i (by first | exact bI_t (by omega) | exact bI_f (by omega)))
theorem wt_setBookmark_1 {p1 p2 p3 : Int} (hc : Con 4 mX9_setBookmark 1 6 [vA 0, vI p1, vI p2, vI p3] σ (vT 21 0, σ)) : Con 5 mL_setBookmark 1 6 [vA 0, vI p1, vI p2, vI p3, vA 133] σ (vI 2, σ) := by
  refine con_of_go mfL_setBookmark.1 trivial (Nat.le_of_ble_eq_true rfl) rfl (by decide) ?_
  show Go _ _ _ _ 0 [vA _, vI _, vI _, vI _, vA _, vT 9 0] [] _ _
  refine go_aload (at_of tL_setBookmark 0 0 rfl) rfl ?_
  refine go_iconst (at_of tL_setBookmark 0 1 rfl) (by unfold in32; omega) ?_
  refine go_aload_n (at_of tL_setBookmark 0 2 rfl) rfl ?_
  refine go_iload_n (at_of tL_setBookmark 0 3 rfl) rfl ?_
  refine go_iload_n (at_of tL_setBookmark 0 4 rfl) rfl ?_
  refine go_iload_n (at_of tL_setBookmark 0 5 rfl) rfl ?_
  refine go_callC (i := 1) (h := 19) (k := 5) (Or.inl ⟨9, 0, [vI p1, vI p2, vI p3], rfl, rfl, G_0, lk_L_118, (at_of tL_setBookmark 0 6 rfl)⟩) hc rfl ⟨[(0, 12, 15, 13)], [], 0, 12, 15, rfl, by decide, by decide, by decide, cl_L_15, List.mem_of_getElem? (i := 2) rfl, List.forall_mem_cons.mpr ⟨⟨by decide, _, cl_L_13, List.mem_of_getElem? (i := 0) rfl⟩, fun _ z => absurd z List.not_mem_nil⟩⟩ (Or.inl ⟨rfl, (at_of tL_setBookmark 0 13 rfl)⟩) rfl rfl (by decide) rfl (Nat.le_of_ble_eq_true rfl) rfl ⟨by decide, by decide⟩ ?_
  refine go_iconst (at_of tL_setBookmark 0 14 rfl) (by unfold in32; omega) ?_
  first | exact go_reti (at_of tL_setBookmark 0 15 rfl) rfl | exact go_reti (at_of tL_setBookmark 0 15 rfl) (le_i (by omega)) | exact go_reti (at_of tL_setBookmark 0 15 rfl) (le_i (by first | exact bI_t (by omega) | exact bI_f (by omega)))
theorem wo_bookmarkFrom {p1 : Int} {v : Int} (hc : Con 3 mX9_bookmarkFrom 0 0 [vA 0, vI p1] σ (vI v, σ')) : Con 4 mL_bookmarkFrom 1 6 [vA 0, vI p1, vA 133] σ (vI 0, M1 σ' 133 0 v) := by
  refine con_of_go mfL_bookmarkFrom.1 trivial (Nat.le_of_ble_eq_true rfl) rfl (by decide) ?_
  show Go _ _ _ _ 0 [vA _, vI _, vA _, vT 9 0] [] _ _
  refine go_aload_n (at_of tL_bookmarkFrom 0 0 rfl) rfl ?_
  refine go_iconst (at_of tL_bookmarkFrom 0 1 rfl) (by unfold in32; omega) ?_
  refine go_aload_n (at_of tL_bookmarkFrom 0 2 rfl) rfl ?_
  refine go_iload_n (at_of tL_bookmarkFrom 0 3 rfl) rfl ?_
  refine go_cV (hc) lk_L_121 rfl G_0 (at_of tL_bookmarkFrom 0 4 rfl) rfl (by decide) rfl (Nat.le_of_ble_eq_true rfl) rfl (by first | decide | exact ⟨Nat.zero_le _, Nat.zero_le _⟩) ?_
  refine go_i2l (at_of tL_bookmarkFrom 0 5 rfl) ?_
  refine go_last1 G_133 (by omega) (by omega) (at_of tL_bookmarkFrom 0 6 rfl) ?_
  refine go_goto (tgt := 18) (at_of tL_bookmarkFrom 0 7 rfl) (by decide) ?_
  refine go_iconst (at_of tL_bookmarkFrom 0 14 rfl) (by unfold in32; omega) ?_
  first | exact go_reti (at_of tL_bookmarkFrom 0 15 rfl) rfl | exact go_reti (at_of tL_bookmarkFrom 0 15 rfl) (le_i (by omega)) | exact go_reti (at_of tL_bookmarkFrom 0 15 rfl) (le_i (by first | exact bI_t (by omega) | exact bI_f (by omega)))
theorem wt_bookmarkFrom_0 {p1 : Int} (hc : Con 3 mX9_bookmarkFrom 1 6 [vA 0, vI p1] σ (vT 20 0, σ)) : Con 4 mL_bookmarkFrom 1 6 [vA 0, vI p1, vA 133] σ (vI 1, σ) := by
  refine con_of_go mfL_bookmarkFrom.1 trivial (Nat.le_of_ble_eq_true rfl) rfl (by decide) ?_
  show Go _ _ _ _ 0 [vA _, vI _, vA _, vT 9 0] [] _ _
  refine go_aload_n (at_of tL_bookmarkFrom 0 0 rfl) rfl ?_
  refine go_iconst (at_of tL_bookmarkFrom 0 1 rfl) (by unfold in32; omega) ?_
  refine go_aload_n (at_of tL_bookmarkFrom 0 2 rfl) rfl ?_
  refine go_iload_n (at_of tL_bookmarkFrom 0 3 rfl) rfl ?_
  refine go_callC (i := 0) (h := 12) (k := 3) (Or.inl ⟨9, 0, [vI p1], rfl, rfl, G_0, lk_L_121, (at_of tL_bookmarkFrom 0 4 rfl)⟩) hc rfl ⟨[], [(0, 9, 15, 40)], 0, 9, 13, rfl, by decide, by decide, by decide, cl_L_13, List.mem_of_getElem? (i := 1) rfl, fun _ z => absurd z List.not_mem_nil⟩ (Or.inr ⟨rfl, 3, rfl, (at_of tL_bookmarkFrom 0 8 rfl)⟩) rfl rfl (by decide) rfl (Nat.le_of_ble_eq_true rfl) rfl ⟨by decide, by decide⟩ ?_
  refine go_iconst (at_of tL_bookmarkFrom 0 9 rfl) (by unfold in32; omega) ?_
  first | exact go_reti (at_of tL_bookmarkFrom 0 10 rfl) rfl | exact go_reti (at_of tL_bookmarkFrom 0 10 rfl) (le_i (by omega)) | exact go_reti (at_of tL_bookmarkFrom 0 10 rfl) (le_i (by first | exact bI_t (by omega) | exact bI_f (by omega)))
theorem wt_bookmarkFrom_4 {p1 : Int} (hc : Con 3 mX9_bookmarkFrom 1 6 [vA 0, vI p1] σ (vT 24 0, σ)) : Con 4 mL_bookmarkFrom 1 6 [vA 0, vI p1, vA 133] σ (vI 2, σ) := by
  refine con_of_go mfL_bookmarkFrom.1 trivial (Nat.le_of_ble_eq_true rfl) rfl (by decide) ?_
  show Go _ _ _ _ 0 [vA _, vI _, vA _, vT 9 0] [] _ _
  refine go_aload_n (at_of tL_bookmarkFrom 0 0 rfl) rfl ?_
  refine go_iconst (at_of tL_bookmarkFrom 0 1 rfl) (by unfold in32; omega) ?_
  refine go_aload_n (at_of tL_bookmarkFrom 0 2 rfl) rfl ?_
  refine go_iload_n (at_of tL_bookmarkFrom 0 3 rfl) rfl ?_
  refine go_callC (i := 4) (h := 15) (k := 3) (Or.inl ⟨9, 0, [vI p1], rfl, rfl, G_0, lk_L_121, (at_of tL_bookmarkFrom 0 4 rfl)⟩) hc rfl ⟨[(0, 9, 12, 13)], [], 0, 9, 40, rfl, by decide, by decide, by decide, cl_L_40, List.mem_of_getElem? (i := 5) rfl, List.forall_mem_cons.mpr ⟨⟨by decide, _, cl_L_13, List.mem_of_getElem? (i := 3) rfl⟩, fun _ z => absurd z List.not_mem_nil⟩⟩ (Or.inr ⟨rfl, 3, rfl, (at_of tL_bookmarkFrom 0 11 rfl)⟩) rfl rfl (by decide) rfl (Nat.le_of_ble_eq_true rfl) rfl ⟨by decide, by decide⟩ ?_
  refine go_iconst (at_of tL_bookmarkFrom 0 12 rfl) (by unfold in32; omega) ?_
  first | exact go_reti (at_of tL_bookmarkFrom 0 13 rfl) rfl | exact go_reti (at_of tL_bookmarkFrom 0 13 rfl) (le_i (by omega)) | exact go_reti (at_of tL_bookmarkFrom 0 13 rfl) (le_i (by first | exact bI_t (by omega) | exact bI_f (by omega)))
theorem wo_bookmarkTo {p1 : Int} {v : Int} (hc : Con 4 mX9_bookmarkTo 0 0 [vA 0, vI p1] σ (vI v, σ')) : Con 5 mL_bookmarkTo 1 6 [vA 0, vI p1, vA 133] σ (vI 0, M1 σ' 133 0 v) := by
  refine con_of_go mfL_bookmarkTo.1 trivial (Nat.le_of_ble_eq_true rfl) rfl (by decide) ?_
  show Go _ _ _ _ 0 [vA _, vI _, vA _, vT 9 0] [] _ _
  refine go_aload_n (at_of tL_bookmarkTo 0 0 rfl) rfl ?_
  refine go_iconst (at_of tL_bookmarkTo 0 1 rfl) (by unfold in32; omega) ?_
  refine go_aload_n (at_of tL_bookmarkTo 0 2 rfl) rfl ?_
  refine go_iload_n (at_of tL_bookmarkTo 0 3 rfl) rfl ?_
  refine go_cV (hc) lk_L_124 rfl G_0 (at_of tL_bookmarkTo 0 4 rfl) rfl (by decide) rfl (Nat.le_of_ble_eq_true rfl) rfl (by first | decide | exact ⟨Nat.zero_le _, Nat.zero_le _⟩) ?_
  refine go_i2l (at_of tL_bookmarkTo 0 5 rfl) ?_
  refine go_last1 G_133 (by omega) (by omega) (at_of tL_bookmarkTo 0 6 rfl) ?_
  refine go_goto (tgt := 18) (at_of tL_bookmarkTo 0 7 rfl) (by decide) ?_
  refine go_iconst (at_of tL_bookmarkTo 0 14 rfl) (by unfold in32; omega) ?_
  first | exact go_reti (at_of tL_bookmarkTo 0 15 rfl) rfl | exact go_reti (at_of tL_bookmarkTo 0 15 rfl) (le_i (by omega)) | exact go_reti (at_of tL_bookmarkTo 0 15 rfl) (le_i (by first | exact bI_t (by omega) | exact bI_f (by omega)))
theorem wt_bookmarkTo_0 {p1 : Int} (hc : Con 4 mX9_bookmarkTo 1 6 [vA 0, vI p1] σ (vT 20 0, σ)) : Con 5 mL_bookmarkTo 1 6 [vA 0, vI p1, vA 133] σ (vI 1, σ) := by
  refine con_of_go mfL_bookmarkTo.1 trivial (Nat.le_of_ble_eq_true rfl) rfl (by decide) ?_
  show Go _ _ _ _ 0 [vA _, vI _, vA _, vT 9 0] [] _ _
  refine go_aload_n (at_of tL_bookmarkTo 0 0 rfl) rfl ?_
  refine go_iconst (at_of tL_bookmarkTo 0 1 rfl) (by unfold in32; omega) ?_
  refine go_aload_n (at_of tL_bookmarkTo 0 2 rfl) rfl ?_
  refine go_iload_n (at_of tL_bookmarkTo 0 3 rfl) rfl ?_
  refine go_callC (i := 0) (h := 12) (k := 3) (Or.inl ⟨9, 0, [vI p1], rfl, rfl, G_0, lk_L_124, (at_of tL_bookmarkTo 0 4 rfl)⟩) hc rfl ⟨[], [(0, 9, 15, 40)], 0, 9, 13, rfl, by decide, by decide, by decide, cl_L_13, List.mem_of_getElem? (i := 1) rfl, fun _ z => absurd z List.not_mem_nil⟩ (Or.inr ⟨rfl, 3, rfl, (at_of tL_bookmarkTo 0 8 rfl)⟩) rfl rfl (by decide) rfl (Nat.le_of_ble_eq_true rfl) rfl ⟨by decide, by decide⟩ ?_
  refine go_iconst (at_of tL_bookmarkTo 0 9 rfl) (by unfold in32; omega) ?_
  first | exact go_reti (at_of tL_bookmarkTo 0 10 rfl) rfl | exact go_reti (at_of tL_bookmarkTo 0 10 rfl) (le_i (by omega)) | exact go_reti (at_of tL_bookmarkTo 0 10 rfl) (le_i (by first | exact bI_t (by omega) | exact bI_f (by omega)))
theorem wt_bookmarkTo_4 {p1 : Int} (hc : Con 4 mX9_bookmarkTo 1 6 [vA 0, vI p1] σ (vT 24 0, σ)) : Con 5 mL_bookmarkTo 1 6 [vA 0, vI p1, vA 133] σ (vI 2, σ) := by
  refine con_of_go mfL_bookmarkTo.1 trivial (Nat.le_of_ble_eq_true rfl) rfl (by decide) ?_
  show Go _ _ _ _ 0 [vA _, vI _, vA _, vT 9 0] [] _ _
  refine go_aload_n (at_of tL_bookmarkTo 0 0 rfl) rfl ?_
  refine go_iconst (at_of tL_bookmarkTo 0 1 rfl) (by unfold in32; omega) ?_
  refine go_aload_n (at_of tL_bookmarkTo 0 2 rfl) rfl ?_
  refine go_iload_n (at_of tL_bookmarkTo 0 3 rfl) rfl ?_
  refine go_callC (i := 4) (h := 15) (k := 3) (Or.inl ⟨9, 0, [vI p1], rfl, rfl, G_0, lk_L_124, (at_of tL_bookmarkTo 0 4 rfl)⟩) hc rfl ⟨[(0, 9, 12, 13)], [], 0, 9, 40, rfl, by decide, by decide, by decide, cl_L_40, List.mem_of_getElem? (i := 5) rfl, List.forall_mem_cons.mpr ⟨⟨by decide, _, cl_L_13, List.mem_of_getElem? (i := 3) rfl⟩, fun _ z => absurd z List.not_mem_nil⟩⟩ (Or.inr ⟨rfl, 3, rfl, (at_of tL_bookmarkTo 0 11 rfl)⟩) rfl rfl (by decide) rfl (Nat.le_of_ble_eq_true rfl) rfl ⟨by decide, by decide⟩ ?_
  refine go_iconst (at_of tL_bookmarkTo 0 12 rfl) (by unfold in32; omega) ?_
  first | exact go_reti (at_of tL_bookmarkTo 0 13 rfl) rfl | exact go_reti (at_of tL_bookmarkTo 0 13 rfl) (le_i (by omega)) | exact go_reti (at_of tL_bookmarkTo 0 13 rfl) (le_i (by first | exact bI_t (by omega) | exact bI_f (by omega)))
theorem wo_lock {p1 p2 : Int} {v : Int} (hv : v = 0 ∨ v = 1) (hc : Con 3 mX9_lock 0 0 [vA 0, vI p1, vI p2] σ (vI v, σ')) : Con 4 mL_lock 1 6 [vA 0, vI p1, vI p2, vA 133] σ (vI 0, M1 σ' 133 0 v) := by
  rcases hv with rfl | rfl
  · refine con_of_go mfL_lock.1 trivial (Nat.le_of_ble_eq_true rfl) rfl (by decide) ?_
    show Go _ _ _ _ 0 [vA _, vI _, vI _, vA _, vT 9 0] [] _ _
    refine go_aload_n (at_of tL_lock 0 0 rfl) rfl ?_
    refine go_iconst (at_of tL_lock 0 1 rfl) (by unfold in32; omega) ?_
    refine go_aload_n (at_of tL_lock 0 2 rfl) rfl ?_
    refine go_iload_n (at_of tL_lock 0 3 rfl) rfl ?_
    refine go_iload_n (at_of tL_lock 0 4 rfl) rfl ?_
    refine go_cV (hc) lk_L_127 rfl G_0 (at_of tL_lock 0 5 rfl) rfl (by decide) rfl (Nat.le_of_ble_eq_true rfl) rfl (by first | decide | exact ⟨Nat.zero_le _, Nat.zero_le _⟩) ?_
    refine go_if_eq (tgt := 15) (at_of tL_lock 0 6 rfl) (by decide) (fun h8 => ?_) (fun h8 => ?_)
    rotate_left
    · exfalso; omega
    refine go_lconst (at_of tL_lock 0 9 rfl) ?_
    refine go_last1 G_133 (by omega) (by omega) (at_of tL_lock 0 10 rfl) ?_
    refine go_goto (tgt := 24) (at_of tL_lock 0 11 rfl) (by decide) ?_
    refine go_iconst (at_of tL_lock 0 15 rfl) (by unfold in32; omega) ?_
    first | exact go_reti (at_of tL_lock 1 0 rfl) rfl | exact go_reti (at_of tL_lock 1 0 rfl) (le_i (by omega)) | exact go_reti (at_of tL_lock 1 0 rfl) (le_i (by first | exact bI_t (by omega) | exact bI_f (by omega)))
  · refine con_of_go mfL_lock.1 trivial (Nat.le_of_ble_eq_true rfl) rfl (by decide) ?_
    show Go _ _ _ _ 0 [vA _, vI _, vI _, vA _, vT 9 0] [] _ _
    refine go_aload_n (at_of tL_lock 0 0 rfl) rfl ?_
    refine go_iconst (at_of tL_lock 0 1 rfl) (by unfold in32; omega) ?_
    refine go_aload_n (at_of tL_lock 0 2 rfl) rfl ?_
    refine go_iload_n (at_of tL_lock 0 3 rfl) rfl ?_
    refine go_iload_n (at_of tL_lock 0 4 rfl) rfl ?_
    refine go_cV (hc) lk_L_127 rfl G_0 (at_of tL_lock 0 5 rfl) rfl (by decide) rfl (Nat.le_of_ble_eq_true rfl) rfl (by first | decide | exact ⟨Nat.zero_le _, Nat.zero_le _⟩) ?_
    refine go_if_eq (tgt := 15) (at_of tL_lock 0 6 rfl) (by decide) (fun h8 => ?_) (fun h8 => ?_)
    · exfalso; omega
    refine go_lconst (at_of tL_lock 0 7 rfl) ?_
    refine go_goto (tgt := 16) (at_of tL_lock 0 8 rfl) (by decide) ?_
    refine go_last1 G_133 (by omega) (by omega) (at_of tL_lock 0 10 rfl) ?_
    refine go_goto (tgt := 24) (at_of tL_lock 0 11 rfl) (by decide) ?_
    refine go_iconst (at_of tL_lock 0 15 rfl) (by unfold in32; omega) ?_
    first | exact go_reti (at_of tL_lock 1 0 rfl) rfl | exact go_reti (at_of tL_lock 1 0 rfl) (le_i (by omega)) | exact go_reti (at_of tL_lock 1 0 rfl) (le_i (by first | exact bI_t (by omega) | exact bI_f (by omega)))
theorem wt_lock_0 {p1 p2 : Int} (hc : Con 3 mX9_lock 1 6 [vA 0, vI p1, vI p2] σ (vT 20 0, σ)) : Con 4 mL_lock 1 6 [vA 0, vI p1, vI p2, vA 133] σ (vI 1, σ) := by
  refine con_of_go mfL_lock.1 trivial (Nat.le_of_ble_eq_true rfl) rfl (by decide) ?_
  show Go _ _ _ _ 0 [vA _, vI _, vI _, vA _, vT 9 0] [] _ _
  refine go_aload_n (at_of tL_lock 0 0 rfl) rfl ?_
  refine go_iconst (at_of tL_lock 0 1 rfl) (by unfold in32; omega) ?_
  refine go_aload_n (at_of tL_lock 0 2 rfl) rfl ?_
  refine go_iload_n (at_of tL_lock 0 3 rfl) rfl ?_
  refine go_iload_n (at_of tL_lock 0 4 rfl) rfl ?_
  refine go_callC (i := 0) (h := 20) (k := 4) (Or.inl ⟨9, 0, [vI p1, vI p2], rfl, rfl, G_0, lk_L_127, (at_of tL_lock 0 5 rfl)⟩) hc rfl ⟨[], [], 0, 17, 13, rfl, by decide, by decide, by decide, cl_L_13, List.mem_of_getElem? (i := 1) rfl, fun _ z => absurd z List.not_mem_nil⟩ (Or.inl ⟨rfl, (at_of tL_lock 0 12 rfl)⟩) rfl rfl (by decide) rfl (Nat.le_of_ble_eq_true rfl) rfl ⟨by decide, by decide⟩ ?_
  refine go_iconst (at_of tL_lock 0 13 rfl) (by unfold in32; omega) ?_
  first | exact go_reti (at_of tL_lock 0 14 rfl) rfl | exact go_reti (at_of tL_lock 0 14 rfl) (le_i (by omega)) | exact go_reti (at_of tL_lock 0 14 rfl) (le_i (by first | exact bI_t (by omega) | exact bI_f (by omega)))
theorem wo_result {p1 : Int} {v : Int} (hc : Con 3 mX9_result 0 0 [vA 0, vI p1] σ (vI v, σ')) : Con 4 mL_result 1 6 [vA 0, vI p1, vA 133] σ (vI 0, M1 σ' 133 0 v) := by
  refine con_of_go mfL_result.1 trivial (Nat.le_of_ble_eq_true rfl) rfl (by decide) ?_
  show Go _ _ _ _ 0 [vA _, vI _, vA _, vT 9 0] [] _ _
  refine go_aload_n (at_of tL_result 0 0 rfl) rfl ?_
  refine go_iconst (at_of tL_result 0 1 rfl) (by unfold in32; omega) ?_
  refine go_aload_n (at_of tL_result 0 2 rfl) rfl ?_
  refine go_iload_n (at_of tL_result 0 3 rfl) rfl ?_
  refine go_cV (hc) lk_L_130 rfl G_0 (at_of tL_result 0 4 rfl) rfl (by decide) rfl (Nat.le_of_ble_eq_true rfl) rfl (by first | decide | exact ⟨Nat.zero_le _, Nat.zero_le _⟩) ?_
  refine go_i2l (at_of tL_result 0 5 rfl) ?_
  refine go_last1 G_133 (by omega) (by omega) (at_of tL_result 0 6 rfl) ?_
  refine go_goto (tgt := 15) (at_of tL_result 0 7 rfl) (by decide) ?_
  refine go_iconst (at_of tL_result 0 11 rfl) (by unfold in32; omega) ?_
  first | exact go_reti (at_of tL_result 0 12 rfl) rfl | exact go_reti (at_of tL_result 0 12 rfl) (le_i (by omega)) | exact go_reti (at_of tL_result 0 12 rfl) (le_i (by first | exact bI_t (by omega) | exact bI_f (by omega)))
theorem wt_result_0 {p1 : Int} (hc : Con 3 mX9_result 1 6 [vA 0, vI p1] σ (vT 20 0, σ)) : Con 4 mL_result 1 6 [vA 0, vI p1, vA 133] σ (vI 1, σ) := by
  refine con_of_go mfL_result.1 trivial (Nat.le_of_ble_eq_true rfl) rfl (by decide) ?_
  show Go _ _ _ _ 0 [vA _, vI _, vA _, vT 9 0] [] _ _
  refine go_aload_n (at_of tL_result 0 0 rfl) rfl ?_
  refine go_iconst (at_of tL_result 0 1 rfl) (by unfold in32; omega) ?_
  refine go_aload_n (at_of tL_result 0 2 rfl) rfl ?_
  refine go_iload_n (at_of tL_result 0 3 rfl) rfl ?_
  refine go_callC (i := 0) (h := 12) (k := 3) (Or.inl ⟨9, 0, [vI p1], rfl, rfl, G_0, lk_L_130, (at_of tL_result 0 4 rfl)⟩) hc rfl ⟨[], [], 0, 9, 13, rfl, by decide, by decide, by decide, cl_L_13, List.mem_of_getElem? (i := 1) rfl, fun _ z => absurd z List.not_mem_nil⟩ (Or.inr ⟨rfl, 3, rfl, (at_of tL_result 0 8 rfl)⟩) rfl rfl (by decide) rfl (Nat.le_of_ble_eq_true rfl) rfl ⟨by decide, by decide⟩ ?_
  refine go_iconst (at_of tL_result 0 9 rfl) (by unfold in32; omega) ?_
  first | exact go_reti (at_of tL_result 0 10 rfl) rfl | exact go_reti (at_of tL_result 0 10 rfl) (le_i (by omega)) | exact go_reti (at_of tL_result 0 10 rfl) (le_i (by first | exact bI_t (by omega) | exact bI_f (by omega)))
theorem wo_setRecord {p1 p2 p3 : Int} {v : Int} (hc : Con 3 mX9_setRecord 0 0 [vA 0, vI p1, vI p2, vI p3] σ (vI v, σ')) : Con 4 mL_setRecord 1 6 [vA 0, vI p1, vI p2, vI p3, vA 133] σ (vI 0, M1 σ' 133 0 v) := by
  refine con_of_go mfL_setRecord.1 trivial (Nat.le_of_ble_eq_true rfl) rfl (by decide) ?_
  show Go _ _ _ _ 0 [vA _, vI _, vI _, vI _, vA _, vT 9 0] [] _ _
  refine go_aload (at_of tL_setRecord 0 0 rfl) rfl ?_
  refine go_iconst (at_of tL_setRecord 0 1 rfl) (by unfold in32; omega) ?_
  refine go_aload_n (at_of tL_setRecord 0 2 rfl) rfl ?_
  refine go_iload_n (at_of tL_setRecord 0 3 rfl) rfl ?_
  refine go_iload_n (at_of tL_setRecord 0 4 rfl) rfl ?_
  refine go_iload_n (at_of tL_setRecord 0 5 rfl) rfl ?_
  refine go_cV (hc) lk_L_133 rfl G_0 (at_of tL_setRecord 0 6 rfl) rfl (by decide) rfl (Nat.le_of_ble_eq_true rfl) rfl (by first | decide | exact ⟨Nat.zero_le _, Nat.zero_le _⟩) ?_
  refine go_i2l (at_of tL_setRecord 0 7 rfl) ?_
  refine go_last1 G_133 (by omega) (by omega) (at_of tL_setRecord 0 8 rfl) ?_
  refine go_goto (tgt := 19) (at_of tL_setRecord 0 9 rfl) (by decide) ?_
  refine go_iconst (at_of tL_setRecord 0 13 rfl) (by unfold in32; omega) ?_
  first | exact go_reti (at_of tL_setRecord 0 14 rfl) rfl | exact go_reti (at_of tL_setRecord 0 14 rfl) (le_i (by omega)) | exact go_reti (at_of tL_setRecord 0 14 rfl) (le_i (by first | exact bI_t (by omega) | exact bI_f (by omega)))
theorem wt_setRecord_1 {p1 p2 p3 : Int} (hc : Con 3 mX9_setRecord 1 6 [vA 0, vI p1, vI p2, vI p3] σ (vT 21 0, σ)) : Con 4 mL_setRecord 1 6 [vA 0, vI p1, vI p2, vI p3, vA 133] σ (vI 1, σ) := by
  refine con_of_go mfL_setRecord.1 trivial (Nat.le_of_ble_eq_true rfl) rfl (by decide) ?_
  show Go _ _ _ _ 0 [vA _, vI _, vI _, vI _, vA _, vT 9 0] [] _ _
  refine go_aload (at_of tL_setRecord 0 0 rfl) rfl ?_
  refine go_iconst (at_of tL_setRecord 0 1 rfl) (by unfold in32; omega) ?_
  refine go_aload_n (at_of tL_setRecord 0 2 rfl) rfl ?_
  refine go_iload_n (at_of tL_setRecord 0 3 rfl) rfl ?_
  refine go_iload_n (at_of tL_setRecord 0 4 rfl) rfl ?_
  refine go_iload_n (at_of tL_setRecord 0 5 rfl) rfl ?_
  refine go_callC (i := 1) (h := 15) (k := 5) (Or.inl ⟨9, 0, [vI p1, vI p2, vI p3], rfl, rfl, G_0, lk_L_133, (at_of tL_setRecord 0 6 rfl)⟩) hc rfl ⟨[], [], 0, 12, 15, rfl, by decide, by decide, by decide, cl_L_15, List.mem_of_getElem? (i := 2) rfl, fun _ z => absurd z List.not_mem_nil⟩ (Or.inl ⟨rfl, (at_of tL_setRecord 0 10 rfl)⟩) rfl rfl (by decide) rfl (Nat.le_of_ble_eq_true rfl) rfl ⟨by decide, by decide⟩ ?_
  refine go_iconst (at_of tL_setRecord 0 11 rfl) (by unfold in32; omega) ?_
  first | exact go_reti (at_of tL_setRecord 0 12 rfl) rfl | exact go_reti (at_of tL_setRecord 0 12 rfl) (le_i (by omega)) | exact go_reti (at_of tL_setRecord 0 12 rfl) (le_i (by first | exact bI_t (by omega) | exact bI_f (by omega)))
theorem wo_choose {p1 : Int} {v : Int} (hc : Con 1 mX9_choose 0 0 [vA 0, vI p1] σ (vI v, σ')) : Con 2 mL_choose 1 6 [vA 0, vI p1, vA 133] σ (vI 0, M1 σ' 133 0 v) := by
  refine con_of_go mfL_choose.1 trivial (Nat.le_of_ble_eq_true rfl) rfl (by decide) ?_
  show Go _ _ _ _ 0 [vA _, vI _, vA _, vT 9 0] [] _ _
  refine go_aload_n (at_of tL_choose 0 0 rfl) rfl ?_
  refine go_iconst (at_of tL_choose 0 1 rfl) (by unfold in32; omega) ?_
  refine go_aload_n (at_of tL_choose 0 2 rfl) rfl ?_
  refine go_iload_n (at_of tL_choose 0 3 rfl) rfl ?_
  refine go_cV (hc) lk_L_136 rfl G_0 (at_of tL_choose 0 4 rfl) rfl (by decide) rfl (Nat.le_of_ble_eq_true rfl) rfl (by first | decide | exact ⟨Nat.zero_le _, Nat.zero_le _⟩) ?_
  refine go_i2l (at_of tL_choose 0 5 rfl) ?_
  refine go_last1 G_133 (by omega) (by omega) (at_of tL_choose 0 6 rfl) ?_
  refine go_goto (tgt := 15) (at_of tL_choose 0 7 rfl) (by decide) ?_
  refine go_iconst (at_of tL_choose 0 11 rfl) (by unfold in32; omega) ?_
  first | exact go_reti (at_of tL_choose 0 12 rfl) rfl | exact go_reti (at_of tL_choose 0 12 rfl) (le_i (by omega)) | exact go_reti (at_of tL_choose 0 12 rfl) (le_i (by first | exact bI_t (by omega) | exact bI_f (by omega)))
theorem wt_choose_1 {p1 : Int} (hc : Con 1 mX9_choose 1 6 [vA 0, vI p1] σ (vT 21 0, σ)) : Con 2 mL_choose 1 6 [vA 0, vI p1, vA 133] σ (vI 1, σ) := by
  refine con_of_go mfL_choose.1 trivial (Nat.le_of_ble_eq_true rfl) rfl (by decide) ?_
  show Go _ _ _ _ 0 [vA _, vI _, vA _, vT 9 0] [] _ _
  refine go_aload_n (at_of tL_choose 0 0 rfl) rfl ?_
  refine go_iconst (at_of tL_choose 0 1 rfl) (by unfold in32; omega) ?_
  refine go_aload_n (at_of tL_choose 0 2 rfl) rfl ?_
  refine go_iload_n (at_of tL_choose 0 3 rfl) rfl ?_
  refine go_callC (i := 1) (h := 12) (k := 3) (Or.inl ⟨9, 0, [vI p1], rfl, rfl, G_0, lk_L_136, (at_of tL_choose 0 4 rfl)⟩) hc rfl ⟨[], [], 0, 9, 15, rfl, by decide, by decide, by decide, cl_L_15, List.mem_of_getElem? (i := 2) rfl, fun _ z => absurd z List.not_mem_nil⟩ (Or.inr ⟨rfl, 3, rfl, (at_of tL_choose 0 8 rfl)⟩) rfl rfl (by decide) rfl (Nat.le_of_ble_eq_true rfl) rfl ⟨by decide, by decide⟩ ?_
  refine go_iconst (at_of tL_choose 0 9 rfl) (by unfold in32; omega) ?_
  first | exact go_reti (at_of tL_choose 0 10 rfl) rfl | exact go_reti (at_of tL_choose 0 10 rfl) (le_i (by omega)) | exact go_reti (at_of tL_choose 0 10 rfl) (le_i (by first | exact bI_t (by omega) | exact bI_f (by omega)))
theorem wo_merge {p1 p2 : Int} {v : Int} (hc : Con 7 mX9_merge 0 0 [vA 0, vI p1, vI p2] σ (vI v, σ')) : Con 8 mL_merge 1 6 [vA 0, vI p1, vI p2, vA 133] σ (vI 0, M1 σ' 133 0 v) := by
  refine con_of_go mfL_merge.1 trivial (Nat.le_of_ble_eq_true rfl) rfl (by decide) ?_
  show Go _ _ _ _ 0 [vA _, vI _, vI _, vA _, vT 9 0] [] _ _
  refine go_aload_n (at_of tL_merge 0 0 rfl) rfl ?_
  refine go_iconst (at_of tL_merge 0 1 rfl) (by unfold in32; omega) ?_
  refine go_aload_n (at_of tL_merge 0 2 rfl) rfl ?_
  refine go_iload_n (at_of tL_merge 0 3 rfl) rfl ?_
  refine go_iload_n (at_of tL_merge 0 4 rfl) rfl ?_
  refine go_cV (hc) lk_L_139 rfl G_0 (at_of tL_merge 0 5 rfl) rfl (by decide) rfl (Nat.le_of_ble_eq_true rfl) rfl (by first | decide | exact ⟨Nat.zero_le _, Nat.zero_le _⟩) ?_
  refine go_i2l (at_of tL_merge 0 6 rfl) ?_
  refine go_last1 G_133 (by omega) (by omega) (at_of tL_merge 0 7 rfl) ?_
  refine go_goto (tgt := 17) (at_of tL_merge 0 8 rfl) (by decide) ?_
  refine go_iconst (at_of tL_merge 0 12 rfl) (by unfold in32; omega) ?_
  first | exact go_reti (at_of tL_merge 0 13 rfl) rfl | exact go_reti (at_of tL_merge 0 13 rfl) (le_i (by omega)) | exact go_reti (at_of tL_merge 0 13 rfl) (le_i (by first | exact bI_t (by omega) | exact bI_f (by omega)))
theorem wt_merge_1 {p1 p2 : Int} (hc : Con 7 mX9_merge 1 6 [vA 0, vI p1, vI p2] σ (vT 21 0, σ)) : Con 8 mL_merge 1 6 [vA 0, vI p1, vI p2, vA 133] σ (vI 1, σ) := by
  refine con_of_go mfL_merge.1 trivial (Nat.le_of_ble_eq_true rfl) rfl (by decide) ?_
  show Go _ _ _ _ 0 [vA _, vI _, vI _, vA _, vT 9 0] [] _ _
  refine go_aload_n (at_of tL_merge 0 0 rfl) rfl ?_
  refine go_iconst (at_of tL_merge 0 1 rfl) (by unfold in32; omega) ?_
  refine go_aload_n (at_of tL_merge 0 2 rfl) rfl ?_
  refine go_iload_n (at_of tL_merge 0 3 rfl) rfl ?_
  refine go_iload_n (at_of tL_merge 0 4 rfl) rfl ?_
  refine go_callC (i := 1) (h := 13) (k := 4) (Or.inl ⟨9, 0, [vI p1, vI p2], rfl, rfl, G_0, lk_L_139, (at_of tL_merge 0 5 rfl)⟩) hc rfl ⟨[], [], 0, 10, 15, rfl, by decide, by decide, by decide, cl_L_15, List.mem_of_getElem? (i := 2) rfl, fun _ z => absurd z List.not_mem_nil⟩ (Or.inl ⟨rfl, (at_of tL_merge 0 9 rfl)⟩) rfl rfl (by decide) rfl (Nat.le_of_ble_eq_true rfl) rfl ⟨by decide, by decide⟩ ?_
  refine go_iconst (at_of tL_merge 0 10 rfl) (by unfold in32; omega) ?_
  first | exact go_reti (at_of tL_merge 0 11 rfl) rfl | exact go_reti (at_of tL_merge 0 11 rfl) (le_i (by omega)) | exact go_reti (at_of tL_merge 0 11 rfl) (le_i (by first | exact bI_t (by omega) | exact bI_f (by omega)))
theorem wo_setPage {p1 p2 : Int} {v : Int} (hc : Con 1 mX9_setPage 0 0 [vA 0, vI p1, vI p2] σ (vI v, σ')) : Con 2 mL_setPage 1 6 [vA 0, vI p1, vI p2, vA 133] σ (vI 0, M1 σ' 133 0 v) := by
  refine con_of_go mfL_setPage.1 trivial (Nat.le_of_ble_eq_true rfl) rfl (by decide) ?_
  show Go _ _ _ _ 0 [vA _, vI _, vI _, vA _, vT 9 0] [] _ _
  refine go_aload_n (at_of tL_setPage 0 0 rfl) rfl ?_
  refine go_iconst (at_of tL_setPage 0 1 rfl) (by unfold in32; omega) ?_
  refine go_aload_n (at_of tL_setPage 0 2 rfl) rfl ?_
  refine go_iload_n (at_of tL_setPage 0 3 rfl) rfl ?_
  refine go_iload_n (at_of tL_setPage 0 4 rfl) rfl ?_
  refine go_cV (hc) lk_L_142 rfl G_0 (at_of tL_setPage 0 5 rfl) rfl (by decide) rfl (Nat.le_of_ble_eq_true rfl) rfl (by first | decide | exact ⟨Nat.zero_le _, Nat.zero_le _⟩) ?_
  refine go_i2l (at_of tL_setPage 0 6 rfl) ?_
  refine go_last1 G_133 (by omega) (by omega) (at_of tL_setPage 0 7 rfl) ?_
  refine go_goto (tgt := 17) (at_of tL_setPage 0 8 rfl) (by decide) ?_
  refine go_iconst (at_of tL_setPage 0 12 rfl) (by unfold in32; omega) ?_
  first | exact go_reti (at_of tL_setPage 0 13 rfl) rfl | exact go_reti (at_of tL_setPage 0 13 rfl) (le_i (by omega)) | exact go_reti (at_of tL_setPage 0 13 rfl) (le_i (by first | exact bI_t (by omega) | exact bI_f (by omega)))
theorem wt_setPage_1 {p1 p2 : Int} (hc : Con 1 mX9_setPage 1 6 [vA 0, vI p1, vI p2] σ (vT 21 0, σ)) : Con 2 mL_setPage 1 6 [vA 0, vI p1, vI p2, vA 133] σ (vI 1, σ) := by
  refine con_of_go mfL_setPage.1 trivial (Nat.le_of_ble_eq_true rfl) rfl (by decide) ?_
  show Go _ _ _ _ 0 [vA _, vI _, vI _, vA _, vT 9 0] [] _ _
  refine go_aload_n (at_of tL_setPage 0 0 rfl) rfl ?_
  refine go_iconst (at_of tL_setPage 0 1 rfl) (by unfold in32; omega) ?_
  refine go_aload_n (at_of tL_setPage 0 2 rfl) rfl ?_
  refine go_iload_n (at_of tL_setPage 0 3 rfl) rfl ?_
  refine go_iload_n (at_of tL_setPage 0 4 rfl) rfl ?_
  refine go_callC (i := 1) (h := 13) (k := 4) (Or.inl ⟨9, 0, [vI p1, vI p2], rfl, rfl, G_0, lk_L_142, (at_of tL_setPage 0 5 rfl)⟩) hc rfl ⟨[], [], 0, 10, 15, rfl, by decide, by decide, by decide, cl_L_15, List.mem_of_getElem? (i := 2) rfl, fun _ z => absurd z List.not_mem_nil⟩ (Or.inl ⟨rfl, (at_of tL_setPage 0 9 rfl)⟩) rfl rfl (by decide) rfl (Nat.le_of_ble_eq_true rfl) rfl ⟨by decide, by decide⟩ ?_
  refine go_iconst (at_of tL_setPage 0 10 rfl) (by unfold in32; omega) ?_
  first | exact go_reti (at_of tL_setPage 0 11 rfl) rfl | exact go_reti (at_of tL_setPage 0 11 rfl) (le_i (by omega)) | exact go_reti (at_of tL_setPage 0 11 rfl) (le_i (by first | exact bI_t (by omega) | exact bI_f (by omega)))
theorem wo_pageOf {p1 : Int} {v : Int} (hc : Con 6 mX9_pageOf 0 0 [vA 0, vI p1] σ (vI v, σ')) : Con 7 mL_pageOf 1 6 [vA 0, vI p1, vA 133] σ (vI 0, M1 σ' 133 0 v) := by
  refine con_of_go mfL_pageOf.1 trivial (Nat.le_of_ble_eq_true rfl) rfl (by decide) ?_
  show Go _ _ _ _ 0 [vA _, vI _, vA _, vT 9 0] [] _ _
  refine go_aload_n (at_of tL_pageOf 0 0 rfl) rfl ?_
  refine go_iconst (at_of tL_pageOf 0 1 rfl) (by unfold in32; omega) ?_
  refine go_aload_n (at_of tL_pageOf 0 2 rfl) rfl ?_
  refine go_iload_n (at_of tL_pageOf 0 3 rfl) rfl ?_
  refine go_cV (hc) lk_L_145 rfl G_0 (at_of tL_pageOf 0 4 rfl) rfl (by decide) rfl (Nat.le_of_ble_eq_true rfl) rfl (by first | decide | exact ⟨Nat.zero_le _, Nat.zero_le _⟩) ?_
  refine go_i2l (at_of tL_pageOf 0 5 rfl) ?_
  refine go_last1 G_133 (by omega) (by omega) (at_of tL_pageOf 0 6 rfl) ?_
  refine go_goto (tgt := 15) (at_of tL_pageOf 0 7 rfl) (by decide) ?_
  refine go_iconst (at_of tL_pageOf 0 11 rfl) (by unfold in32; omega) ?_
  first | exact go_reti (at_of tL_pageOf 0 12 rfl) rfl | exact go_reti (at_of tL_pageOf 0 12 rfl) (le_i (by omega)) | exact go_reti (at_of tL_pageOf 0 12 rfl) (le_i (by first | exact bI_t (by omega) | exact bI_f (by omega)))
theorem wt_pageOf_0 {p1 : Int} (hc : Con 6 mX9_pageOf 1 6 [vA 0, vI p1] σ (vT 20 0, σ)) : Con 7 mL_pageOf 1 6 [vA 0, vI p1, vA 133] σ (vI 1, σ) := by
  refine con_of_go mfL_pageOf.1 trivial (Nat.le_of_ble_eq_true rfl) rfl (by decide) ?_
  show Go _ _ _ _ 0 [vA _, vI _, vA _, vT 9 0] [] _ _
  refine go_aload_n (at_of tL_pageOf 0 0 rfl) rfl ?_
  refine go_iconst (at_of tL_pageOf 0 1 rfl) (by unfold in32; omega) ?_
  refine go_aload_n (at_of tL_pageOf 0 2 rfl) rfl ?_
  refine go_iload_n (at_of tL_pageOf 0 3 rfl) rfl ?_
  refine go_callC (i := 0) (h := 12) (k := 3) (Or.inl ⟨9, 0, [vI p1], rfl, rfl, G_0, lk_L_145, (at_of tL_pageOf 0 4 rfl)⟩) hc rfl ⟨[], [], 0, 9, 13, rfl, by decide, by decide, by decide, cl_L_13, List.mem_of_getElem? (i := 1) rfl, fun _ z => absurd z List.not_mem_nil⟩ (Or.inr ⟨rfl, 3, rfl, (at_of tL_pageOf 0 8 rfl)⟩) rfl rfl (by decide) rfl (Nat.le_of_ble_eq_true rfl) rfl ⟨by decide, by decide⟩ ?_
  refine go_iconst (at_of tL_pageOf 0 9 rfl) (by unfold in32; omega) ?_
  first | exact go_reti (at_of tL_pageOf 0 10 rfl) rfl | exact go_reti (at_of tL_pageOf 0 10 rfl) (le_i (by omega)) | exact go_reti (at_of tL_pageOf 0 10 rfl) (le_i (by first | exact bI_t (by omega) | exact bI_f (by omega)))
theorem wo_lineOf {p1 : Int} {v : Int} (hc : Con 6 mX9_lineOf 0 0 [vA 0, vI p1] σ (vI v, σ')) : Con 7 mL_lineOf 1 6 [vA 0, vI p1, vA 133] σ (vI 0, M1 σ' 133 0 v) := by
  refine con_of_go mfL_lineOf.1 trivial (Nat.le_of_ble_eq_true rfl) rfl (by decide) ?_
  show Go _ _ _ _ 0 [vA _, vI _, vA _, vT 9 0] [] _ _
  refine go_aload_n (at_of tL_lineOf 0 0 rfl) rfl ?_
  refine go_iconst (at_of tL_lineOf 0 1 rfl) (by unfold in32; omega) ?_
  refine go_aload_n (at_of tL_lineOf 0 2 rfl) rfl ?_
  refine go_iload_n (at_of tL_lineOf 0 3 rfl) rfl ?_
  refine go_cV (hc) lk_L_148 rfl G_0 (at_of tL_lineOf 0 4 rfl) rfl (by decide) rfl (Nat.le_of_ble_eq_true rfl) rfl (by first | decide | exact ⟨Nat.zero_le _, Nat.zero_le _⟩) ?_
  refine go_i2l (at_of tL_lineOf 0 5 rfl) ?_
  refine go_last1 G_133 (by omega) (by omega) (at_of tL_lineOf 0 6 rfl) ?_
  refine go_goto (tgt := 15) (at_of tL_lineOf 0 7 rfl) (by decide) ?_
  refine go_iconst (at_of tL_lineOf 0 11 rfl) (by unfold in32; omega) ?_
  first | exact go_reti (at_of tL_lineOf 0 12 rfl) rfl | exact go_reti (at_of tL_lineOf 0 12 rfl) (le_i (by omega)) | exact go_reti (at_of tL_lineOf 0 12 rfl) (le_i (by first | exact bI_t (by omega) | exact bI_f (by omega)))
theorem wt_lineOf_0 {p1 : Int} (hc : Con 6 mX9_lineOf 1 6 [vA 0, vI p1] σ (vT 20 0, σ)) : Con 7 mL_lineOf 1 6 [vA 0, vI p1, vA 133] σ (vI 1, σ) := by
  refine con_of_go mfL_lineOf.1 trivial (Nat.le_of_ble_eq_true rfl) rfl (by decide) ?_
  show Go _ _ _ _ 0 [vA _, vI _, vA _, vT 9 0] [] _ _
  refine go_aload_n (at_of tL_lineOf 0 0 rfl) rfl ?_
  refine go_iconst (at_of tL_lineOf 0 1 rfl) (by unfold in32; omega) ?_
  refine go_aload_n (at_of tL_lineOf 0 2 rfl) rfl ?_
  refine go_iload_n (at_of tL_lineOf 0 3 rfl) rfl ?_
  refine go_callC (i := 0) (h := 12) (k := 3) (Or.inl ⟨9, 0, [vI p1], rfl, rfl, G_0, lk_L_148, (at_of tL_lineOf 0 4 rfl)⟩) hc rfl ⟨[], [], 0, 9, 13, rfl, by decide, by decide, by decide, cl_L_13, List.mem_of_getElem? (i := 1) rfl, fun _ z => absurd z List.not_mem_nil⟩ (Or.inr ⟨rfl, 3, rfl, (at_of tL_lineOf 0 8 rfl)⟩) rfl rfl (by decide) rfl (Nat.le_of_ble_eq_true rfl) rfl ⟨by decide, by decide⟩ ?_
  refine go_iconst (at_of tL_lineOf 0 9 rfl) (by unfold in32; omega) ?_
  first | exact go_reti (at_of tL_lineOf 0 10 rfl) rfl | exact go_reti (at_of tL_lineOf 0 10 rfl) (le_i (by omega)) | exact go_reti (at_of tL_lineOf 0 10 rfl) (le_i (by first | exact bI_t (by omega) | exact bI_f (by omega)))
theorem wo_waitingShare {x : UInt32} (hx : nn64 (FP.f2d x) = true) (hc : Con 2 mX9_waitingShare 0 0 [vA 0] σ (vF x, σ')) : Con 3 mL_waitingShare 1 6 [vA 0, vA 134] σ (vI 0, M1 σ' 134 0 ((FP.f2d x).toNat : Int)) := by
  refine con_of_go mfL_waitingShare.1 trivial (Nat.le_of_ble_eq_true rfl) rfl (by decide) ?_
  show Go _ _ _ _ 0 [vA _, vA _, vT 9 0] [] _ _
  refine go_aload_n (at_of tL_waitingShare 0 0 rfl) rfl ?_
  refine go_iconst (at_of tL_waitingShare 0 1 rfl) (by unfold in32; omega) ?_
  refine go_aload_n (at_of tL_waitingShare 0 2 rfl) rfl ?_
  refine go_cV (hc) lk_L_151 rfl G_0 (at_of tL_waitingShare 0 3 rfl) rfl (by decide) rfl (Nat.le_of_ble_eq_true rfl) rfl (by first | decide | exact ⟨Nat.zero_le _, Nat.zero_le _⟩) ?_
  refine go_f2d (at_of tL_waitingShare 0 4 rfl) (nn64_of hx) ?_
  refine go_dast1 G_134 (by omega) (by omega) (at_of tL_waitingShare 0 5 rfl) ?_
  refine go_goto (tgt := 14) (at_of tL_waitingShare 0 6 rfl) (by decide) ?_
  refine go_iconst (at_of tL_waitingShare 0 10 rfl) (by unfold in32; omega) ?_
  first | exact go_reti (at_of tL_waitingShare 0 11 rfl) rfl | exact go_reti (at_of tL_waitingShare 0 11 rfl) (le_i (by omega)) | exact go_reti (at_of tL_waitingShare 0 11 rfl) (le_i (by first | exact bI_t (by omega) | exact bI_f (by omega)))
theorem wt_waitingShare_5 (hc : Con 2 mX9_waitingShare 1 6 [vA 0] σ (vT 25 0, σ)) : Con 3 mL_waitingShare 1 6 [vA 0, vA 134] σ (vI 1, σ) := by
  refine con_of_go mfL_waitingShare.1 trivial (Nat.le_of_ble_eq_true rfl) rfl (by decide) ?_
  show Go _ _ _ _ 0 [vA _, vA _, vT 9 0] [] _ _
  refine go_aload_n (at_of tL_waitingShare 0 0 rfl) rfl ?_
  refine go_iconst (at_of tL_waitingShare 0 1 rfl) (by unfold in32; omega) ?_
  refine go_aload_n (at_of tL_waitingShare 0 2 rfl) rfl ?_
  refine go_callC (i := 5) (h := 11) (k := 2) (Or.inl ⟨9, 0, [], rfl, rfl, G_0, lk_L_151, (at_of tL_waitingShare 0 3 rfl)⟩) hc rfl ⟨[], [], 0, 8, 155, rfl, by decide, by decide, by decide, cl_L_155, List.mem_of_getElem? (i := 6) rfl, fun _ z => absurd z List.not_mem_nil⟩ (Or.inr ⟨rfl, 2, rfl, (at_of tL_waitingShare 0 7 rfl)⟩) rfl rfl (by decide) rfl (Nat.le_of_ble_eq_true rfl) rfl ⟨by decide, by decide⟩ ?_
  refine go_iconst (at_of tL_waitingShare 0 8 rfl) (by unfold in32; omega) ?_
  first | exact go_reti (at_of tL_waitingShare 0 9 rfl) rfl | exact go_reti (at_of tL_waitingShare 0 9 rfl) (le_i (by omega)) | exact go_reti (at_of tL_waitingShare 0 9 rfl) (le_i (by first | exact bI_t (by omega) | exact bI_f (by omega)))
theorem wo_shareBits {v : Int} (hc : Con 3 mX9_shareBits 0 0 [vA 0] σ (vI v, σ')) : Con 4 mL_shareBits 1 6 [vA 0, vA 133] σ (vI 0, M1 σ' 133 0 v) := by
  refine con_of_go mfL_shareBits.1 trivial (Nat.le_of_ble_eq_true rfl) rfl (by decide) ?_
  show Go _ _ _ _ 0 [vA _, vA _, vT 9 0] [] _ _
  refine go_aload_n (at_of tL_shareBits 0 0 rfl) rfl ?_
  refine go_iconst (at_of tL_shareBits 0 1 rfl) (by unfold in32; omega) ?_
  refine go_aload_n (at_of tL_shareBits 0 2 rfl) rfl ?_
  refine go_cV (hc) lk_L_157 rfl G_0 (at_of tL_shareBits 0 3 rfl) rfl (by decide) rfl (Nat.le_of_ble_eq_true rfl) rfl (by first | decide | exact ⟨Nat.zero_le _, Nat.zero_le _⟩) ?_
  refine go_i2l (at_of tL_shareBits 0 4 rfl) ?_
  refine go_last1 G_133 (by omega) (by omega) (at_of tL_shareBits 0 5 rfl) ?_
  refine go_goto (tgt := 14) (at_of tL_shareBits 0 6 rfl) (by decide) ?_
  refine go_iconst (at_of tL_shareBits 0 10 rfl) (by unfold in32; omega) ?_
  first | exact go_reti (at_of tL_shareBits 0 11 rfl) rfl | exact go_reti (at_of tL_shareBits 0 11 rfl) (le_i (by omega)) | exact go_reti (at_of tL_shareBits 0 11 rfl) (le_i (by first | exact bI_t (by omega) | exact bI_f (by omega)))
theorem wt_shareBits_5 (hc : Con 3 mX9_shareBits 1 6 [vA 0] σ (vT 25 0, σ)) : Con 4 mL_shareBits 1 6 [vA 0, vA 133] σ (vI 1, σ) := by
  refine con_of_go mfL_shareBits.1 trivial (Nat.le_of_ble_eq_true rfl) rfl (by decide) ?_
  show Go _ _ _ _ 0 [vA _, vA _, vT 9 0] [] _ _
  refine go_aload_n (at_of tL_shareBits 0 0 rfl) rfl ?_
  refine go_iconst (at_of tL_shareBits 0 1 rfl) (by unfold in32; omega) ?_
  refine go_aload_n (at_of tL_shareBits 0 2 rfl) rfl ?_
  refine go_callC (i := 5) (h := 11) (k := 2) (Or.inl ⟨9, 0, [], rfl, rfl, G_0, lk_L_157, (at_of tL_shareBits 0 3 rfl)⟩) hc rfl ⟨[], [], 0, 8, 155, rfl, by decide, by decide, by decide, cl_L_155, List.mem_of_getElem? (i := 6) rfl, fun _ z => absurd z List.not_mem_nil⟩ (Or.inr ⟨rfl, 2, rfl, (at_of tL_shareBits 0 7 rfl)⟩) rfl rfl (by decide) rfl (Nat.le_of_ble_eq_true rfl) rfl ⟨by decide, by decide⟩ ?_
  refine go_iconst (at_of tL_shareBits 0 8 rfl) (by unfold in32; omega) ?_
  first | exact go_reti (at_of tL_shareBits 0 9 rfl) rfl | exact go_reti (at_of tL_shareBits 0 9 rfl) (le_i (by omega)) | exact go_reti (at_of tL_shareBits 0 9 rfl) (le_i (by first | exact bI_t (by omega) | exact bI_f (by omega)))
end Wrap
