def inT (w : Cond) : Bool := goodWord w && (decide (w ∈ tables_1_3) || (decide (w ∈ tables_1_4) || (decide (w ∈ tables_1_1) || (decide (w ∈ tables_1_2) || (decide (w ∈ tables_1_5) || (decide (w ∈ tables_1_6) || decide (w ∈ tables_1_7)))))))
theorem inT_ok {w : Cond} (h : inT w = true) : w ∈ TBL := by
  simp only [inT, Bool.and_eq_true, Bool.or_eq_true, decide_eq_true_eq] at h
  obtain ⟨hg, h⟩ := h
  rcases h with h | h | h | h | h | h | h
  · exact tb_z (tz_3 h) hg
  · exact tb_z (tz_4 h) hg
  · exact tb_z (tz_1 h) hg
  · exact tb_z (tz_2 h) hg
  · exact tb_z (tz_5 h) hg
  · exact tb_z (tz_6 h) hg
  · exact tb_z (tz_7 h) hg
theorem hat_of {l : List Cond} (h : l.all (fun w => inT w || decide (w ∈ CSTW)) = true) : ∀ w ∈ l, w ∈ TBL ∨ w ∈ CSTW := by
  intro w hw
  have := List.all_eq_true.mp h w hw
  simp only [Bool.or_eq_true, decide_eq_true_eq] at this
  exact this.imp inT_ok id
theorem hat1 : ∀ w ∈ vx_atS RX7 250 (exn 1) NMS, w ∈ TBL ∨ w ∈ CSTW := hat_of (by decide +kernel)
theorem hgd1 : ∀ w ∈ Cond.classLink RX7 246 (exn 1) :: Cond.initialized (exn 1) :: vx_atS RX7 250 (exn 1) NMS, vx_ot w = true := by
  have h : (Cond.classLink RX7 246 (exn 1) :: Cond.initialized (exn 1) :: vx_atS RX7 250 (exn 1) NMS).all vx_ot = true := by decide +kernel
  exact List.all_eq_true.mp h
theorem hcl1 : Cond.classLink RX7 246 (exn 1) ∈ TBL ∧ Cond.initialized (exn 1) ∈ TBL := by
  have h : [Cond.classLink RX7 246 (exn 1), Cond.initialized (exn 1)].all inT = true := by decide +kernel
  exact ⟨inT_ok (List.all_eq_true.mp h _ (by simp)), inT_ok (List.all_eq_true.mp h _ (by simp))⟩
theorem hat2 : ∀ w ∈ vx_atS RX7 265 (exn 2) NMS, w ∈ TBL ∨ w ∈ CSTW := hat_of (by decide +kernel)
theorem hgd2 : ∀ w ∈ Cond.classLink RX7 261 (exn 2) :: Cond.initialized (exn 2) :: vx_atS RX7 265 (exn 2) NMS, vx_ot w = true := by
  have h : (Cond.classLink RX7 261 (exn 2) :: Cond.initialized (exn 2) :: vx_atS RX7 265 (exn 2) NMS).all vx_ot = true := by decide +kernel
  exact List.all_eq_true.mp h
theorem hcl2 : Cond.classLink RX7 261 (exn 2) ∈ TBL ∧ Cond.initialized (exn 2) ∈ TBL := by
  have h : [Cond.classLink RX7 261 (exn 2), Cond.initialized (exn 2)].all inT = true := by decide +kernel
  exact ⟨inT_ok (List.all_eq_true.mp h _ (by simp)), inT_ok (List.all_eq_true.mp h _ (by simp))⟩
theorem hat3 : ∀ w ∈ vx_atS RX7 204 (exn 3) NMS, w ∈ TBL ∨ w ∈ CSTW := hat_of (by decide +kernel)
theorem hgd3 : ∀ w ∈ Cond.classLink RX7 200 (exn 3) :: Cond.initialized (exn 3) :: vx_atS RX7 204 (exn 3) NMS, vx_ot w = true := by
  have h : (Cond.classLink RX7 200 (exn 3) :: Cond.initialized (exn 3) :: vx_atS RX7 204 (exn 3) NMS).all vx_ot = true := by decide +kernel
  exact List.all_eq_true.mp h
theorem hcl3 : Cond.classLink RX7 200 (exn 3) ∈ TBL ∧ Cond.initialized (exn 3) ∈ TBL := by
  have h : [Cond.classLink RX7 200 (exn 3), Cond.initialized (exn 3)].all inT = true := by decide +kernel
  exact ⟨inT_ok (List.all_eq_true.mp h _ (by simp)), inT_ok (List.all_eq_true.mp h _ (by simp))⟩
