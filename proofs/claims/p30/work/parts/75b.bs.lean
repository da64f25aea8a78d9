/-! 75b.bs: the basins are those of the ground -/
def BS (A : Ab) : Prop := bnn A = npt A ∧ (∀ c, 0 ≤ c → c < nn A → bas A c = bsn A c) ∧ pits A = pts A
theorem GE.ipt {A B : Ab} (h : GE A B) : ipt A = ipt B := by
  funext c; unfold _root_.Jvm.Pilot.CLakeLevelsLaw_law_r3285_cc1abe.ipt; rw [h.tg, h.pl, h.2.2.2.2.2]
theorem GE.ldr {A B : Ab} (h : GE A B) : ldr A = ldr B := by
  funext c; unfold _root_.Jvm.Pilot.CLakeLevelsLaw_law_r3285_cc1abe.ldr; rw [h.ipt, h.pl]
theorem GE.ldn {A B : Ab} (h : GE A B) : ldn A = ldn B := by
  funext n; unfold _root_.Jvm.Pilot.CLakeLevelsLaw_law_r3285_cc1abe.ldn; rw [h.ldr]
theorem GE.npt {A B : Ab} (h : GE A B) : npt A = npt B := by
  unfold _root_.Jvm.Pilot.CLakeLevelsLaw_law_r3285_cc1abe.npt; rw [h.ldn, h.nn]
theorem GE.bsn {A B : Ab} (h : GE A B) : bsn A = bsn B := by
  funext c; unfold _root_.Jvm.Pilot.CLakeLevelsLaw_law_r3285_cc1abe.bsn; rw [h.fin, h.ldn, h.pl, h.ipt]
theorem GE.pts {A B : Ab} (h : GE A B) : pts A = pts B := by
  unfold _root_.Jvm.Pilot.CLakeLevelsLaw_law_r3285_cc1abe.pts; rw [h.nn, h.ipt]
theorem BS_ge {A B : Ab} (ge : GE A B) (h1 : bnn B = bnn A) (h2 : bas B = bas A) (h3 : pits B = pits A) (h : BS A) : BS B := by
  obtain ⟨a, b, c⟩ := h
  refine ⟨by rw [h1, a, ge.npt], fun x x0 x1 => ?_, by rw [h3, c, ge.pts]⟩
  rw [h2, b x x0 (by rw [ge.nn]; exact x1), ge.bsn]
theorem BS_KP {A B : Ab} (h : KP A B) : BS A → BS B := BS_ge h.1 h.2.1 h.2.2.1 h.2.2.2.1
theorem BS_fnd {A : Ab} : BS (fnd A) := by
  have ge := fnd_ge A
  refine ⟨by rw [fnd_bnn, ge.npt], fun c c0 c1 => ?_, by rw [fnd_pits, ge.pts]⟩
  rw [fnd_bas A c0 (by rw [ge.nn]; exact c1), ge.bsn]
theorem BS_pG {A : Ab} (g : Int64) (h : BS A) : BS (pG A g) := BS_ge (pG_ge A g) (by simp [pG, aL, bnn]) (by simp [pG, aL, bas]) (by simp [pG, aL, pits]) h
theorem BS_dG {A : Ab} (g : Int64) (h : BS A) : BS (dG A g) := BS_ge (dG_ge A g) (by simp [dG, aL, bnn]) (by simp [dG, aL, bas]) (by simp [dG, aL, pits]) h
def WB (A : Ab) : Prop := wat A ≤ 1000000 ∧ BS A
