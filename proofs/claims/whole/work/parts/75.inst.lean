/-! THE TEXT: what an item keeps; the whole text; the reference's institute -/
theorem wf_n2 {D : Nat} {σ : zS} (hw : wf D σ) {v : Nat} (hv : v ≤ 8) : wf D (s2 σ 8 2 (nI v)) ∧ nn (s2 σ 8 2 (nI v)) = v ∧ nc (s2 σ 8 2 (nI v)) = nc σ := by
  obtain ⟨h1, h2, h3, h4, h5⟩ := hw
  have e : nn (s2 σ 8 2 (nI v)) = v := by unfold nn; rw [s2_at]; exact nI_clamp (by omega)
  refine ⟨⟨fun i hi => ?_, h2, h3, ⟨by rw [e, s2_at], by rw [e]; exact hv⟩, h5⟩, e, rfl⟩
  rw [wfi_iff]
  intro f hf
  rw [s2_o σ (Or.inl (by omega))]
  exact (wfi_iff σ i).mp (h1 i hi) f hf
theorem wf_n3 {D : Nat} {σ : zS} (hw : wf D σ) {v : Nat} (hv : v ≤ 8) : wf D (s2 σ 8 3 (nI v)) ∧ nc (s2 σ 8 3 (nI v)) = v ∧ nn (s2 σ 8 3 (nI v)) = nn σ := by
  obtain ⟨h1, h2, h3, h4, h5⟩ := hw
  have e : nc (s2 σ 8 3 (nI v)) = v := by unfold nc; rw [s2_at]; exact nI_clamp (by omega)
  refine ⟨⟨fun i hi => ?_, h2, h3, h4, ⟨by rw [e, s2_at], by rw [e]; exact hv⟩⟩, e, rfl⟩
  rw [wfi_iff]
  intro f hf
  rw [s2_o σ (Or.inl (by omega))]
  exact (wfi_iff σ i).mp (h1 i hi) f hf
theorem addI_wf {D : Nat} {σ : zS} (hw : wf D σ) (h8 : nn σ < 8) {kd : Int32} (hk : 0 ≤ kd.toInt ∧ kd.toInt ≤ 5) : wf D (addI σ kd) := by
  unfold addI
  refine wf_s2 (wf_s2 (wf_s2 (wf_s2 (wf_s2 (wf_n2 hw (by omega)).1 (by decide) ?_) (by decide) ?_) (by decide) ?_) (by decide) ?_) (by decide) ?_
  · exact hk
  · simp only [bnd]; decide
  · simp only [bnd]; decide
  · simp only [bnd]; decide
  · simp only [bnd]; decide
theorem addC_wf {D : Nat} {σ : zS} (hw : wf D σ) (h8 : nc σ < 8) {ld : Int32} (hk : 0 ≤ ld.toInt ∧ ld.toInt ≤ 9) : wf D (addC σ ld) := by
  unfold addC
  refine wf_s2 (wf_s2 (wf_s2 (wf_n3 hw (by omega)).1 (by decide) ?_) (by decide) ?_) (by decide) ?_
  · exact hk
  · simp only [bnd]; decide
  · simp only [bnd]; decide
theorem ft {P : Prop} (h : false = true) : P := absurd h (by decide)
/-- what reading keeps: the token in hand goes on, and the institute stays one -/
def pOk (D tl s : Nat) (r : zPr) : Prop := (s ≤ r.2.2 ∧ r.2.2 ≤ tl) ∧ (r.1 = true → s < r.2.2 ∧ wf D r.2.1)
theorem p_sat_ok {tp : Nat → Int32} {D tl s0 : Nat} {σ : zS} {n s : Nat} (hw : wf D σ) (h0 : s0 < s) (hs : s ≤ tl) : pOk D tl s0 (p_sat tp tl σ n s) := by
  have r1 := nx_rng (tp := tp) hs
  unfold p_sat
  by_cases h : isw tp tl s (zm_tx.getD 10 [])
  · rw [cif_t h]
    exact ⟨⟨by show s0 ≤ nx tp tl s; omega, r1.2.1⟩, fun _ => ⟨by show s0 < nx tp tl s; omega, wf_s2 hw (by decide) (by simp only [bnd]; decide)⟩⟩
  · rw [cif_f h]
    exact ⟨⟨by show s0 ≤ s; omega, hs⟩, fun _ => ⟨h0, hw⟩⟩
theorem pOk_f {D tl s s' : Nat} {σ : zS} (h1 : s ≤ s') (h2 : s' ≤ tl) : pOk D tl s (false, σ, s') := ⟨⟨h1, h2⟩, fun z => ft z⟩
theorem p_inl_ok {tp : Nat → Int32} {D tl : Nat} {σ : zS} {kd : Int32} {s : Nat} (hw : wf D σ) (hk : 0 ≤ kd.toInt ∧ kd.toInt ≤ 5) (hs : s < tl) : pOk D tl s (p_inl tp tl σ kd s) := by
  have h8 := hw.2.2.2.1.2
  have r1 := nx_rng (tp := tp) (Nat.le_of_lt hs)
  have r1' := r1.2.2 hs
  have r2 := nx_rng (tp := tp) r1.2.1
  have r3 := nx_rng (tp := tp) r2.2.1
  unfold p_inl
  by_cases h : nn σ = 8
  · rw [if_pos h]
    exact pOk_f (Nat.le_refl _) (Nat.le_of_lt hs)
  · rw [if_neg h]
    have hw1 := addI_wf hw (kd := kd) (by omega) hk
    by_cases h1 : isw tp tl (nx tp tl s) (zm_tx.getD 9 [])
    · rw [cif_t h1]
      by_cases h2 : isn tp tl (nx tp tl (nx tp tl s)) 99
      · rw [cif_t h2]
        have hn := num_rng h2
        refine p_sat_ok (wf_s2 hw1 (by decide) ?_) (by omega) r3.2.1
        rw [show (99 : Int32).toInt = 99 by decide] at hn
        simp only [bnd]; omega
      · rw [cif_f h2]
        exact pOk_f (by omega) r2.2.1
    · rw [cif_f h1]
      exact p_sat_ok hw1 r1' r1.2.1
theorem p_cpl_ok {tp : Nat → Int32} {D tl : Nat} {σ : zS} {s : Nat} (hw : wf D σ) (hs : s < tl) : pOk D tl s (p_cpl tp tl σ s) := by
  have i8 := hw.2.2.2.1.2
  have h8 := hw.2.2.2.2.2
  have r1 := nx_rng (tp := tp) (Nat.le_of_lt hs)
  have r1' := r1.2.2 hs
  have r2 := nx_rng (tp := tp) r1.2.1
  have r3 := nx_rng (tp := tp) r2.2.1
  have r4 := nx_rng (tp := tp) r3.2.1
  unfold p_cpl
  by_cases h : nc σ = 8
  · rw [if_pos h]
    exact pOk_f (Nat.le_refl _) (Nat.le_of_lt hs)
  · rw [if_neg h]
    by_cases h1 : isn tp tl (nx tp tl s) 9
    · rw [cif_t h1]
      have hn := num_rng h1
      rw [show (9 : Int32).toInt = 9 by decide] at hn
      have hw1 := addC_wf hw (by omega) hn
      by_cases h2 : isw tp tl (nx tp tl (nx tp tl s)) (zm_tx.getD 11 [])
      · rw [cif_t h2]
        by_cases h3 : isn tp tl (nx tp tl (nx tp tl (nx tp tl s))) (σ 8 2 - 1)
        · rw [cif_t h3]
          have hm := num_rng h3
          rw [hw.2.2.2.1.1, n1_toInt i8] at hm
          refine ⟨⟨by show s ≤ nx tp tl (nx tp tl (nx tp tl (nx tp tl s))); omega, r4.2.1⟩, fun _ => ⟨by show s < nx tp tl (nx tp tl (nx tp tl (nx tp tl s))); omega, wf_s2 hw1 (by decide) ?_⟩⟩
          simp only [bnd]; omega
        · rw [cif_f h3]
          exact pOk_f (by omega) r3.2.1
      · rw [cif_f h2]
        exact ⟨⟨by show s ≤ nx tp tl (nx tp tl s); omega, r2.2.1⟩, fun _ => ⟨by show s < nx tp tl (nx tp tl s); omega, hw1⟩⟩
    · rw [cif_f h1]
      exact pOk_f (by omega) r1.2.1
theorem p_fir_ok {tp : Nat → Int32} {D tl : Nat} {σ : zS} {s : Nat} (hw : wf D σ) (hs : s < tl) : pOk D tl s (p_fir tp tl σ s) := by
  have r1 := nx_rng (tp := tp) (Nat.le_of_lt hs)
  have r1' := r1.2.2 hs
  have r2 := nx_rng (tp := tp) r1.2.1
  unfold p_fir
  by_cases h1 : isn tp tl (nx tp tl s) 20
  · rw [cif_t h1]
    have hn := num_rng h1
    rw [show (20 : Int32).toInt = 20 by decide] at hn
    exact ⟨⟨by show s ≤ nx tp tl (nx tp tl s); omega, r2.2.1⟩, fun _ => ⟨by show s < nx tp tl (nx tp tl s); omega, wf_fi hw hn⟩⟩
  · rw [cif_f h1]
    exact pOk_f (by omega) r1.2.1
theorem p_sit_ok {tp : Nat → Int32} {D tl : Nat} {σ : zS} {s : Nat} (hw : wf D σ) (hs : s < tl) : pOk D tl s (p_sit tp tl σ s) := by
  have r1 := nx_rng (tp := tp) (Nat.le_of_lt hs)
  have r1' := r1.2.2 hs
  have r2 := nx_rng (tp := tp) r1.2.1
  unfold p_sit
  by_cases h1 : isn tp tl (nx tp tl s) (σ 8 2 - 1)
  · rw [cif_t h1]
    exact ⟨⟨by show s ≤ nx tp tl (nx tp tl s); omega, r2.2.1⟩, fun _ => ⟨by show s < nx tp tl (nx tp tl s); omega, wf_st hw _⟩⟩
  · rw [cif_f h1]
    exact pOk_f (by omega) r1.2.1
theorem isw_lt {tp : Nat → Int32} {tl s : Nat} {l : List Int32} (h : isw tp tl s l) : s < tl := (tok_lt h.1).1
theorem p_item_ok {tp : Nat → Int32} {D tl : Nat} {σ : zS} {s : Nat} (hw : wf D σ) (hs : s ≤ tl) : pOk D tl s (p_item tp tl σ s) := by
  unfold p_item
  by_cases h0 : isw tp tl s (zm_tx.getD 0 [])
  · rw [cif_t h0]; exact p_inl_ok hw (by decide) (isw_lt h0)
  rw [cif_f h0]
  by_cases h1 : isw tp tl s (zm_tx.getD 1 [])
  · rw [cif_t h1]; exact p_inl_ok hw (by decide) (isw_lt h1)
  rw [cif_f h1]
  by_cases h2 : isw tp tl s (zm_tx.getD 2 [])
  · rw [cif_t h2]; exact p_inl_ok hw (by decide) (isw_lt h2)
  rw [cif_f h2]
  by_cases h3 : isw tp tl s (zm_tx.getD 3 [])
  · rw [cif_t h3]; exact p_inl_ok hw (by decide) (isw_lt h3)
  rw [cif_f h3]
  by_cases h4 : isw tp tl s (zm_tx.getD 4 [])
  · rw [cif_t h4]; exact p_inl_ok hw (by decide) (isw_lt h4)
  rw [cif_f h4]
  by_cases h5 : isw tp tl s (zm_tx.getD 5 [])
  · rw [cif_t h5]; exact p_inl_ok hw (by decide) (isw_lt h5)
  rw [cif_f h5]
  by_cases h6 : isw tp tl s (zm_tx.getD 6 [])
  · rw [cif_t h6]; exact p_cpl_ok hw (isw_lt h6)
  rw [cif_f h6]
  by_cases h7 : isw tp tl s (zm_tx.getD 7 [])
  · rw [cif_t h7]; exact p_fir_ok hw (isw_lt h7)
  rw [cif_f h7]
  by_cases h8 : isw tp tl s (zm_tx.getD 8 [])
  · rw [cif_t h8]; exact p_sit_ok hw (isw_lt h8)
  rw [cif_f h8]
  exact pOk_f (Nat.le_refl _) hs
/-- an item has been read (the nth), a token is in hand: what comes behind -/
noncomputable def p_aft (tp : Nat → Int32) (tl : Nat) : Nat → zS → Nat → Nat → zPr
  | 0, σ, s, _ => (false, σ, s)
  | d + 1, σ, s, n => if s < tl then (if tp s = 59 then (if (p_item tp tl σ (nx tp tl s)).1 = true then p_aft tp tl d (p_item tp tl σ (nx tp tl s)).2.1 (p_item tp tl σ (nx tp tl s)).2.2 (n + 1) else (false, σ, (p_item tp tl σ (nx tp tl s)).2.2)) else (false, σ, s)) else (true, σ, n)
/-- the whole text: is it one; the institute; how many items, or where the fault is -/
noncomputable def p_txt (tp : Nat → Int32) (tl : Nat) (σ : zS) : zPr :=
  if (p_item tp tl σ (tkS tp tl 0)).1 = true then p_aft tp tl 120 (p_item tp tl σ (tkS tp tl 0)).2.1 (p_item tp tl σ (tkS tp tl 0)).2.2 1 else (false, σ, (p_item tp tl σ (tkS tp tl 0)).2.2)
noncomputable def sp_inst (tp : Nat → Int32) (tl : Nat) (σ : zS) : Int32 × zS := if (p_txt tp tl σ).1 = true then (nI (p_txt tp tl σ).2.2, (p_txt tp tl σ).2.1) else (-1 - nI (p_txt tp tl σ).2.2, σ)
theorem p_aft_ok {tp : Nat → Int32} {D tl : Nat} : ∀ d σ s n, wf D σ → s ≤ tl → (p_aft tp tl d σ s n).1 = true → wf D (p_aft tp tl d σ s n).2.1 ∧ (p_aft tp tl d σ s n).2.2 ≤ n + d
  | 0, σ, s, n, hw, hs, h => ft h
  | d + 1, σ, s, n, hw, hs, h => by
    have e : p_aft tp tl (d + 1) σ s n = if s < tl then (if tp s = 59 then (if (p_item tp tl σ (nx tp tl s)).1 = true then p_aft tp tl d (p_item tp tl σ (nx tp tl s)).2.1 (p_item tp tl σ (nx tp tl s)).2.2 (n + 1) else (false, σ, (p_item tp tl σ (nx tp tl s)).2.2)) else (false, σ, s)) else (true, σ, n) := rfl
    rw [e] at h ⊢
    by_cases h1 : s < tl
    · rw [if_pos h1] at h ⊢
      by_cases h2 : tp s = 59
      · rw [if_pos h2] at h ⊢
        by_cases h3 : (p_item tp tl σ (nx tp tl s)).1 = true
        · rw [if_pos h3] at h ⊢
          obtain ⟨a1, a2⟩ := p_item_ok (tp := tp) hw (nx_rng (tp := tp) hs).2.1
          obtain ⟨b1, b2⟩ := p_aft_ok d _ _ (n + 1) (a2 h3).2 a1.2 h
          exact ⟨b1, by omega⟩
        · rw [if_neg h3] at h; exact ft h
      · rw [if_neg h2] at h; exact ft h
    · rw [if_neg h1]
      exact ⟨hw, by show n ≤ n + (d + 1); omega⟩
theorem sp_inst_wf {tp : Nat → Int32} {D tl : Nat} {σ : zS} (hw : wf D σ) : wf D (sp_inst tp tl σ).2 := by
  unfold sp_inst
  by_cases h : (p_txt tp tl σ).1 = true
  · rw [if_pos h]
    show wf D (p_txt tp tl σ).2.1
    unfold p_txt at h ⊢
    have hs := tkS_rng (tp := tp) (Nat.zero_le tl)
    obtain ⟨a1, a2⟩ := p_item_ok (tp := tp) hw hs.2
    by_cases h1 : (p_item tp tl σ (tkS tp tl 0)).1 = true
    · rw [if_pos h1] at h ⊢
      exact (p_aft_ok 120 _ _ 1 (a2 h1).2 a1.2 h).1
    · rw [if_neg h1] at h; exact ft h
  · rw [if_neg h]
    exact hw
