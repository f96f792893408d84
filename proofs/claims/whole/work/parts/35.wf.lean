/-! WHAT ALWAYS HOLDS, over Sundays -/
theorem hb6 (v : Int32) : (bnd 6).1 ≤ (hd3 v (-999) 999).toInt ∧ (hd3 v (-999) 999).toInt ≤ (bnd 6).2 := by
  have h := hd3_rng v (lo := -999) (hi := 999) (by decide)
  have e1 : (-999 : Int32).toInt = -999 := by decide
  have e2 : (999 : Int32).toInt = 999 := by decide
  simp only [bnd]; omega
theorem hb4 (v : Int32) : (bnd 4).1 ≤ (hd3 v 0 9999).toInt ∧ (hd3 v 0 9999).toInt ≤ (bnd 4).2 := by
  have h := hd3_rng v (lo := 0) (hi := 9999) (by decide)
  have e1 : (0 : Int32).toInt = 0 := by decide
  have e2 : (9999 : Int32).toInt = 9999 := by decide
  simp only [bnd]; omega
theorem hb3 (v : Int32) : (bnd 3).1 ≤ (hd3 v 0 9999).toInt ∧ (hd3 v 0 9999).toInt ≤ (bnd 3).2 := hb4 v
theorem hb1 (v : Int32) : (bnd 1).1 ≤ (hd3 v 0 99).toInt ∧ (hd3 v 0 99).toInt ≤ (bnd 1).2 := by
  have h := hd3_rng v (lo := 0) (hi := 99) (by decide)
  have e1 : (0 : Int32).toInt = 0 := by decide
  have e2 : (99 : Int32).toInt = 99 := by decide
  simp only [bnd]; omega
theorem hb7 {i : Nat} (h : i < 8) : (bnd 7).1 ≤ (nI i).toInt ∧ (nI i).toInt ≤ (bnd 7).2 := by
  rw [nI_toInt (by omega)]
  simp only [bnd]; omega
theorem hs_wf {D : Nat} {σ : zS} (h : wf D σ) {c i : Nat} (hi : i < 8) : wf D (hs σ c i) :=
  wf_s2 (wf_s2 (wf_s2 (wf_s2 h (by decide) (hb6 _)) (by decide) (hb7 hi)) (by decide) (hb4 _)) (by decide) (hb1 _)
theorem hs_8 (σ : zS) (c i : Nat) : hs σ c i 8 = σ 8 := rfl
theorem alo_wf {D : Nat} {σ : zS} (h : wf D σ) (i : Nat) : wf D (alo σ i) :=
  wf_s2 (wf_s2 h (by decide) (hb3 _)) (by decide) (hb1 _)
theorem pk_ge {σ : zS} {c : Nat} {t : Int32} {n : Nat} (h : ¬ pk σ c t n = -1) : ∃ b, b < n ∧ pk σ c t n = nI b := (pk_rng σ c t n).resolve_left h
theorem rc_wf {D : Nat} {H : zHl} (h : wf D H.1) (c : Nat) : wf D (rc H c).1 ∧ (rc H c).1 8 = H.1 8 := by
  unfold rc
  by_cases hb : pk H.1 c H.2.2 (nn H.1) = -1
  · rw [if_pos hb]
    exact ⟨wf_s2 h (by decide) (hb6 _), rfl⟩
  · rw [if_neg hb]
    obtain ⟨b, h1, h2⟩ := pk_ge hb
    have h8 : nn H.1 ≤ 8 := h.2.2.2.1.2
    rw [h2, nI_clamp (by omega)]
    exact ⟨hs_wf h (by omega), rfl⟩
theorem csu_wf {D : Nat} {H : zHl} (h : wf D H.1) : ∀ k, wf D (csu H k).1 ∧ (csu H k).1 8 = H.1 8
  | 0 => ⟨h, rfl⟩
  | k + 1 => by
    obtain ⟨h1, h2⟩ := csu_wf h k
    obtain ⟨h3, h4⟩ := rc_wf h1 ((nd H.1 + k) % nc H.1)
    exact ⟨h3, h4.trans h2⟩
theorem al1_eq (H : zHl) (i : Nat) : al1 H i = if fr H.2.2 i then (alo H.1 i, H.2) else H := rfl
theorem al1_wf {D : Nat} {H : zHl} (h : wf D H.1) (i : Nat) : wf D (al1 H i).1 ∧ (al1 H i).1 8 = H.1 8 ∧ (al1 H i).2 = H.2 := by
  rw [al1_eq]
  by_cases hb : fr H.2.2 i
  · rw [if_pos hb]; exact ⟨alo_wf h i, rfl, rfl⟩
  · rw [if_neg hb]; exact ⟨h, rfl, rfl⟩
theorem als_wf {D : Nat} {H : zHl} (h : wf D H.1) : ∀ i, wf D (als H i).1 ∧ (als H i).1 8 = H.1 8 ∧ (als H i).2 = H.2
  | 0 => ⟨h, rfl, rfl⟩
  | i + 1 => by
    obtain ⟨h1, h2, h3⟩ := als_wf h i
    obtain ⟨g1, g2, g3⟩ := al1_wf h1 i
    exact ⟨g1, g2.trans h2, g3.trans h3⟩
theorem nn_8 {σ τ : zS} (h : σ 8 = τ 8) : nn σ = nn τ ∧ nc σ = nc τ ∧ nd σ = nd τ := by unfold nn nc nd; rw [h]; exact ⟨rfl, rfl, rfl⟩
theorem su_wf {D : Nat} {H : zHl} (h : wf D H.1) (hD : D ≤ 20000) : wf (D + 1) (su H).1 ∧ nn (su H).1 = nn H.1 ∧ nc (su H).1 = nc H.1 ∧ nd (su H).1 = nd H.1 + 1 := by
  obtain ⟨h1, h2⟩ := csu_wf h (nc H.1)
  obtain ⟨g1, g2, g3⟩ := als_wf h1 (nn H.1)
  have e8 := g2.trans h2
  unfold su
  generalize (als (csu H (nc H.1)) (nn H.1)).1 = τ at g1 e8
  obtain ⟨a1, a2, a3⟩ := nn_8 e8
  obtain ⟨b1, b2, b3, b4, b5⟩ := g1
  have ed : τ 8 0 + 1 = nI (nd τ + 1) := by rw [b2.1, nI_1]
  have c2 : s2 τ 8 0 (τ 8 0 + 1) 8 2 = τ 8 2 := s2_o τ (Or.inr (by decide)) _
  have c3 : s2 τ 8 0 (τ 8 0 + 1) 8 3 = τ 8 3 := s2_o τ (Or.inr (by decide)) _
  have c1 : s2 τ 8 0 (τ 8 0 + 1) 8 1 = τ 8 1 := s2_o τ (Or.inr (by decide)) _
  have c0 : s2 τ 8 0 (τ 8 0 + 1) 8 0 = nI (nd τ + 1) := by rw [s2_at, ed]
  have n0 : nd (s2 τ 8 0 (τ 8 0 + 1)) = nd τ + 1 := by unfold nd; rw [c0]; exact nI_clamp (by omega)
  have n2 : nn (s2 τ 8 0 (τ 8 0 + 1)) = nn τ := by unfold nn; rw [c2]
  have n3 : nc (s2 τ 8 0 (τ 8 0 + 1)) = nc τ := by unfold nc; rw [c3]
  show wf (D + 1) (s2 τ 8 0 (τ 8 0 + 1)) ∧ nn (s2 τ 8 0 (τ 8 0 + 1)) = nn H.1 ∧ nc (s2 τ 8 0 (τ 8 0 + 1)) = nc H.1 ∧ nd (s2 τ 8 0 (τ 8 0 + 1)) = nd H.1 + 1
  refine ⟨⟨fun i hi => ?_, ⟨by rw [c0, n0], by rw [n0]; omega⟩, by rw [c1]; exact b3, ⟨by rw [c2, n2]; exact b4.1, by rw [n2]; exact b4.2⟩, ⟨by rw [c3, n3]; exact b5.1, by rw [n3]; exact b5.2⟩⟩, by rw [n2, a1], by rw [n3, a2], by rw [n0, a3]⟩
  rw [wfi_iff]
  intro f hf
  show (bnd f).1 ≤ (s2 τ 8 0 (τ 8 0 + 1) f i).toInt ∧ _
  rw [s2_o τ (Or.inl (by omega))]
  exact (wfi_iff τ i).mp (b1 i hi) f hf
theorem sus_wf {D : Nat} {H : zHl} (h : wf D H.1) : ∀ n, D + n ≤ 20000 → wf (D + n) (sus H n).1 ∧ nn (sus H n).1 = nn H.1 ∧ nc (sus H n).1 = nc H.1 ∧ nd (sus H n).1 = nd H.1 + n
  | 0, _ => ⟨h, rfl, rfl, rfl⟩
  | n + 1, hn => by
    obtain ⟨h1, h2, h3, h4⟩ := sus_wf h n (by omega)
    obtain ⟨g1, g2, g3, g4⟩ := su_wf h1 (by omega)
    exact ⟨g1, g2.trans h2, g3.trans h3, by rw [show nd (sus H (n + 1)).1 = nd (su (sus H n)).1 from rfl, g4, h4]; omega⟩
