/-! THE REFERENCE'S CALLS, second part -/
theorem inI_get {D : Nat} {σ : zS} (hw : wf D σ) {i : Int32} (h : zIn i (nn σ)) : ∃ j, j < nn σ ∧ j < 8 ∧ i = nI j ∧ ix i = j := by
  obtain ⟨j, hj, rfl⟩ := h
  have h8 := hw.2.2.2.1.2
  exact ⟨j, hj, by omega, rfl, ix_nI (by omega)⟩
theorem inC_get {D : Nat} {σ : zS} (hw : wf D σ) {i : Int32} (h : zIn i (nc σ)) : ∃ j, j < nc σ ∧ j < 8 ∧ i = nI j ∧ ix i = j := by
  obtain ⟨j, hj, rfl⟩ := h
  have h8 := hw.2.2.2.2.2
  exact ⟨j, hj, by omega, rfl, ix_nI (by omega)⟩
/-- a small number is a place -/
theorem rng_get {w : Int32} {a b : Nat} (hb : b ≤ 20000) (h1 : nI a ≤ w) (h2 : w ≤ nI b) (ha : a ≤ 20000) : ∃ v, a ≤ v ∧ v ≤ b ∧ w = nI v ∧ ix w = v := by
  have e0 : (0 : Int32).toInt = 0 := by decide
  rw [zle, nI_toInt (by omega)] at h1 h2
  obtain ⟨v, hv, rfl⟩ := nI_of (x := w) (by rw [zlt, e0]; omega)
  rw [nI_toInt hv] at h1 h2
  exact ⟨v, by omega, by omega, rfl, nI_clamp hv⟩
set_option maxRecDepth 100000 in
set_option maxHeartbeats 400000 in
theorem m_inlaw {SM : zC} {SF : Nat → zQ → zP} (hZ : zZ SM SF) {Q : zQ} {x : zXs} {σ : zS} {as g F : Nat → Int32} {q : zMq} {D : Nat} (hw : wf D σ) {v : Int32} (k : Q (some (.int (sp_inlaw σ F v).1)) (gh x (ec (sp_inlaw σ F v).2.1, as, g, (sp_inlaw σ F v).2.2, q))) : SM mn_M_inlaw [.ref 43, .int v] (gh x (ec σ, as, g, F, q)) Q := by
  have hn := hw.2.2.2.1.1
  have h8 := hw.2.2.2.1.2
  have e2 : (ec σ 2 : Int32) = nI (nn σ) := by rw [ec_c (by decide), ← hn]
  unfold sp_inlaw at k
  refine zin hZ 999 60 rfl rfl rfl ?_
  refine t_isKind hZ (fun h1 h2 => ⟨fun _ => ?_, nt⟩) (fun h1 => ⟨nf, fun _ => ?_⟩)
  · rw [if_pos ⟨h1, h2⟩] at k
    refine ⟨2, by decide, rfl, fun h3 => ?_, fun h3 => ?_⟩
    · have h4 : nn σ ≠ 8 := fun z => h3 ((ieq e2 (n := 8) rfl (by omega) (by omega)).mpr z)
      rw [if_neg h4] at k
      exact t_addsInlaw hZ hn (by omega) k
    · rw [if_pos ((ieq e2 (n := 8) rfl (by omega) (by omega)).mp h3)] at k
      exact t_finds hZ 1 (by decide) rfl k
  · rw [if_neg h1] at k
    exact t_finds hZ 0 (by decide) rfl k
set_option maxRecDepth 100000 in
set_option maxHeartbeats 400000 in
theorem t_addsCouple {SM : zC} {SF : Nat → zQ → zP} (hZ : zZ SM SF) {Q : zQ} {x : zXs} {σ : zS} {r : zMr} {ld : Int32} (hn : σ 8 3 = nI (nc σ)) (h8 : nc σ < 8) (k : Q (some (.int (nI (nc σ)))) (gh x (ec (addC σ ld), r))) : SM mn_M_addsCouple [.ref 43, .int ld] (gh x (ec σ, r)) Q := by
  have e2 : (ec σ 3 : Int32) = nI (nc σ) := by rw [ec_c (by decide), ← hn]
  refine zin hZ 999 99 rfl rfl rfl ?_
  refine ⟨3, by decide, rfl, 3, by decide, rfl, 3, by decide, rfl, ?_⟩
  rw [ec_uc σ (k := 3) (by decide), show (ec σ, r).1 3 = nI (nc σ) from e2, nI_1]
  refine t_cspot hZ (w := 0) ?_
  refine ⟨44 + 3 * nc σ + 0, by omega, rfl, ?_⟩
  rw [ec_up (s2 σ 8 3 (nI (nc σ + 1))) (c := nc σ) (w := 0) (by decide)]
  refine t_cspot hZ (w := 1) ?_
  refine ⟨44 + 3 * nc σ + 1, by omega, rfl, ?_⟩
  rw [ec_up (s2 (s2 σ 8 3 (nI (nc σ + 1))) (5 + 0) (nc σ) ld) (c := nc σ) (w := 1) (by decide)]
  refine t_cspot hZ (w := 2) ?_
  refine ⟨44 + 3 * nc σ + 2, by omega, rfl, ?_⟩
  rw [ec_up (s2 (s2 (s2 σ 8 3 (nI (nc σ + 1))) (5 + 0) (nc σ) ld) (5 + 1) (nc σ) 0) (c := nc σ) (w := 2) (by decide)]
  exact k
set_option maxRecDepth 100000 in
set_option maxHeartbeats 400000 in
theorem m_couple {SM : zC} {SF : Nat → zQ → zP} (hZ : zZ SM SF) {Q : zQ} {x : zXs} {σ : zS} {as g F : Nat → Int32} {q : zMq} {D : Nat} (hw : wf D σ) {v : Int32} (k : Q (some (.int (sp_couple σ F v).1)) (gh x (ec (sp_couple σ F v).2.1, as, g, (sp_couple σ F v).2.2, q))) : SM mn_M_couple [.ref 43, .int v] (gh x (ec σ, as, g, F, q)) Q := by
  have hn := hw.2.2.2.2.1
  have h8 := hw.2.2.2.2.2
  have e2 : (ec σ 3 : Int32) = nI (nc σ) := by rw [ec_c (by decide), ← hn]
  unfold sp_couple at k
  refine zin hZ 999 60 rfl rfl rfl ?_
  refine t_inI hZ v 0 9 rfl (by decide) (by decide) (fun h1 h2 => ⟨fun _ => ?_, nt⟩) (fun h1 => ⟨nf, fun _ => ?_⟩)
  · rw [if_pos ⟨h1, h2⟩] at k
    refine ⟨3, by decide, rfl, fun h3 => ?_, fun h3 => ?_⟩
    · have h4 : nc σ ≠ 8 := fun z => h3 ((ieq e2 (n := 8) rfl (by omega) (by omega)).mpr z)
      rw [if_neg h4] at k
      exact t_addsCouple hZ hn (by omega) k
    · rw [if_pos ((ieq e2 (n := 8) rfl (by omega) (by omega)).mp h3)] at k
      exact t_finds hZ 1 (by decide) rfl k
  · rw [if_neg h1] at k
    exact t_finds hZ 0 (by decide) rfl k
set_option maxRecDepth 100000 in
set_option maxHeartbeats 400000 in
theorem m_of {SM : zC} {SF : Nat → zQ → zP} (hZ : zZ SM SF) {Q : zQ} {x : zXs} {σ : zS} {as g F : Nat → Int32} {q : zMq} {D : Nat} (hw : wf D σ) {i w : Int32} (k : Q (some (.int (sp_of σ F i w).1)) (gh x (ec (sp_of σ F i w).2.1, as, g, (sp_of σ F i w).2.2, q))) : SM mn_M_of [.ref 43, .int i, .int w] (gh x (ec σ, as, g, F, q)) Q := by
  unfold sp_of at k
  refine zin hZ 999 60 rfl rfl rfl ?_
  refine t_isInlaw hZ hw.2.2.2.1.1 hw.2.2.2.1.2 (fun h1 => ⟨nt, fun _ => ?_⟩) (fun h1 => ⟨fun _ => ?_, nf⟩)
  · refine t_inI hZ w 0 5 rfl (by decide) (by decide) (fun h2 h3 => ⟨fun _ => ?_, nt⟩) (fun h2 => ⟨nf, fun _ => ?_⟩)
    · rw [if_pos ⟨(inI_iff hw i).mpr h1, h2, h3⟩] at k
      obtain ⟨j, hj1, hj2, rfl, hj3⟩ := inI_get hw h1
      obtain ⟨v, hv1, hv2, rfl, hv3⟩ := rng_get (w := w) (a := 0) (b := 5) (by omega) h2 h3 (by omega)
      rw [hj3, hv3] at k
      refine ⟨fun h4 => ?_, fun h4 => ?_⟩
      · have h5 : v = 5 := by
          have := (ilt (a := 4) (m := 4) rfl rfl (by omega) (by omega)).mp h4
          omega
        subst h5
        rw [if_pos (show nI 5 = 5 from rfl)] at k
        exact t_chills hZ hj2 k
      · have h5 : v < 5 := by
          rcases Nat.lt_or_ge 4 v with z | z
          · exact absurd ((ilt (a := 4) (m := 4) rfl rfl (by omega) (by omega)).mpr z) h4
          · omega
        rw [if_neg (fun z => by have := (ieq (b := 5) (n := 5) rfl rfl (by omega) (by omega)).mp z; omega)] at k
        exact t_its hZ hj2 h5 k
    · rw [if_neg (fun z => h2 z.2)] at k
      exact t_finds hZ 0 (by decide) rfl k
  · rw [if_neg (fun z => h1 ((inI_iff hw i).mp z.1))] at k
    exact t_finds hZ 0 (by decide) rfl k
set_option maxRecDepth 100000 in
set_option maxHeartbeats 400000 in
theorem m_with {SM : zC} {SF : Nat → zQ → zP} (hZ : zZ SM SF) {Q : zQ} {x : zXs} {σ : zS} {as g F : Nat → Int32} {q : zMq} {D : Nat} (hw : wf D σ) {i c w : Int32} (k : Q (some (.int (sp_with σ F i c w).1)) (gh x (ec (sp_with σ F i c w).2.1, as, g, (sp_with σ F i c w).2.2, q))) : SM mn_M_with [.ref 43, .int i, .int c, .int w] (gh x (ec σ, as, g, F, q)) Q := by
  unfold sp_with at k
  refine zin hZ 999 80 rfl rfl rfl ?_
  refine t_isInlaw hZ hw.2.2.2.1.1 hw.2.2.2.1.2 (fun h1 => ⟨nt, fun _ => ?_⟩) (fun h1 => ⟨fun _ => ?_, nf⟩)
  · refine t_isCouple hZ hw.2.2.2.2.1 hw.2.2.2.2.2 (fun h0 => ⟨nt, fun _ => ?_⟩) (fun h0 => ⟨fun _ => ?_, nf⟩)
    · refine t_inI hZ w 0 2 rfl (by decide) (by decide) (fun h2 h3 => ⟨fun _ => ?_, nt⟩) (fun h2 => ⟨nf, fun _ => ?_⟩)
      · rw [if_pos ⟨(inI_iff hw i).mpr h1, (inC_iff hw c).mpr h0, h2, h3⟩] at k
        obtain ⟨j, hj1, hj2, rfl, hj3⟩ := inI_get hw h1
        obtain ⟨c', hc1, hc2, rfl, hc3⟩ := inC_get hw h0
        rw [hj3, hc3] at k
        refine ⟨fun h4 => ⟨fun h5 => ?_, fun h5 => ?_⟩, fun h4 => ?_⟩
        · rw [if_neg h4, if_neg h5] at k
          exact t_thaws hZ hj2 hc2 k
        · rw [if_neg h4, if_pos h5] at k
          exact t_does hZ hj2 hc2 k
        · rw [if_pos h4] at k
          exact t_charms hZ hj2 hc2 k
      · rw [if_neg (fun z => h2 z.2.2)] at k
        exact t_finds hZ 0 (by decide) rfl k
    · rw [if_neg (fun z => h0 ((inC_iff hw c).mp z.2.1))] at k
      exact t_finds hZ 0 (by decide) rfl k
  · rw [if_neg (fun z => h1 ((inI_iff hw i).mp z.1))] at k
    exact t_finds hZ 0 (by decide) rfl k
set_option maxRecDepth 100000 in
set_option maxHeartbeats 400000 in
theorem m_turn {SM : zC} {SF : Nat → zQ → zP} (hZ : zZ SM SF) {Q : zQ} {x : zXs} {σ : zS} {as g F : Nat → Int32} {q : zMq} {D : Nat} (hw : wf D σ) {i w : Int32} (k : Q (some (.int (sp_turn σ F i w).1)) (gh x (ec (sp_turn σ F i w).2.1, as, g, (sp_turn σ F i w).2.2, q))) : SM mn_M_turn [.ref 43, .int i, .int w] (gh x (ec σ, as, g, F, q)) Q := by
  unfold sp_turn at k
  refine zin hZ 999 60 rfl rfl rfl ?_
  refine t_isInlaw hZ hw.2.2.2.1.1 hw.2.2.2.1.2 (fun h1 => ⟨nt, fun _ => ?_⟩) (fun h1 => ⟨fun _ => ?_, nf⟩)
  · refine t_isKind hZ (fun h2 h3 => ⟨nt, fun _ => ?_⟩) (fun h2 => ⟨fun _ => ?_, nf⟩)
    · rw [if_pos ⟨(inI_iff hw i).mpr h1, h2, h3⟩] at k
      obtain ⟨j, hj1, hj2, rfl, hj3⟩ := inI_get hw h1
      rw [hj3, ← ec_i (σ := σ) (i := j) (w := 0) hj2 (by decide), ← ec_ui σ hj2 (w := 0) (by decide)] at k
      refine t_spot hZ (w := 0) ?_
      exact t_becomes hZ (by omega) k
    · rw [if_neg (fun z => h2 z.2)] at k
      exact t_finds hZ 0 (by decide) rfl k
  · rw [if_neg (fun z => h1 ((inI_iff hw i).mp z.1))] at k
    exact t_finds hZ 0 (by decide) rfl k
set_option maxRecDepth 100000 in
set_option maxHeartbeats 400000 in
theorem t_isUnder {SM : zC} {SF : Nat → zQ → zP} (hZ : zZ SM SF) {Q : zQ} {h : zH} {a b : Int32} (kt : undr a b → Q (some (.int 1)) h) (kf : ¬ undr a b → Q (some (.int 0)) h) : SM mn_M_isUnder [.int a, .int b] h Q := by
  refine zin hZ 999 60 rfl rfl rfl ?_
  refine ⟨fun h0 => ⟨Or.inr rfl, kt (Or.inl h0)⟩, fun h0 => ⟨fun h1 => ⟨Or.inr rfl, kt (Or.inr (Or.inl h1))⟩, fun h1 => ?_⟩⟩
  refine ⟨fun h2 => ⟨fun h3 => ⟨Or.inl rfl, kf ?_⟩, fun h3 => ⟨fun h4 => ⟨Or.inl rfl, kf ?_⟩, fun h4 => ⟨Or.inr rfl, kt (Or.inr (Or.inr (Or.inr ⟨h3, h4⟩)))⟩⟩⟩, fun h2 => ⟨fun h3 => ⟨Or.inr rfl, kt (Or.inr (Or.inr (Or.inl ⟨h2, h3⟩)))⟩, fun h3 => ⟨fun h4 => ⟨Or.inl rfl, kf ?_⟩, fun h4 => ⟨fun h5 => ⟨Or.inl rfl, kf ?_⟩, fun h5 => ⟨Or.inr rfl, kt (Or.inr (Or.inr (Or.inr ⟨h4, h5⟩)))⟩⟩⟩⟩⟩
  · rintro (z | z | z | z)
    · exact h0 z
    · exact h1 z
    · exact h2 z.1
    · exact h3 z.1
  · rintro (z | z | z | z)
    · exact h0 z
    · exact h1 z
    · exact h2 z.1
    · exact h4 z.2
  · rintro (z | z | z | z)
    · exact h0 z
    · exact h1 z
    · exact h3 z.2
    · exact h4 z.1
  · rintro (z | z | z | z)
    · exact h0 z
    · exact h1 z
    · exact h3 z.2
    · exact h5 z.2
set_option maxRecDepth 100000 in
set_option maxHeartbeats 400000 in
theorem m_as {SM : zC} {SF : Nat → zQ → zP} (hZ : zZ SM SF) {Q : zQ} {x : zXs} {σ : zS} {as g F : Nat → Int32} {q : zMq} {D : Nat} (hw : wf D σ) {i w : Int32} (k : Q (some (.int (sp_as σ F i w).1)) (gh x (ec (sp_as σ F i w).2.1, as, g, (sp_as σ F i w).2.2, q))) : SM mn_M_as [.ref 43, .int i, .int w] (gh x (ec σ, as, g, F, q)) Q := by
  unfold sp_as at k
  refine zin hZ 999 60 rfl rfl rfl ?_
  refine t_isInlaw hZ hw.2.2.2.1.1 hw.2.2.2.1.2 (fun h1 => ⟨nt, fun _ => ?_⟩) (fun h1 => ⟨fun _ => ?_, nf⟩)
  · refine t_isKind hZ (fun h2 h3 => ⟨fun _ => ?_, nt⟩) (fun h2 => ⟨nf, fun _ => ?_⟩)
    · rw [if_pos ⟨(inI_iff hw i).mpr h1, h2, h3⟩] at k
      obtain ⟨j, hj1, hj2, rfl, hj3⟩ := inI_get hw h1
      rw [hj3] at k
      refine t_i0 hZ hj2 ?_
      refine t_isUnder hZ (fun h4 => ⟨nt, fun _ => ?_⟩) (fun h4 => ⟨fun _ => ?_, nf⟩)
      · rw [if_pos h4] at k
        exact t_i1 hZ hj2 k
      · rw [if_neg h4] at k
        exact t_finds hZ 2 (by decide) rfl k
    · rw [if_neg (fun z => h2 z.2)] at k
      exact t_finds hZ 0 (by decide) rfl k
  · rw [if_neg (fun z => h1 ((inI_iff hw i).mp z.1))] at k
    exact t_finds hZ 0 (by decide) rfl k
