/-! THE REFERENCE'S CALLS, third part -/
set_option maxRecDepth 100000 in
set_option maxHeartbeats 400000 in
theorem m_set {SM : zC} {SF : Nat → zQ → zP} (hZ : zZ SM SF) {Q : zQ} {x : zXs} {σ : zS} {as g F : Nat → Int32} {q : zMq} {D : Nat} (hw : wf D σ) {i w v : Int32} (k : Q (some (.int (sp_set σ F i w v).1)) (gh x (ec (sp_set σ F i w v).2.1, as, g, (sp_set σ F i w v).2.2, q))) : SM mn_M_set [.ref 43, .int i, .int w, .int v] (gh x (ec σ, as, g, F, q)) Q := by
  -- behind the test of what and v
  have good : ∀ (h2 : 1 ≤ w ∧ w ≤ 4) (h3 : 0 ≤ v ∧ v ≤ (if w = 1 then 99 else if w = 2 then 1 else 9999)), SF mn_M_set Q 49 [some (.ref 43), some (.int i), some (.int w), some (.int v), none] [.int 1] (0, 0) (gh x (ec σ, as, g, F, q)) := by
    intro h2 h3
    unfold sp_set at k
    refine zgo hZ 999 60 rfl ?_
    refine t_isInlaw hZ hw.2.2.2.1.1 hw.2.2.2.1.2 (fun h1 => ⟨nt, fun _ => ⟨nt, fun _ => ?_⟩⟩) (fun h1 => ⟨fun _ => ?_, nf⟩)
    · rw [if_pos ⟨(inI_iff hw i).mpr h1, h2, h3⟩] at k
      obtain ⟨j, hj1, hj2, rfl, hj3⟩ := inI_get hw h1
      obtain ⟨c, hc1, hc2, rfl, hc3⟩ := rng_get (w := w) (a := 1) (b := 4) (by omega) h2.1 h2.2 (by omega)
      rw [hj3, hc3, ← ec_i (σ := σ) (i := j) (w := c) hj2 (by omega), ← ec_ui σ hj2 (w := c) (by omega)] at k
      refine t_spot hZ ?_
      exact t_becomes hZ (by omega) k
    · rw [if_neg (fun z => h1 ((inI_iff hw i).mp z.1))] at k
      exact t_finds hZ 0 (by decide) rfl k
  have bad : ¬ ((1 ≤ w ∧ w ≤ 4) ∧ (0 ≤ v ∧ v ≤ (if w = 1 then 99 else if w = 2 then 1 else 9999))) → SF mn_M_set Q 49 [some (.ref 43), some (.int i), some (.int w), some (.int v), none] [.int 0] (0, 0) (gh x (ec σ, as, g, F, q)) := by
    intro h2
    unfold sp_set at k
    rw [if_neg (fun z => h2 z.2)] at k
    refine zgo hZ 999 60 rfl ?_
    refine t_isInlaw hZ hw.2.2.2.1.1 hw.2.2.2.1.2 (fun h1 => ⟨nt, fun _ => ⟨fun _ => ?_, nf⟩⟩) (fun h1 => ⟨fun _ => ?_, nf⟩)
    · exact t_finds hZ 0 (by decide) rfl k
    · exact t_finds hZ 0 (by decide) rfl k
  refine zin hZ 49 60 rfl rfl rfl ?_
  refine t_inI hZ w 1 4 rfl (by decide) (by decide) (fun h2 h3 => ⟨nt, fun _ => ?_⟩) (fun h2 => ⟨fun _ => bad (fun z => h2 z.1), nf⟩)
  refine ⟨fun h4 => ⟨fun h5 => ?_, fun h5 => ?_⟩, fun h4 => ?_⟩
  · rw [if_neg h4, if_neg h5] at good bad
    refine t_inI hZ v 0 9999 rfl (by decide) (by decide) (fun h6 h7 => ⟨nt, fun _ => ?_⟩) (fun h6 => ⟨fun _ => bad (fun z => h6 z.2), nf⟩)
    exact good ⟨h2, h3⟩ ⟨h6, h7⟩
  · rw [if_neg h4, if_pos h5] at good bad
    refine t_inI hZ v 0 1 rfl (by decide) (by decide) (fun h6 h7 => ⟨nt, fun _ => ?_⟩) (fun h6 => ⟨fun _ => bad (fun z => h6 z.2), nf⟩)
    exact good ⟨h2, h3⟩ ⟨h6, h7⟩
  · rw [if_pos h4] at good bad
    refine t_inI hZ v 0 99 rfl (by decide) (by decide) (fun h6 h7 => ⟨nt, fun _ => ?_⟩) (fun h6 => ⟨fun _ => bad (fun z => h6 z.2), nf⟩)
    exact good ⟨h2, h3⟩ ⟨h6, h7⟩
set_option maxRecDepth 100000 in
set_option maxHeartbeats 400000 in
theorem m_give {SM : zC} {SF : Nat → zQ → zP} (hZ : zZ SM SF) {Q : zQ} {x : zXs} {σ : zS} {as g F : Nat → Int32} {q : zMq} {D : Nat} (hw : wf D σ) {i w v : Int32} (k : Q (some (.int (sp_give σ F i w v).1)) (gh x (ec (sp_give σ F i w v).2.1, as, g, (sp_give σ F i w v).2.2, q))) : SM mn_M_give [.ref 43, .int i, .int w, .int v] (gh x (ec σ, as, g, F, q)) Q := by
  have good : ∀ (h2 : (w = 0 ∧ 0 ≤ v ∧ v ≤ 9) ∨ (w = 1 ∧ -999 ≤ v ∧ v ≤ 999) ∨ (w = 2 ∧ -1 ≤ v ∧ v ≤ σ 8 2 - 1)), SF mn_M_give Q 65 [some (.ref 43), some (.int i), some (.int w), some (.int v), none] [.int 1] (0, 0) (gh x (ec σ, as, g, F, q)) := by
    intro h2
    unfold sp_give at k
    refine zgo hZ 999 60 rfl ?_
    refine t_isCouple hZ hw.2.2.2.2.1 hw.2.2.2.2.2 (fun h1 => ⟨nt, fun _ => ⟨nt, fun _ => ?_⟩⟩) (fun h1 => ⟨fun _ => ?_, nf⟩)
    · rw [if_pos ⟨(inC_iff hw i).mpr h1, h2⟩] at k
      obtain ⟨j, hj1, hj2, rfl, hj3⟩ := inC_get hw h1
      obtain ⟨c, hc2, rfl, hc3⟩ : ∃ c, c < 3 ∧ w = nI c ∧ ix w = c := by
        rcases h2 with h2 | h2 | h2
        · exact ⟨0, by omega, h2.1, by rw [h2.1]; decide⟩
        · exact ⟨1, by omega, h2.1, by rw [h2.1]; decide⟩
        · exact ⟨2, by omega, h2.1, by rw [h2.1]; decide⟩
      rw [hj3, hc3, ← ec_p (σ := σ) (c := j) (w := c) hc2, ← ec_up σ (c := j) (w := c) hc2] at k
      refine t_cspot hZ ?_
      exact t_becomes hZ (by omega) k
    · rw [if_neg (fun z => h1 ((inC_iff hw i).mp z.1))] at k
      exact t_finds hZ 0 (by decide) rfl k
  have bad : ¬ ((w = 0 ∧ 0 ≤ v ∧ v ≤ 9) ∨ (w = 1 ∧ -999 ≤ v ∧ v ≤ 999) ∨ (w = 2 ∧ -1 ≤ v ∧ v ≤ σ 8 2 - 1)) → SF mn_M_give Q 65 [some (.ref 43), some (.int i), some (.int w), some (.int v), none] [.int 0] (0, 0) (gh x (ec σ, as, g, F, q)) := by
    intro h2
    unfold sp_give at k
    rw [if_neg (fun z => h2 z.2)] at k
    refine zgo hZ 999 60 rfl ?_
    refine t_isCouple hZ hw.2.2.2.2.1 hw.2.2.2.2.2 (fun h1 => ⟨nt, fun _ => ⟨fun _ => ?_, nf⟩⟩) (fun h1 => ⟨fun _ => ?_, nf⟩)
    · exact t_finds hZ 0 (by decide) rfl k
    · exact t_finds hZ 0 (by decide) rfl k
  refine zin hZ 65 60 rfl rfl rfl ?_
  refine ⟨fun h4 => ⟨fun h5 => ⟨fun h6 => ?_, fun h6 => ?_⟩, fun h5 => ?_⟩, fun h4 => ?_⟩
  · exact bad (fun z => by
      rcases z with z | z | z
      · exact h4 z.1
      · exact h5 z.1
      · exact h6 z.1)
  · have e2 : (ec σ 2 : Int32) = σ 8 2 := ec_c (by decide)
    refine ⟨2, by decide, rfl, ?_⟩
    refine t_inI hZ v (-1) (σ 8 2 - 1) rfl (by decide) (by rw [← e2]) (fun h7 h8 => ⟨nt, fun _ => ?_⟩) (fun h7 => ⟨fun _ => bad (fun z => ?_), nf⟩)
    · exact good (Or.inr (Or.inr ⟨h6, h7, h8⟩))
    · rcases z with z | z | z
      · exact h4 z.1
      · exact h5 z.1
      · exact h7 z.2
  · refine t_inI hZ v (-999) 999 rfl (by decide) (by decide) (fun h7 h8 => good (Or.inr (Or.inl ⟨h5, h7, h8⟩))) (fun h7 => bad (fun z => ?_))
    rcases z with z | z | z
    · exact h4 z.1
    · exact h7 z.2
    · rw [h5] at z; exact absurd z.1 (by decide)
  · refine t_inI hZ v 0 9 rfl (by decide) (by decide) (fun h7 h8 => good (Or.inl ⟨h4, h7, h8⟩)) (fun h7 => bad (fun z => ?_))
    rcases z with z | z | z
    · exact h7 z.2
    · rw [h4] at z; exact absurd z.1 (by decide)
    · rw [h4] at z; exact absurd z.1 (by decide)
-- Sundays
set_option maxRecDepth 100000 in
set_option maxHeartbeats 400000 in
theorem t_sundaysGo_l {SM : zC} {SF : Nat → zQ → zP} (hZ : zZ SM SF) {Q : zQ} {x : zXs} {H : zHl} {as F : Nat → Int32} {q : zMq} {D n : Nat} (hw : wf D H.1) (hD : D + n ≤ 18000) (k : Q none (gh x (ec (sus H n).1, as, (sus H n).2.1, F, q))) : ∀ d j, j + d = n → SF mn_M_sundaysGo Q 2 [some (.ref 43), some (.int (nI n)), some (.int (nI j))] [] (0, 0) (gh x (ec (sus H j).1, as, (sus H j).2.1, F, q)) := by
  intro d
  induction d with
  | zero =>
    intro j hj
    refine zgo hZ 2 60 rfl ?_
    refine ⟨fun hc => ?_, fun hc => ?_⟩
    · rw [show j = n by omega]
      exact k
    · exact absurd ((nI_leI (by omega) (by omega)).mpr (by omega)) hc
  | succ d ih =>
    intro j hj
    have h1 := ih (j + 1) (by omega)
    rw [← nI_1] at h1
    refine zgo hZ 2 60 rfl ?_
    refine ⟨fun hc => ?_, fun hc => ?_⟩
    · have := (nI_leI (by omega) (by omega)).mp hc
      omega
    · exact t_sunday hZ (sus_wf hw j (by omega)).1 (by omega) h1
set_option maxRecDepth 100000 in
set_option maxHeartbeats 400000 in
theorem t_sundaysGo {SM : zC} {SF : Nat → zQ → zP} (hZ : zZ SM SF) {Q : zQ} {x : zXs} {H : zHl} {as F : Nat → Int32} {q : zMq} {D n : Nat} (hw : wf D H.1) (hD : D + n ≤ 18000) (k : Q none (gh x (ec (sus H n).1, as, (sus H n).2.1, F, q))) : SM mn_M_sundaysGo [.ref 43, .int (nI n)] (gh x (ec H.1, as, H.2.1, F, q)) Q := by
  refine zin hZ 2 60 rfl rfl rfl ?_
  exact t_sundaysGo_l hZ hw hD k n 0 (by omega)
/-- the institute alone -/
theorem t_go {SM : zC} {SF : Nat → zQ → zP} (hZ : zZ SM SF) {Q : zQ} {x : zXs} {σ : zS} {as g F : Nat → Int32} {q : zMq} {D n : Nat} (hw : wf D σ) (hD : D + n ≤ 18000) (k : ∀ g', Q none (gh x (ec (sg σ n), as, g', F, q))) : SM mn_M_sundaysGo [.ref 43, .int (nI n)] (gh x (ec σ, as, g, F, q)) Q := by
  refine t_sundaysGo (H := (σ, g, 0)) hZ hw hD ?_
  rw [sus_sg]
  exact k _
set_option maxRecDepth 100000 in
set_option maxHeartbeats 400000 in
theorem t_hasNow {SM : zC} {SF : Nat → zQ → zP} (hZ : zZ SM SF) {Q : zQ} {x : zXs} {σ : zS} {as g F : Nat → Int32} {q : zMq} {D c : Nat} (hw : wf D σ) (hD : D ≤ 18000) (hc : c < nc σ) (k : ∀ as' g', Q (some (.int (gg σ 1 c))) (gh x (ec σ, as', g', F, q))) : SM mn_M_hasNow [.ref 43, .int (nI c)] (gh x (ec σ, as, g, F, q)) Q := by
  have h8 := hw.2.2.2.2.2
  refine zin hZ 999 60 rfl rfl rfl ?_
  refine t_laysAside (ks := q.1) (ot := q.2.1) (q := q.2.2) hZ ?_
  refine t_sunday (H := (σ, g, 0)) (q := q) hZ hw (by omega) ?_
  refine ⟨c, by omega, rfl, ?_⟩
  have e : (su (σ, g, 0)).2.1 c = gg σ 1 c := sus_gg (n := 0) hw g 0 (by omega) hc
  refine t_takesBack (s := ec (su (σ, g, 0)).1) (as := ec σ) (ks := q.1) (ot := q.2.1) (q := q.2.2) (g := (su (σ, g, 0)).2.1) (F := F) hZ ?_
  have k2 := k (ec σ) (su (σ, g, 0)).2.1
  rw [← e] at k2
  exact k2
set_option maxRecDepth 100000 in
set_option maxHeartbeats 400000 in
theorem m_coupleOf {SM : zC} {SF : Nat → zQ → zP} (hZ : zZ SM SF) {Q : zQ} {x : zXs} {σ : zS} {as g F : Nat → Int32} {q : zMq} {D : Nat} (hw : wf D σ) (hD : D ≤ 18000) {i w : Int32} (k : ∀ as' g', Q (some (.int (sp_coupleOf σ F i w).1)) (gh x (ec (sp_coupleOf σ F i w).2.1, as', g', (sp_coupleOf σ F i w).2.2, q))) : SM mn_M_coupleOf [.ref 43, .int i, .int w] (gh x (ec σ, as, g, F, q)) Q := by
  unfold sp_coupleOf at k
  refine zin hZ 999 60 rfl rfl rfl ?_
  refine t_isCouple hZ hw.2.2.2.2.1 hw.2.2.2.2.2 (fun h1 => ⟨nt, fun _ => ?_⟩) (fun h1 => ⟨fun _ => ?_, nf⟩)
  · refine t_inI hZ w 0 3 rfl (by decide) (by decide) (fun h2 h3 => ⟨fun _ => ?_, nt⟩) (fun h2 => ⟨nf, fun _ => ?_⟩)
    · rw [if_pos ⟨(inC_iff hw i).mpr h1, h2, h3⟩] at k
      obtain ⟨j, hj1, hj2, rfl, hj3⟩ := inC_get hw h1
      obtain ⟨v, hv1, hv2, rfl, hv3⟩ := rng_get (w := w) (a := 0) (b := 3) (by omega) h2 h3 (by omega)
      rw [hj3, hv3] at k
      refine ⟨fun h4 => ⟨fun h5 => ?_, fun h5 => ?_⟩, fun h4 => ?_⟩
      · rw [if_neg h4, if_neg h5] at k
        have h6 : v < 3 := by
          have : v ≠ 3 := fun z => h4 (by rw [z]; rfl)
          omega
        exact t_theirs hZ hj2 h6 (k _ _)
      · rw [if_neg h4, if_pos h5] at k
        exact t_c1 hZ hj2 (k _ _)
      · rw [if_pos h4] at k
        exact t_hasNow hZ hw hD hj1 k
    · rw [if_neg (fun z => h2 z.2)] at k
      exact t_finds hZ 0 (by decide) rfl (k _ _)
  · rw [if_neg (fun z => h1 ((inC_iff hw i).mp z.1))] at k
    exact t_finds hZ 0 (by decide) rfl (k _ _)
