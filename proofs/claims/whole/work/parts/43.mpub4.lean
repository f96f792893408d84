/-! THE REFERENCE'S CALLS, fourth part: Sundays ahead -/
theorem t_isAhead {SM : zC} {SF : Nat → zQ → zP} (hZ : zZ SM SF) {Q : zQ} {h : zH} {i : Int32} (kt : 0 ≤ i → i ≤ 100 → Q (some (.int 1)) h) (kf : ¬ (0 ≤ i ∧ i ≤ 100) → Q (some (.int 0)) h) : SM mn_M_isAhead [.int i] h Q := by
  refine zin hZ 999 50 rfl rfl rfl ?_
  exact t_inI hZ i 0 100 rfl (by decide) (by decide) (fun h1 h2 => ⟨Or.inr rfl, kt h1 h2⟩) (fun h1 => ⟨Or.inl rfl, kf h1⟩)
theorem t_isSoon {SM : zC} {SF : Nat → zQ → zP} (hZ : zZ SM SF) {Q : zQ} {h : zH} {i : Int32} (kt : 1 ≤ i → i ≤ 60 → Q (some (.int 1)) h) (kf : ¬ (1 ≤ i ∧ i ≤ 60) → Q (some (.int 0)) h) : SM mn_M_isSoon [.int i] h Q := by
  refine zin hZ 999 50 rfl rfl rfl ?_
  exact t_inI hZ i 1 60 rfl (by decide) (by decide) (fun h1 h2 => ⟨Or.inr rfl, kt h1 h2⟩) (fun h1 => ⟨Or.inl rfl, kf h1⟩)
set_option maxRecDepth 100000 in
set_option maxHeartbeats 400000 in
theorem m_sundays {SM : zC} {SF : Nat → zQ → zP} (hZ : zZ SM SF) {Q : zQ} {x : zXs} {σ : zS} {as g F : Nat → Int32} {q : zMq} {D : Nat} (hw : wf D σ) (hD : D ≤ 17000) {n : Int32} (k : ∀ as' g', Q (some (.int (sp_sundays σ F n).1)) (gh x (ec (sp_sundays σ F n).2.1, as', g', (sp_sundays σ F n).2.2, q))) : SM mn_M_sundays [.ref 43, .int n] (gh x (ec σ, as, g, F, q)) Q := by
  have e0 : (ec σ 0 : Int32) = σ 8 0 := ec_c (by decide)
  unfold sp_sundays at k
  refine zin hZ 999 60 rfl rfl rfl ?_
  refine t_inI hZ n 1 60 rfl (by decide) (by decide) (fun h1 h2 => ⟨fun _ => ?_, nt⟩) (fun h1 => ⟨nf, fun _ => ?_⟩)
  · rw [if_pos ⟨h1, h2⟩] at k
    refine ⟨0, by decide, rfl, fun h3 => ?_, fun h3 => ?_⟩
    · have h3 : σ 8 0 + n ≤ 9999 := by rw [← e0]; exact h3
      rw [if_neg (nlt_of h3)] at k
      obtain ⟨v, hv1, hv2, rfl, hv3⟩ := rng_get (w := n) (a := 1) (b := 60) (by omega) h1 h2 (by omega)
      rw [hv3] at k
      refine t_go hZ hw (by omega) (fun g' => ?_)
      obtain ⟨w1, w2, w3, w4⟩ := sg_wf hw (n := v) (by omega)
      refine t_together hZ (w := 1) (n := nn σ) (by rw [w1.2.2.2.1.1, w2]) hw.2.2.2.1.2 (by decide) ?_
      exact k _ _
    · have h3 : ¬ σ 8 0 + n ≤ 9999 := by rw [← e0]; exact h3
      rw [if_pos (lt_of h3)] at k
      exact t_finds hZ 4 (by decide) rfl (k _ _)
  · rw [if_neg h1] at k
    exact t_finds hZ 0 (by decide) rfl (k _ _)
set_option maxRecDepth 100000 in
set_option maxHeartbeats 400000 in
theorem t_behind_w {SM : zC} {SF : Nat → zQ → zP} (hZ : zZ SM SF) {Q : zQ} {x : zXs} {σ : zS} {as g F : Nat → Int32} {q : zMq} {D n w : Nat} (hw : wf D σ) (hD : D + n ≤ 18000) (h68 : w < 68) (k : ∀ as' g', Q (some (.int (ec (sg σ n) w))) (gh x (ec σ, as', g', F, q))) : SM mn_M_behind [.ref 43, .int (nI w), .int (nI n)] (gh x (ec σ, as, g, F, q)) Q := by
  refine zin hZ 999 60 rfl rfl rfl ?_
  refine t_laysAside (ks := q.1) (ot := q.2.1) (q := q.2.2) hZ ?_
  refine t_go (q := q) hZ hw hD (fun g' => ?_)
  refine ⟨fun _ => ⟨fun _ => ?_, fun z => ?_⟩, fun z => absurd z (nI_ne_m1 (by omega))⟩
  · refine ⟨w, h68, rfl, ?_⟩
    exact t_takesBack (s := ec (sg σ n)) (as := ec σ) (ks := q.1) (ot := q.2.1) (q := q.2.2) (g := g') (F := F) hZ (k _ _)
  · exfalso
    rw [zeq, nI_toInt (by omega)] at z
    have : (-2 : Int32).toInt = -2 := by decide
    omega
set_option maxRecDepth 100000 in
set_option maxHeartbeats 400000 in
theorem t_behind_1 {SM : zC} {SF : Nat → zQ → zP} (hZ : zZ SM SF) {Q : zQ} {x : zXs} {σ : zS} {as g F : Nat → Int32} {q : zMq} {D n : Nat} (hw : wf D σ) (hD : D + n ≤ 18000) (k : ∀ as' g', Q (some (.int (zsum (sg σ n 6) (nc σ)))) (gh x (ec σ, as', g', F, q))) : SM mn_M_behind [.ref 43, .int (-1), .int (nI n)] (gh x (ec σ, as, g, F, q)) Q := by
  obtain ⟨w1, w2, w3, w4⟩ := sg_wf hw (n := n) (by omega)
  refine zin hZ 999 60 rfl rfl rfl ?_
  refine t_laysAside (ks := q.1) (ot := q.2.1) (q := q.2.2) hZ ?_
  refine t_go (q := q) hZ hw hD (fun g' => ?_)
  refine ⟨fun z => absurd rfl z, fun _ => ?_⟩
  refine t_wells (n := nc σ) hZ (by rw [w1.2.2.2.2.1, w3]) hw.2.2.2.2.2 ?_
  exact t_takesBack (s := ec (sg σ n)) (as := ec σ) (ks := q.1) (ot := q.2.1) (q := q.2.2) (g := g') (F := F) hZ (k _ _)
set_option maxRecDepth 100000 in
set_option maxHeartbeats 400000 in
theorem t_behind_2 {SM : zC} {SF : Nat → zQ → zP} (hZ : zZ SM SF) {Q : zQ} {x : zXs} {σ : zS} {as g F : Nat → Int32} {q : zMq} {D n : Nat} (hw : wf D σ) (hD : D + n ≤ 18000) (k : ∀ as' g', Q (some (.int (zsum (sg σ n 1) (nn σ)))) (gh x (ec σ, as', g', F, q))) : SM mn_M_behind [.ref 43, .int (-2), .int (nI n)] (gh x (ec σ, as, g, F, q)) Q := by
  obtain ⟨w1, w2, w3, w4⟩ := sg_wf hw (n := n) (by omega)
  refine zin hZ 999 60 rfl rfl rfl ?_
  refine t_laysAside (ks := q.1) (ot := q.2.1) (q := q.2.2) hZ ?_
  refine t_go (q := q) hZ hw hD (fun g' => ?_)
  refine ⟨fun _ => ⟨fun z => absurd rfl z, fun _ => ?_⟩, fun z => absurd z (by decide)⟩
  refine t_together (w := 1) (n := nn σ) hZ (by rw [w1.2.2.2.1.1, w2]) hw.2.2.2.1.2 (by decide) ?_
  exact t_takesBack (s := ec (sg σ n)) (as := ec σ) (ks := q.1) (ot := q.2.1) (q := q.2.2) (g := g') (F := F) hZ (k _ _)
set_option maxRecDepth 100000 in
set_option maxHeartbeats 400000 in
theorem m_on {SM : zC} {SF : Nat → zQ → zP} (hZ : zZ SM SF) {Q : zQ} {x : zXs} {σ : zS} {as g F : Nat → Int32} {q : zMq} {D : Nat} (hw : wf D σ) (hD : D ≤ 17000) {i n w : Int32} (k : ∀ as' g', Q (some (.int (sp_on σ F i n w).1)) (gh x (ec (sp_on σ F i n w).2.1, as', g', (sp_on σ F i n w).2.2, q))) : SM mn_M_on [.ref 43, .int i, .int n, .int w] (gh x (ec σ, as, g, F, q)) Q := by
  unfold sp_on at k
  refine zin hZ 999 60 rfl rfl rfl ?_
  refine t_isCouple hZ hw.2.2.2.2.1 hw.2.2.2.2.2 (fun h1 => ⟨nt, fun _ => ?_⟩) (fun h1 => ⟨fun _ => ?_, nf⟩)
  · refine t_isAhead hZ (fun h2 h3 => ⟨nt, fun _ => ?_⟩) (fun h2 => ⟨fun _ => ?_, nf⟩)
    · refine t_inI hZ w 0 1 rfl (by decide) (by decide) (fun h4 h5 => ⟨fun _ => ?_, nt⟩) (fun h4 => ⟨nf, fun _ => ?_⟩)
      · rw [if_pos ⟨(inC_iff hw i).mpr h1, ⟨h2, h3⟩, h4, h5⟩] at k
        obtain ⟨j, hj1, hj2, rfl, hj3⟩ := inC_get hw h1
        obtain ⟨v, hv1, hv2, rfl, hv3⟩ := rng_get (w := n) (a := 0) (b := 100) (by omega) h2 h3 (by omega)
        obtain ⟨u, hu1, hu2, rfl, hu3⟩ := rng_get (w := w) (a := 0) (b := 1) (by omega) h4 h5 (by omega)
        rw [hj3, hv3, hu3] at k
        refine ⟨fun h6 => ?_, fun h6 => ?_⟩
        · have : u = 1 := by
            have : u ≠ 0 := fun z => h6 (by rw [z]; rfl)
            omega
          subst this
          rw [show (6 + 1 : Nat) = 5 + 2 from rfl, ← ec_p (σ := sg σ v) (c := j) (w := 2) (by decide)] at k
          refine t_cspot hZ (w := 2) ?_
          exact t_behind_w hZ hw (by omega) (by omega) k
        · have : u = 0 := (nI_eq (b := 0) (by omega) (by omega)).mp h6
          subst this
          rw [show (6 + 0 : Nat) = 5 + 1 from rfl, ← ec_p (σ := sg σ v) (c := j) (w := 1) (by decide)] at k
          refine t_cspot hZ (w := 1) ?_
          exact t_behind_w hZ hw (by omega) (by omega) k
      · rw [if_neg (fun z => h4 z.2.2)] at k
        exact t_finds hZ 0 (by decide) rfl (k _ _)
    · rw [if_neg (fun z => h2 z.2.1)] at k
      exact t_finds hZ 0 (by decide) rfl (k _ _)
  · rw [if_neg (fun z => h1 ((inC_iff hw i).mp z.1))] at k
    exact t_finds hZ 0 (by decide) rfl (k _ _)
set_option maxRecDepth 100000 in
set_option maxHeartbeats 400000 in
theorem m_then {SM : zC} {SF : Nat → zQ → zP} (hZ : zZ SM SF) {Q : zQ} {x : zXs} {σ : zS} {as g F : Nat → Int32} {q : zMq} {D : Nat} (hw : wf D σ) (hD : D ≤ 17000) {i n w : Int32} (k : ∀ as' g', Q (some (.int (sp_then σ F i n w).1)) (gh x (ec (sp_then σ F i n w).2.1, as', g', (sp_then σ F i n w).2.2, q))) : SM mn_M_then [.ref 43, .int i, .int n, .int w] (gh x (ec σ, as, g, F, q)) Q := by
  unfold sp_then at k
  refine zin hZ 999 60 rfl rfl rfl ?_
  refine t_isInlaw hZ hw.2.2.2.1.1 hw.2.2.2.1.2 (fun h1 => ⟨nt, fun _ => ?_⟩) (fun h1 => ⟨fun _ => ?_, nf⟩)
  · refine t_isAhead hZ (fun h2 h3 => ⟨nt, fun _ => ?_⟩) (fun h2 => ⟨fun _ => ?_, nf⟩)
    · refine t_inI hZ w 0 2 rfl (by decide) (by decide) (fun h4 h5 => ⟨fun _ => ?_, nt⟩) (fun h4 => ⟨nf, fun _ => ?_⟩)
      · rw [if_pos ⟨(inI_iff hw i).mpr h1, ⟨h2, h3⟩, h4, h5⟩] at k
        obtain ⟨j, hj1, hj2, rfl, hj3⟩ := inI_get hw h1
        obtain ⟨v, hv1, hv2, rfl, hv3⟩ := rng_get (w := n) (a := 0) (b := 100) (by omega) h2 h3 (by omega)
        rw [hj3, hv3] at k
        refine ⟨fun h6 => ⟨fun h7 => ?_, fun h7 => ?_⟩, fun h6 => ?_⟩
        · rw [if_neg h6, if_neg h7, ← ec_i (σ := sg σ v) (i := j) (w := 4) hj2 (by decide)] at k
          refine t_spot hZ (w := 4) ?_
          exact t_behind_w hZ hw (by omega) (by omega) k
        · rw [if_neg h6, if_pos h7, ← ec_i (σ := sg σ v) (i := j) (w := 3) hj2 (by decide)] at k
          refine t_spot hZ (w := 3) ?_
          exact t_behind_w hZ hw (by omega) (by omega) k
        · rw [if_pos h6, ← ec_i (σ := sg σ v) (i := j) (w := 1) hj2 (by decide)] at k
          refine t_spot hZ (w := 1) ?_
          exact t_behind_w hZ hw (by omega) (by omega) k
      · rw [if_neg (fun z => h4 z.2.2)] at k
        exact t_finds hZ 0 (by decide) rfl (k _ _)
    · rw [if_neg (fun z => h2 z.2.1)] at k
      exact t_finds hZ 0 (by decide) rfl (k _ _)
  · rw [if_neg (fun z => h1 ((inI_iff hw i).mp z.1))] at k
    exact t_finds hZ 0 (by decide) rfl (k _ _)
