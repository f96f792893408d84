/-! THE REFERENCE'S CALLS, fifth part: meets, well, cold -/
theorem fst1_s {p : Nat → Bool} {a d : Nat} : fst1 p a (d + 1) = if p a = true then a else fst1 p (a + 1) d := rfl
theorem fst1_rng (p : Nat → Bool) : ∀ d a, a ≤ fst1 p a d ∧ fst1 p a d ≤ a + d
  | 0, a => ⟨Nat.le_refl _, Nat.le_refl _⟩
  | d + 1, a => by
    rw [fst1_s]
    by_cases h : p a = true
    · rw [if_pos h]; omega
    · rw [if_neg h]
      have := fst1_rng p d (a + 1)
      omega
set_option maxRecDepth 100000 in
set_option maxHeartbeats 400000 in
theorem t_meets_1 {SM : zC} {SF : Nat → zQ → zP} (hZ : zZ SM SF) {Q : zQ} {x : zXs} {σ : zS} {s g F : Nat → Int32} {q : zMq} {a b : Int32} {o : Option Value} {m : Nat} (hm : 1 ≤ m) (hm2 : m ≤ 100) (k : ∀ as' g', Q (some (.int (nI m))) (gh x (ec σ, as', g', F, q))) : SF mn_M_meets Q 70 [some (.ref 43), some (.int a), some (.int b), some (.int (nI m)), some (.int 1), o] [] (0, 0) (gh x (s, ec σ, g, F, q)) := by
  refine zgo hZ 999 60 rfl ?_
  refine ⟨nt, fun _ => ?_⟩
  refine t_takesBack (s := s) (as := ec σ) (ks := q.1) (ot := q.2.1) (q := q.2.2) (g := g) (F := F) hZ ?_
  refine ⟨fun _ => k _ _, fun h => ?_⟩
  exact absurd h (nI_ne0 (by omega) (by omega))
set_option maxRecDepth 100000 in
set_option maxHeartbeats 400000 in
theorem t_meets_0 {SM : zC} {SF : Nat → zQ → zP} (hZ : zZ SM SF) {Q : zQ} {x : zXs} {σ : zS} {s g F : Nat → Int32} {q : zMq} {a b n : Int32} {o : Option Value} (k : ∀ as' g', Q (some (.int (-1000000004))) (gh x (ec σ, as', g', upd F 3 (F 3 + 1), q))) : SF mn_M_meets Q 70 [some (.ref 43), some (.int a), some (.int b), some (.int n), some (.int 0), o] [] (0, 0) (gh x (s, ec σ, g, F, q)) := by
  refine zgo hZ 999 60 rfl ?_
  refine ⟨fun _ => ?_, nf⟩
  refine t_takesBack (s := s) (as := ec σ) (ks := q.1) (ot := q.2.1) (q := q.2.2) (g := g) (F := F) hZ ?_
  refine ⟨nf, fun _ => ?_⟩
  exact t_finds hZ 3 (by decide) rfl (k _ _)
set_option maxRecDepth 100000 in
set_option maxHeartbeats 400000 in
theorem t_meets_l {SM : zC} {SF : Nat → zQ → zP} (hZ : zZ SM SF) {Q : zQ} {x : zXs} {σ : zS} {g F : Nat → Int32} {q : zMq} {D c : Nat} {i : Int32} (hw : wf D σ) (hD : D ≤ 17000) (hc : c < nc σ) {p : Nat → Bool} {f0 : Nat} (hp : ∀ n, p n = decide (gg σ n c = i))
    (k : ∀ as' g', Q (some (.int (if f0 = 101 then fnx (-1000000004) 3 σ F else (nI (f0), σ, F)).1)) (gh x (ec (if f0 = 101 then fnx (-1000000004) 3 σ F else (nI (f0), σ, F)).2.1, as', g', (if f0 = 101 then fnx (-1000000004) 3 σ F else (nI (f0), σ, F)).2.2, q))) :
    ∀ d j o, j + d = 100 → f0 = fst1 p (j + 1) d → SF mn_M_meets Q 32 [some (.ref 43), some (.int (nI c)), some (.int i), some (.int (nI j)), some (.int 0), o] [] (0, 0) (gh x (ec (sus (σ, g, 0) j).1, ec σ, (sus (σ, g, 0) j).2.1, F, q)) := by
  have h8 := hw.2.2.2.2.2
  intro d
  induction d with
  | zero =>
    intro j o hj hf
    refine zgo hZ 70 60 rfl ?_
    refine ⟨fun _ => ?_, fun h => absurd ((ile (a := 100) (m := 100) rfl rfl (by omega) (by omega)).mpr (by omega)) h⟩
    have hf : f0 = 101 := by rw [hf, show j = 100 by omega]; rfl
    rw [if_pos hf] at k
    exact t_meets_0 hZ k
  | succ d ih =>
    intro j o hj hf
    refine zgo hZ 32 60 rfl ?_
    refine ⟨fun h => ?_, fun _ => ⟨nf, fun _ => ?_⟩⟩
    · have := (ile (a := 100) (m := 100) rfl rfl (by omega) (by omega)).mp h
      omega
    · refine t_sunday hZ (sus_wf (H := (σ, g, 0)) hw j (by omega)).1 (by omega) ?_
      have eg : (su (sus (σ, g, 0) j)).2.1 c = gg σ (j + 1) c := sus_gg hw g 0 (by omega) hc
      rw [fst1_s] at hf
      refine ⟨c, by omega, rfl, fun h1 => ?_, fun h1 => ?_⟩
      · have h1 : ¬ gg σ (j + 1) c = i := by rw [← eg]; exact h1
        rw [hp, if_neg (by rw [decide_eq_true_eq]; exact h1)] at hf
        have h2 := ih (j + 1) o (by omega) hf
        rw [← nI_1] at h2
        exact h2
      · have h1 : gg σ (j + 1) c = i := by rw [← eg]; exact h1
        rw [hp, if_pos (by rw [decide_eq_true_eq]; exact h1)] at hf
        rw [hf, if_neg (by omega)] at k
        have key : ∀ s' g', SF mn_M_meets Q 32 [some (.ref 43), some (.int (nI c)), some (.int i), some (.int (nI (j + 1))), some (.int 1), o] [] (0, 0) (gh x (s', ec σ, g', F, q)) := by
          intro s' g'
          refine zgo hZ 70 60 rfl ?_
          exact ⟨fun _ => t_meets_1 hZ (by omega) (by omega) k, fun _ => ⟨fun _ => t_meets_1 hZ (by omega) (by omega) k, nt⟩⟩
        rw [← nI_1] at key
        exact key _ _
set_option maxRecDepth 100000 in
set_option maxHeartbeats 400000 in
theorem m_meets {SM : zC} {SF : Nat → zQ → zP} (hZ : zZ SM SF) {Q : zQ} {x : zXs} {σ : zS} {as g F : Nat → Int32} {q : zMq} {D : Nat} (hw : wf D σ) (hD : D ≤ 17000) {c i : Int32} (k : ∀ as' g', Q (some (.int (sp_meets σ F c i).1)) (gh x (ec (sp_meets σ F c i).2.1, as', g', (sp_meets σ F c i).2.2, q))) : SM mn_M_meets [.ref 43, .int c, .int i] (gh x (ec σ, as, g, F, q)) Q := by
  unfold sp_meets at k
  refine zin hZ 32 60 rfl rfl rfl ?_
  refine t_isCouple hZ hw.2.2.2.2.1 hw.2.2.2.2.2 (fun h1 => ⟨nt, fun _ => ?_⟩) (fun h1 => ⟨fun _ => ?_, nf⟩)
  · refine t_isInlaw hZ hw.2.2.2.1.1 hw.2.2.2.1.2 (fun h2 => ⟨fun _ => ?_, nt⟩) (fun h2 => ⟨nf, fun _ => ?_⟩)
    · rw [if_pos ⟨(inC_iff hw c).mpr h1, (inI_iff hw i).mpr h2⟩] at k
      obtain ⟨j, hj1, hj2, rfl, hj3⟩ := inC_get hw h1
      rw [hj3] at k
      refine t_laysAside (ks := q.1) (ot := q.2.1) (q := q.2.2) hZ ?_
      exact t_meets_l (g := g) (q := q) hZ hw hD hj1 (fun n => rfl) k 100 0 none (by omega) rfl
    · rw [if_neg (fun z => h2 ((inI_iff hw i).mp z.2))] at k
      exact t_finds hZ 0 (by decide) rfl (k _ _)
  · rw [if_neg (fun z => h1 ((inC_iff hw c).mp z.1))] at k
    exact t_finds hZ 0 (by decide) rfl (k _ _)
-- well
set_option maxRecDepth 100000 in
set_option maxHeartbeats 400000 in
theorem t_well_x {SM : zC} {SF : Nat → zQ → zP} (hZ : zZ SM SF) {Q : zQ} {x : zXs} {σ : zS} {s g F : Nat → Int32} {q : zMq} {a b : Int32} {o : Option Value} {m : Nat} (hm : m ≤ 101) (k : ∀ as' g', Q (some (.int (if m = 101 then fnx (-1000000004) 3 σ F else (nI m, σ, F)).1)) (gh x (ec (if m = 101 then fnx (-1000000004) 3 σ F else (nI m, σ, F)).2.1, as', g', (if m = 101 then fnx (-1000000004) 3 σ F else (nI m, σ, F)).2.2, q))) : SF mn_M_well Q 61 [some (.ref 43), some (.int a), some (.int b), some (.int (nI m)), o] [] (0, 0) (gh x (s, ec σ, g, F, q)) := by
  refine zgo hZ 999 60 rfl ?_
  refine t_takesBack (s := s) (as := ec σ) (ks := q.1) (ot := q.2.1) (q := q.2.2) (g := g) (F := F) hZ ?_
  refine ⟨fun h => ?_, fun h => ?_⟩
  · have := (ile (b := 100) (n := 100) rfl rfl (by omega) (by omega)).mp h
    rw [if_neg (by omega)] at k
    exact k _ _
  · have h2 : m = 101 := by
      rcases Nat.lt_or_ge m 101 with z | z
      · exact absurd ((ile (b := 100) (n := 100) rfl rfl (by omega) (by omega)).mpr (by omega)) h
      · omega
    rw [if_pos h2] at k
    exact t_finds hZ 3 (by decide) rfl (k _ _)
set_option maxRecDepth 100000 in
set_option maxHeartbeats 400000 in
theorem t_well_l {SM : zC} {SF : Nat → zQ → zP} (hZ : zZ SM SF) {Q : zQ} {x : zXs} {σ : zS} {g F : Nat → Int32} {q : zMq} {D c : Nat} {v : Int32} (hw : wf D σ) (hD : D ≤ 17000) (hc : c < 8) {p : Nat → Bool} {f0 : Nat} (hp : ∀ n, p n = decide (v ≤ sg σ n 6 c))
    (k : ∀ as' g', Q (some (.int (if f0 = 101 then fnx (-1000000004) 3 σ F else (nI (f0), σ, F)).1)) (gh x (ec (if f0 = 101 then fnx (-1000000004) 3 σ F else (nI (f0), σ, F)).2.1, as', g', (if f0 = 101 then fnx (-1000000004) 3 σ F else (nI (f0), σ, F)).2.2, q))) :
    ∀ d j o, j + d = 101 → f0 = fst1 p j d → SF mn_M_well Q 35 [some (.ref 43), some (.int (nI c)), some (.int v), some (.int (nI j)), o] [] (0, 0) (gh x (ec (sus (σ, g, 0) j).1, ec σ, (sus (σ, g, 0) j).2.1, F, q)) := by
  intro d
  induction d with
  | zero =>
    intro j o hj hf
    have hj : j = 101 := by omega
    subst hj
    rw [show f0 = 101 from hf] at k
    refine zgo hZ 61 60 rfl ?_
    refine ⟨fun _ => t_well_x hZ (by omega) k, fun h => absurd ((ilt (a := 100) (m := 100) rfl rfl (by omega) (by omega)).mpr (by omega)) h⟩
  | succ d ih =>
    intro j o hj hf
    rw [fst1_s] at hf
    have es := sus_sg σ g 0 j
    -- one look
    by_cases h1 : v ≤ sg σ j 6 c
    · rw [hp, if_pos (by rw [decide_eq_true_eq]; exact h1)] at hf
      rw [hf] at k
      refine zgo hZ 61 60 rfl ?_
      refine ⟨fun h => ?_, fun _ => ?_⟩
      · have := (ilt (a := 100) (m := 100) rfl rfl (by omega) (by omega)).mp h
        omega
      · refine t_c1 hZ hc ?_
        refine ⟨fun _ => t_well_x hZ (by omega) k, fun h => absurd (by rw [es]; exact h1) h⟩
    · rw [hp, if_neg (by rw [decide_eq_true_eq]; exact h1)] at hf
      have h2 := ih (j + 1) o (by omega) hf
      rw [← nI_1] at h2
      refine zgo hZ 35 60 rfl ?_
      refine ⟨fun h => ?_, fun _ => ?_⟩
      · have := (ilt (a := 100) (m := 100) rfl rfl (by omega) (by omega)).mp h
        omega
      · refine t_c1 hZ hc ?_
        refine ⟨fun h => absurd (by rw [← es]; exact h) h1, fun _ => ?_⟩
        exact t_sunday hZ (sus_wf (H := (σ, g, 0)) hw j (by omega)).1 (by omega) h2
set_option maxRecDepth 100000 in
set_option maxHeartbeats 400000 in
theorem m_well {SM : zC} {SF : Nat → zQ → zP} (hZ : zZ SM SF) {Q : zQ} {x : zXs} {σ : zS} {as g F : Nat → Int32} {q : zMq} {D : Nat} (hw : wf D σ) (hD : D ≤ 17000) {c v : Int32} (k : ∀ as' g', Q (some (.int (sp_well σ F c v).1)) (gh x (ec (sp_well σ F c v).2.1, as', g', (sp_well σ F c v).2.2, q))) : SM mn_M_well [.ref 43, .int c, .int v] (gh x (ec σ, as, g, F, q)) Q := by
  unfold sp_well at k
  refine zin hZ 35 60 rfl rfl rfl ?_
  refine t_isCouple hZ hw.2.2.2.2.1 hw.2.2.2.2.2 (fun h1 => ⟨nt, fun _ => ?_⟩) (fun h1 => ⟨fun _ => ?_, nf⟩)
  · refine t_inI hZ v (-999) 999 rfl (by decide) (by decide) (fun h2 h3 => ⟨fun _ => ?_, nt⟩) (fun h2 => ⟨nf, fun _ => ?_⟩)
    · rw [if_pos ⟨(inC_iff hw c).mpr h1, h2, h3⟩] at k
      obtain ⟨j, hj1, hj2, rfl, hj3⟩ := inC_get hw h1
      rw [hj3] at k
      refine t_laysAside (ks := q.1) (ot := q.2.1) (q := q.2.2) hZ ?_
      exact t_well_l (g := g) (q := q) hZ hw hD hj2 (fun n => rfl) k 101 0 none (by omega) rfl
    · rw [if_neg (fun z => h2 z.2)] at k
      exact t_finds hZ 0 (by decide) rfl (k _ _)
  · rw [if_neg (fun z => h1 ((inC_iff hw c).mp z.1))] at k
    exact t_finds hZ 0 (by decide) rfl (k _ _)
-- cold
set_option maxRecDepth 100000 in
set_option maxHeartbeats 400000 in
theorem t_cold_x {SM : zC} {SF : Nat → zQ → zP} (hZ : zZ SM SF) {Q : zQ} {x : zXs} {σ : zS} {s g F : Nat → Int32} {q : zMq} {a : Int32} {o : Option Value} {m : Nat} (hm : m ≤ 101) (k : ∀ as' g', Q (some (.int (if m = 101 then fnx (-1000000004) 3 σ F else (nI m, σ, F)).1)) (gh x (ec (if m = 101 then fnx (-1000000004) 3 σ F else (nI m, σ, F)).2.1, as', g', (if m = 101 then fnx (-1000000004) 3 σ F else (nI m, σ, F)).2.2, q))) : SF mn_M_cold Q 46 [some (.ref 43), some (.int a), some (.int (nI m)), o] [] (0, 0) (gh x (s, ec σ, g, F, q)) := by
  refine zgo hZ 999 60 rfl ?_
  refine t_takesBack (s := s) (as := ec σ) (ks := q.1) (ot := q.2.1) (q := q.2.2) (g := g) (F := F) hZ ?_
  refine ⟨fun h => ?_, fun h => ?_⟩
  · have := (ile (b := 100) (n := 100) rfl rfl (by omega) (by omega)).mp h
    rw [if_neg (by omega)] at k
    exact k _ _
  · have h2 : m = 101 := by
      rcases Nat.lt_or_ge m 101 with z | z
      · exact absurd ((ile (b := 100) (n := 100) rfl rfl (by omega) (by omega)).mpr (by omega)) h
      · omega
    rw [if_pos h2] at k
    exact t_finds hZ 3 (by decide) rfl (k _ _)
set_option maxRecDepth 100000 in
set_option maxHeartbeats 400000 in
theorem t_cold_l {SM : zC} {SF : Nat → zQ → zP} (hZ : zZ SM SF) {Q : zQ} {x : zXs} {σ : zS} {g F : Nat → Int32} {q : zMq} {D c : Nat} (hw : wf D σ) (hD : D ≤ 17000) (hc : c < 8) {p : Nat → Bool} {f0 : Nat} (hp : ∀ n, p n = decide (sg σ n 1 c = 0))
    (k : ∀ as' g', Q (some (.int (if f0 = 101 then fnx (-1000000004) 3 σ F else (nI (f0), σ, F)).1)) (gh x (ec (if f0 = 101 then fnx (-1000000004) 3 σ F else (nI (f0), σ, F)).2.1, as', g', (if f0 = 101 then fnx (-1000000004) 3 σ F else (nI (f0), σ, F)).2.2, q))) :
    ∀ d j o, j + d = 101 → f0 = fst1 p j d → SF mn_M_cold Q 21 [some (.ref 43), some (.int (nI c)), some (.int (nI j)), o] [] (0, 0) (gh x (ec (sus (σ, g, 0) j).1, ec σ, (sus (σ, g, 0) j).2.1, F, q)) := by
  have z0 : (0 : Int32).toInt = 0 := by decide
  intro d
  induction d with
  | zero =>
    intro j o hj hf
    have hj : j = 101 := by omega
    subst hj
    rw [show f0 = 101 from hf] at k
    refine zgo hZ 46 60 rfl ?_
    refine ⟨fun _ => t_cold_x hZ (by omega) k, fun h => absurd ((ilt (a := 100) (m := 100) rfl rfl (by omega) (by omega)).mpr (by omega)) h⟩
  | succ d ih =>
    intro j o hj hf
    rw [fst1_s] at hf
    have es := sus_sg σ g 0 j
    have hb := ((sg_wf hw (n := j) (by omega)).1.1 c hc).2.1
    by_cases h1 : sg σ j 1 c = 0
    · rw [hp, if_pos (by rw [decide_eq_true_eq]; exact h1)] at hf
      rw [hf] at k
      refine zgo hZ 46 60 rfl ?_
      refine ⟨fun h => ?_, fun _ => ?_⟩
      · have := (ilt (a := 100) (m := 100) rfl rfl (by omega) (by omega)).mp h
        omega
      · refine t_i1 hZ hc ?_
        refine ⟨fun _ => t_cold_x hZ (by omega) k, fun h => absurd (by rw [es, h1]; decide) h⟩
    · rw [hp, if_neg (by rw [decide_eq_true_eq]; exact h1)] at hf
      have h2 := ih (j + 1) o (by omega) hf
      rw [← nI_1] at h2
      refine zgo hZ 21 60 rfl ?_
      refine ⟨fun h => ?_, fun _ => ?_⟩
      · have := (ilt (a := 100) (m := 100) rfl rfl (by omega) (by omega)).mp h
        omega
      · refine t_i1 hZ hc ?_
        refine ⟨fun h => ?_, fun _ => ?_⟩
        · rw [es, zle, z0] at h
          exact absurd (by rw [zeq, z0]; omega) h1
        · exact t_sunday hZ (sus_wf (H := (σ, g, 0)) hw j (by omega)).1 (by omega) h2
set_option maxRecDepth 100000 in
set_option maxHeartbeats 400000 in
theorem m_cold {SM : zC} {SF : Nat → zQ → zP} (hZ : zZ SM SF) {Q : zQ} {x : zXs} {σ : zS} {as g F : Nat → Int32} {q : zMq} {D : Nat} (hw : wf D σ) (hD : D ≤ 17000) {i : Int32} (k : ∀ as' g', Q (some (.int (sp_cold σ F i).1)) (gh x (ec (sp_cold σ F i).2.1, as', g', (sp_cold σ F i).2.2, q))) : SM mn_M_cold [.ref 43, .int i] (gh x (ec σ, as, g, F, q)) Q := by
  unfold sp_cold at k
  refine zin hZ 21 60 rfl rfl rfl ?_
  refine t_isInlaw hZ hw.2.2.2.1.1 hw.2.2.2.1.2 (fun h1 => ⟨fun _ => ?_, nt⟩) (fun h1 => ⟨nf, fun _ => ?_⟩)
  · rw [if_pos ((inI_iff hw i).mpr h1)] at k
    obtain ⟨j, hj1, hj2, rfl, hj3⟩ := inI_get hw h1
    rw [hj3] at k
    refine t_laysAside (ks := q.1) (ot := q.2.1) (q := q.2.2) hZ ?_
    exact t_cold_l (g := g) (q := q) hZ hw hD hj2 (fun n => rfl) k 101 0 none (by omega) rfl
  · rw [if_neg (fun z => h1 ((inI_iff hw i).mp z))] at k
    exact t_finds hZ 0 (by decide) rfl (k _ _)
