/-! THE REFERENCE'S CALLS, seventh part: warm, sit, lonely -/
set_option maxRecDepth 100000 in
set_option maxHeartbeats 400000 in
theorem t_warm_x {SM : zC} {SF : Nat → zQ → zP} (hZ : zZ SM SF) {Q : zQ} {x : zXs} {σ τ : zS} {as g F : Nat → Int32} {q : zMq} {a b c u : Int32} {o : Nat} {wh m : Nat} (h68 : wh < 68) (hm : m ≤ 100) (hu : upd (ec τ) wh (ec σ wh) = ec σ) (e : u = if m = 100 then -1 else nI m) (k : ∀ as' g', Q (some (.int (if m = 100 then fnx (-1000000004) 3 σ F else (nI m, σ, F)).1)) (gh x (ec (if m = 100 then fnx (-1000000004) 3 σ F else (nI m, σ, F)).2.1, as', g', (if m = 100 then fnx (-1000000004) 3 σ F else (nI m, σ, F)).2.2, q))) : SF mn_M_warm Q 105 [some (.ref 43), some (.int a), some (.int b), some (.int c), some (.int (nI wh)), some (.int (ec σ wh)), some (.int u), some (.int (nI o))] [] (0, 0) (gh x (ec τ, as, g, F, q)) := by
  refine zgo hZ 999 60 rfl ?_
  refine ⟨wh, h68, rfl, ?_⟩
  rw [hu]
  by_cases h : m = 100
  · rw [if_pos h] at e k
    subst e
    refine ⟨fun z => absurd z (by decide), fun _ => ?_⟩
    exact t_finds (s := ec σ) (as := as) (g := g) (F := F) (q := q) hZ 3 (by decide) rfl (k _ _)
  · rw [if_neg h] at e k
    subst e
    refine ⟨fun _ => k _ _, fun z => absurd (nI_pos' (by omega)) z⟩
set_option maxRecDepth 100000 in
set_option maxHeartbeats 400000 in
theorem t_warm_l {SM : zC} {SF : Nat → zQ → zP} (hZ : zZ SM SF) {Q : zQ} {x : zXs} {σ : zS} {F : Nat → Int32} {q : zMq} {D i n : Nat} {v : Int32} (hw : wf D σ) (hD : D + n ≤ 17000) (hi : i < 8) {p : Nat → Bool} {f0 : Nat} (hp : ∀ m, p m = decide (v ≤ sg (s2 σ 1 i (nI m)) n 4 i)) (hf0 : f0 ≤ 100)
    (k : ∀ as' g', Q (some (.int (if f0 = 100 then fnx (-1000000004) 3 σ F else (nI f0, σ, F)).1)) (gh x (ec (if f0 = 100 then fnx (-1000000004) 3 σ F else (nI f0, σ, F)).2.1, as', g', (if f0 = 100 then fnx (-1000000004) 3 σ F else (nI f0, σ, F)).2.2, q))) :
    ∀ d m τ as g, m + d = 100 → (τ = σ ∨ ∃ w, τ = s2 σ 1 i (nI w)) → f0 = fst1 p m d → SF mn_M_warm Q 56 [some (.ref 43), some (.int (nI i)), some (.int (nI n)), some (.int v), some (.int (nI (4 + 5 * i + 1))), some (.int (ec σ (4 + 5 * i + 1))), some (.int (-1)), some (.int (nI m))] [] (0, 0) (gh x (ec τ, as, g, F, q)) := by
  have hback : ∀ τ, (τ = σ ∨ ∃ w, τ = s2 σ 1 i (nI w)) → upd (ec τ) (4 + 5 * i + 1) (ec σ (4 + 5 * i + 1)) = ec σ := by
    intro τ ht
    rw [ec_ui τ hi (by decide), ec_i hi (by decide)]
    rcases ht with rfl | ⟨w, rfl⟩
    · rw [s2_id]
    · rw [s2_2, s2_id]
  intro d
  induction d with
  | zero =>
    intro m τ as g hm ht hf
    have hm : m = 100 := by omega
    subst hm
    have hf : f0 = 100 := hf
    refine zgo hZ 105 60 rfl ?_
    refine ⟨fun _ => ?_, fun h => absurd ((ilt (a := 99) (m := 99) rfl rfl (by omega) (by omega)).mpr (by omega)) h⟩
    exact t_warm_x (m := f0) hZ (by omega) hf0 (hback τ ht) (by rw [if_pos hf]) k
  | succ d ih =>
    intro m τ as g hm ht hf
    have hs : upd (ec τ) (4 + 5 * i + 1) (nI m) = ec (s2 σ 1 i (nI m)) := by
      rw [ec_ui τ hi (by decide)]
      rcases ht with rfl | ⟨w, rfl⟩
      · rfl
      · rw [s2_2]
    rw [fst1_s] at hf
    refine zgo hZ 56 90 rfl ?_
    refine ⟨fun h => ?_, fun _ => ⟨fun h => absurd h (by decide), fun _ => ?_⟩⟩
    · have := (ilt (a := 99) (m := 99) rfl rfl (by omega) (by omega)).mp h
      omega
    refine ⟨4 + 5 * i + 1, by omega, rfl, ?_⟩
    rw [hs]
    refine t_spot hZ (w := 4) ?_
    refine t_behind_w hZ (wf_wm hw i (v := m) (by omega)) (by omega) (by omega) (fun as' g' => ?_)
    have e4 : ec (sg (s2 σ 1 i (nI m)) n) (4 + 5 * i + 4) = sg (s2 σ 1 i (nI m)) n 4 i := ec_i hi (by decide)
    refine ⟨fun h1 => ?_, fun h1 => ?_⟩
    · have h1 : sg (s2 σ 1 i (nI m)) n 4 i < v := by rw [← e4]; exact h1
      rw [hp, if_neg (by rw [decide_eq_true_eq]; exact nle_of h1)] at hf
      have h2 := ih (m + 1) (s2 σ 1 i (nI m)) as' g' (by omega) (Or.inr ⟨m, rfl⟩) hf
      rw [← nI_1 m] at h2
      exact h2
    · have h1 : ¬ sg (s2 σ 1 i (nI m)) n 4 i < v := by rw [← e4]; exact h1
      rw [hp, if_pos (by rw [decide_eq_true_eq]; exact le_of h1)] at hf
      have key : SF mn_M_warm Q 56 [some (.ref 43), some (.int (nI i)), some (.int (nI n)), some (.int v), some (.int (nI (4 + 5 * i + 1))), some (.int (ec σ (4 + 5 * i + 1))), some (.int (nI m)), some (.int (nI (m + 1)))] [] (0, 0) (gh x (ec (s2 σ 1 i (nI m)), as', g', F, q)) := by
        have hx := fun o => t_warm_x (m := f0) (o := o) (u := nI m) (τ := s2 σ 1 i (nI m)) (a := nI i) (b := nI n) (c := v) (as := as') (g := g') hZ (by omega) hf0 (hback _ (Or.inr ⟨m, rfl⟩)) (by rw [hf, if_neg (by omega)]) k
        refine zgo hZ 105 60 rfl ?_
        exact ⟨fun _ => hx _, fun _ => ⟨fun _ => hx _, fun z => absurd (nI_pos' (by omega)) z⟩⟩
      rw [← nI_1 m] at key
      exact key
set_option maxRecDepth 100000 in
set_option maxHeartbeats 400000 in
theorem m_warm {SM : zC} {SF : Nat → zQ → zP} (hZ : zZ SM SF) {Q : zQ} {x : zXs} {σ : zS} {as g F : Nat → Int32} {q : zMq} {D : Nat} (hw : wf D σ) (hD : D ≤ 16000) {i n v : Int32} (k : ∀ as' g', Q (some (.int (sp_warm σ F i n v).1)) (gh x (ec (sp_warm σ F i n v).2.1, as', g', (sp_warm σ F i n v).2.2, q))) : SM mn_M_warm [.ref 43, .int i, .int n, .int v] (gh x (ec σ, as, g, F, q)) Q := by
  unfold sp_warm at k
  refine zin hZ 56 60 rfl rfl rfl ?_
  refine t_isInlaw hZ hw.2.2.2.1.1 hw.2.2.2.1.2 (fun h1 => ⟨nt, fun _ => ?_⟩) (fun h1 => ⟨fun _ => ?_, nf⟩)
  · refine t_isSoon hZ (fun h2 h3 => ⟨nt, fun _ => ?_⟩) (fun h2 => ⟨fun _ => ?_, nf⟩)
    · refine t_inI hZ v 0 9999 rfl (by decide) (by decide) (fun h4 h5 => ⟨fun _ => ?_, nt⟩) (fun h4 => ⟨nf, fun _ => ?_⟩)
      · rw [if_pos ⟨(inI_iff hw i).mpr h1, ⟨h2, h3⟩, h4, h5⟩] at k
        obtain ⟨j, hj1, hj2, rfl, hj3⟩ := inI_get hw h1
        obtain ⟨m, hv1, hv2, rfl, hv3⟩ := rng_get (w := n) (a := 1) (b := 60) (by omega) h2 h3 (by omega)
        rw [hj3, hv3] at k
        refine t_spot hZ (w := 1) ?_
        refine ⟨4 + 5 * j + 1, by omega, rfl, ?_⟩
        exact t_warm_l hZ hw (by omega) hj2 (fun m => rfl) (by have := fst1_rng (fun k => decide (v ≤ sg (s2 σ 1 j (nI k)) m 4 j)) 100 0; omega) k 100 0 σ as g (by omega) (Or.inl rfl) rfl
      · rw [if_neg (fun z => h4 z.2.2)] at k
        exact t_finds hZ 0 (by decide) rfl (k _ _)
    · rw [if_neg (fun z => h2 z.2.1)] at k
      exact t_finds hZ 0 (by decide) rfl (k _ _)
  · rw [if_neg (fun z => h1 ((inI_iff hw i).mp z.1))] at k
    exact t_finds hZ 0 (by decide) rfl (k _ _)
theorem sitb_s (σ : zS) (n k : Nat) : sitb σ n (k + 1) = if σ 2 k = 0 ∧ (sitb σ n k = -1 ∨ zsum (sg (s2 σ 2 (ix (sitb σ n k)) 1) n 6) (nc σ) < zsum (sg (s2 σ 2 k 1) n 6) (nc σ)) then nI k else sitb σ n k := rfl
theorem sitb_rng (σ : zS) (n : Nat) : ∀ k, sitb σ n k = -1 ∨ ∃ b, b < k ∧ sitb σ n k = nI b
  | 0 => Or.inl rfl
  | k + 1 => by
    rw [sitb_s]
    by_cases h : σ 2 k = 0 ∧ (sitb σ n k = -1 ∨ zsum (sg (s2 σ 2 (ix (sitb σ n k)) 1) n 6) (nc σ) < zsum (sg (s2 σ 2 k 1) n 6) (nc σ))
    · rw [if_pos h]; exact Or.inr ⟨k, by omega, rfl⟩
    · rw [if_neg h]
      rcases sitb_rng σ n k with e | ⟨b, hb, e⟩
      · exact Or.inl e
      · exact Or.inr ⟨b, by omega, e⟩
set_option maxRecDepth 100000 in
set_option maxHeartbeats 400000 in
theorem t_sit_l {SM : zC} {SF : Nat → zQ → zP} (hZ : zZ SM SF) {Q : zQ} {x : zXs} {σ : zS} {F : Nat → Int32} {q : zMq} {D n : Nat} (hw : wf D σ) (hD : D + n ≤ 17000)
    (k : ∀ as' g', Q (some (.int (if sitb σ n (nn σ) = -1 then fnx (-1000000004) 3 σ F else (sitb σ n (nn σ), σ, F)).1)) (gh x (ec (if sitb σ n (nn σ) = -1 then fnx (-1000000004) 3 σ F else (sitb σ n (nn σ), σ, F)).2.1, as', g', (if sitb σ n (nn σ) = -1 then fnx (-1000000004) 3 σ F else (sitb σ n (nn σ), σ, F)).2.2, q))) :
    ∀ d i m o as g, i + d = nn σ → ((sitb σ n i = -1 ∧ m = -99999) ∨ (¬ sitb σ n i = -1 ∧ m = zsum (sg (s2 σ 2 (ix (sitb σ n i)) 1) n 6) (nc σ))) → SF mn_M_sit Q 22 [some (.ref 43), some (.int (nI n)), some (.int (sitb σ n i)), some (.int m), some (.int (nI i)), o] [] (0, 0) (gh x (ec σ, as, g, F, q)) := by
  have h8 := hw.2.2.2.1.2
  have e2 : (ec σ 2 : Int32) = nI (nn σ) := by rw [ec_c (by decide), ← hw.2.2.2.1.1]
  intro d
  induction d with
  | zero =>
    intro i m o as g hi hI
    have hi : i = nn σ := by omega
    subst hi
    refine zgo hZ 999 60 rfl ?_
    refine ⟨2, by decide, rfl, fun _ => ?_, fun h => absurd ((ile e2 rfl (by omega) (by omega)).mpr (by omega)) h⟩
    refine ⟨fun h => ?_, fun h => ?_⟩
    · have hb : ¬ sitb σ n (nn σ) = -1 := fun z => by rw [z] at h; exact absurd h (by decide)
      rw [if_neg hb] at k
      exact k _ _
    · have hb : sitb σ n (nn σ) = -1 := by
        rcases sitb_rng σ n (nn σ) with z | ⟨b, hb, z⟩
        · exact z
        · rw [z] at h; exact absurd (nI_pos' (by omega)) h
      rw [if_pos hb] at k
      exact t_finds hZ 3 (by decide) rfl (k _ _)
  | succ d ih =>
    intro i m o as g hi hI
    have i8 : i < 8 := by omega
    have hnx : ∀ b m o as g, b = sitb σ n (i + 1) → ((b = -1 ∧ m = -99999) ∨ (¬ b = -1 ∧ m = zsum (sg (s2 σ 2 (ix b) 1) n 6) (nc σ))) → SF mn_M_sit Q 22 [some (.ref 43), some (.int (nI n)), some (.int b), some (.int m), some (.int (nI i + 1)), o] [] (0, 0) (gh x (ec σ, as, g, F, q)) := by
      intro b m o as g e hI
      subst e
      rw [nI_1]
      exact ih (i + 1) m o as g (by omega) hI
    rw [sitb_s] at hnx
    generalize sitb σ n i = b at hI hnx
    refine zgo hZ 22 90 rfl ?_
    refine ⟨2, by decide, rfl, fun h => ?_, fun _ => ?_⟩
    · have := (ile e2 rfl (by omega) (by omega)).mp h
      omega
    refine t_i2 hZ i8 ?_
    refine ⟨fun h1 => ?_, fun h1 => ?_⟩
    · exact hnx b m o as g (by rw [if_neg (fun z => h1 z.1)]) hI
    · have hws := wf_st hw i
      have hnc := (nn_s2 σ (f := 2) (by decide) i 1).2.1
      have hback : upd (ec (s2 σ 2 i 1)) (4 + 5 * i + 2) 0 = ec σ := by
        rw [ec_ui _ i8 (by decide), s2_2, ← show σ 2 i = 0 from h1, s2_id]
      have hv : (-99999 : Int32) < zsum (sg (s2 σ 2 i 1) n 6) (nc σ) := by
        have h4 := (sg_wf hws (n := n) (by omega)).1.1
        have hc8 := hw.2.2.2.2.2
        have h5 := (zsum_rng (f := sg (s2 σ 2 i 1) n 6) (lo := -999) (hi := 999) (by omega) (by omega) (nc σ) hc8 (fun j hj => (h4 j (by omega)).2.2.2.2.2.2.1)).1
        exact lt99 (by omega)
      refine t_spot hZ (w := 2) ?_
      refine ⟨4 + 5 * i + 2, by omega, rfl, ?_⟩
      rw [ec_ui σ i8 (by decide)]
      refine t_behind_1 (σ := s2 σ 2 i 1) (F := F) (q := q) (as := as) (g := g) hZ hws (by omega) (fun as' g' => ?_)
      rw [hnc]
      refine t_spot hZ (w := 2) ?_
      refine ⟨4 + 5 * i + 2, by omega, rfl, ?_⟩
      rw [hback]
      refine ⟨fun h2 => ⟨fun h3 => ?_, fun h3 => absurd h2 h3⟩, fun h2 => ⟨fun h3 => absurd h3 h2, fun h3 => ?_⟩⟩
      · rcases hI with ⟨rfl, rfl⟩ | ⟨hb, rfl⟩
        · exact absurd h2 (nle_of hv)
        · exact hnx b _ (some (.int (zsum (sg (s2 σ 2 i 1) n 6) (nc σ)))) as' g' (by rw [if_neg (fun z => z.2.elim hb (nlt_of h2))]) (Or.inr ⟨hb, rfl⟩)
      · refine hnx (nI i) _ (some (.int (zsum (sg (s2 σ 2 i 1) n 6) (nc σ)))) as' g' ?_ (Or.inr ⟨nI_ne_m1 (by omega), by rw [ix_nI (by omega)]⟩)
        rcases hI with ⟨rfl, rfl⟩ | ⟨hb, rfl⟩
        · rw [if_pos ⟨h1, Or.inl rfl⟩]
        · rw [if_pos ⟨h1, Or.inr (lt_of h2)⟩]
set_option maxRecDepth 100000 in
set_option maxHeartbeats 400000 in
theorem m_sit {SM : zC} {SF : Nat → zQ → zP} (hZ : zZ SM SF) {Q : zQ} {x : zXs} {σ : zS} {as g F : Nat → Int32} {q : zMq} {D : Nat} (hw : wf D σ) (hD : D ≤ 16000) {n : Int32} (k : ∀ as' g', Q (some (.int (sp_sit σ F n).1)) (gh x (ec (sp_sit σ F n).2.1, as', g', (sp_sit σ F n).2.2, q))) : SM mn_M_sit [.ref 43, .int n] (gh x (ec σ, as, g, F, q)) Q := by
  unfold sp_sit at k
  refine zin hZ 22 60 rfl rfl rfl ?_
  refine t_isSoon hZ (fun h2 h3 => ⟨fun _ => ?_, nt⟩) (fun h2 => ⟨nf, fun _ => ?_⟩)
  · rw [if_pos ⟨h2, h3⟩] at k
    obtain ⟨m, hv1, hv2, rfl, hv3⟩ := rng_get (w := n) (a := 1) (b := 60) (by omega) h2 h3 (by omega)
    rw [hv3] at k
    exact t_sit_l hZ hw (by omega) k (nn σ) 0 (-99999) none as g (by omega) (Or.inl ⟨rfl, rfl⟩)
  · rw [if_neg h2] at k
    exact t_finds hZ 0 (by decide) rfl (k _ _)
set_option maxRecDepth 100000 in
set_option maxHeartbeats 400000 in
theorem t_lonely_l {SM : zC} {SF : Nat → zQ → zP} (hZ : zZ SM SF) {Q : zQ} {x : zXs} {σ τ : zS} {g F : Nat → Int32} {q : zMq} {n : Nat} {a : Int32} (hn : τ 8 2 = nI n) (h8 : n ≤ 8) (k : ∀ as' g', Q (some (.int (nI (best (τ 3) n)))) (gh x (ec σ, as', g', F, q))) : ∀ d i, 1 ≤ i → i + d = n → SF mn_M_lonely Q 43 [some (.ref 43), some (.int a), some (.int (nI (best (τ 3) i))), some (.int (nI i))] [] (0, 0) (gh x (ec τ, ec σ, g, F, q)) := by
  have e2 : (ec τ 2 : Int32) = nI n := by rw [ec_c (by decide), hn]
  intro d
  induction d with
  | zero =>
    intro i h1 hi
    have hi : i = n := by omega
    subst hi
    refine zgo hZ 999 60 rfl ?_
    refine ⟨2, by decide, rfl, fun _ => ?_, fun h => absurd ((ile e2 rfl (by omega) (by omega)).mpr (by omega)) h⟩
    exact t_takesBack (s := ec τ) (as := ec σ) (ks := q.1) (ot := q.2.1) (q := q.2.2) (g := g) (F := F) hZ (k _ _)
  | succ d ih =>
    intro i h1 hi
    have h2 := ih (i + 1) (by omega) (by omega)
    have hbl : best (τ 3) i < i := by
      obtain ⟨j, rfl⟩ : ∃ j, i = j + 1 := ⟨i - 1, by omega⟩
      exact best_lt _ j
    rw [best_s, ← nI_1] at h2
    refine zgo hZ 43 60 rfl ?_
    refine ⟨2, by decide, rfl, fun h => ?_, fun _ => ?_⟩
    · have := (ile e2 rfl (by omega) (by omega)).mp h
      omega
    refine t_i3 hZ (by omega) ?_
    refine t_i3 hZ (by omega) ?_
    refine ⟨fun h3 => ?_, fun h3 => ?_⟩
    · rw [if_neg (nlt_of h3)] at h2
      exact h2
    · rw [if_pos (lt_of h3)] at h2
      exact h2
set_option maxRecDepth 100000 in
set_option maxHeartbeats 400000 in
theorem m_lonely {SM : zC} {SF : Nat → zQ → zP} (hZ : zZ SM SF) {Q : zQ} {x : zXs} {σ : zS} {as g F : Nat → Int32} {q : zMq} {D : Nat} (hw : wf D σ) (hD : D ≤ 16000) {n : Int32} (k : ∀ as' g', Q (some (.int (sp_lonely σ F n).1)) (gh x (ec (sp_lonely σ F n).2.1, as', g', (sp_lonely σ F n).2.2, q))) : SM mn_M_lonely [.ref 43, .int n] (gh x (ec σ, as, g, F, q)) Q := by
  have h8 := hw.2.2.2.1.2
  have e2 : (ec σ 2 : Int32) = nI (nn σ) := by rw [ec_c (by decide), ← hw.2.2.2.1.1]
  unfold sp_lonely at k
  refine zin hZ 43 60 rfl rfl rfl ?_
  refine t_isAhead hZ (fun h2 h3 => ⟨fun _ => ?_, nt⟩) (fun h2 => ⟨nf, fun _ => ?_⟩)
  · rw [if_pos ⟨h2, h3⟩] at k
    refine ⟨2, by decide, rfl, fun h4 => ?_, fun h4 => ?_⟩
    · have h5 : nn σ ≠ 0 := fun z => h4 (by show ec σ 2 = 0; rw [e2, z]; rfl)
      rw [if_neg h5] at k
      obtain ⟨v, hv1, hv2, rfl, hv3⟩ := rng_get (w := n) (a := 0) (b := 100) (by omega) h2 h3 (by omega)
      rw [hv3] at k
      refine t_laysAside (ks := q.1) (ot := q.2.1) (q := q.2.2) hZ ?_
      refine t_go (q := q) hZ hw (by omega) (fun g' => ?_)
      obtain ⟨w1, w2, w3, w4⟩ := sg_wf hw (n := v) (by omega)
      have eb : best (sg σ v 3) 1 = 0 := by
        have : best (sg σ v 3) 1 < 1 := best_lt (sg σ v 3) 0
        omega
      have h6 := t_lonely_l (σ := σ) (τ := sg σ v) (g := g') (F := F) (q := q) (n := nn σ) (a := nI v) (x := x) hZ (by rw [w1.2.2.2.1.1, w2]) h8 k (nn σ - 1) 1 (by omega) (by omega)
      rw [eb] at h6
      exact h6
    · have h5 : nn σ = 0 := (nI_eq (b := 0) (by omega) (by omega)).mp (by rw [← e2]; exact h4)
      rw [if_pos h5] at k
      exact t_finds hZ 3 (by decide) rfl (k _ _)
  · rw [if_neg h2] at k
    exact t_finds hZ 0 (by decide) rfl (k _ _)
