/-! THE REFERENCE'S CALLS, sixth part: what is best -/
theorem best_s {f : Nat → Int32} {k : Nat} : best f (k + 1) = if f (best f k) < f k then k else best f k := rfl
theorem best_lt (f : Nat → Int32) : ∀ k, best f (k + 1) < k + 1
  | 0 => by
    rw [best_s]
    show (if f 0 < f 0 then 0 else 0) < 1
    rw [ite_self]; omega
  | k + 1 => by
    have := best_lt f k
    rw [best_s]
    by_cases h : f (best f (k + 1)) < f (k + 1)
    · rw [if_pos h]; omega
    · rw [if_neg h]; omega
theorem zsum_rng {f : Nat → Int32} {lo hi : Int} (h0 : -10000 ≤ lo) (h1 : hi ≤ 10000) : ∀ n, n ≤ 8 → (∀ i, i < n → lo ≤ (f i).toInt ∧ (f i).toInt ≤ hi) → n * lo ≤ (zsum f n).toInt ∧ (zsum f n).toInt ≤ n * hi
  | 0, _, _ => by simp [zsum]
  | n + 1, hn, h => by
    obtain ⟨a1, a2⟩ := zsum_rng h0 h1 n (by omega) (fun i hi => h i (by omega))
    obtain ⟨b1, b2⟩ := h n (by omega)
    have c1 : (n : Int) * lo ≥ -80000 := by
      have h3 : n = 0 ∨ n = 1 ∨ n = 2 ∨ n = 3 ∨ n = 4 ∨ n = 5 ∨ n = 6 ∨ n = 7 := by omega
      rcases h3 with rfl | rfl | rfl | rfl | rfl | rfl | rfl | rfl <;> simp <;> omega
    have c2 : (n : Int) * hi ≤ 80000 := by
      have h3 : n = 0 ∨ n = 1 ∨ n = 2 ∨ n = 3 ∨ n = 4 ∨ n = 5 ∨ n = 6 ∨ n = 7 := by omega
      rcases h3 with rfl | rfl | rfl | rfl | rfl | rfl | rfl | rfl <;> simp <;> omega
    show ((n + 1 : Nat) : Int) * lo ≤ (zsum f n + f n).toInt ∧ (zsum f n + f n).toInt ≤ ((n + 1 : Nat) : Int) * hi
    have e1 : ((n + 1 : Nat) : Int) * lo = n * lo + lo := by rw [Int.natCast_add, Int.add_mul]; simp
    have e2 : ((n + 1 : Nat) : Int) * hi = n * hi + hi := by rw [Int.natCast_add, Int.add_mul]; simp
    rw [zadd (by omega) (by omega), e1, e2]
    omega
theorem m99 : (-99999 : Int32).toInt = -99999 := by decide
set_option maxRecDepth 100000 in
set_option maxHeartbeats 400000 in
theorem t_mostBy_l {SM : zC} {SF : Nat → zQ → zP} (hZ : zZ SM SF) {Q : zQ} {x : zXs} {σ : zS} {τ : Nat → zS} {f F : Nat → Int32} {q : zMq} {wh hi : Nat} {what n : Int32} (h68 : wh < 68) (hhi : hi ≤ 20) (hu0 : ∀ v, upd (ec σ) wh (nI v) = ec (τ v)) (hu1 : ∀ v v', upd (ec (τ v)) wh (nI v') = ec (τ v')) (hu2 : ∀ v, upd (ec (τ v)) wh (ec σ wh) = ec σ) (hf : ∀ v, v ≤ hi → -99999 < f v)
    (hb : ∀ v, v ≤ hi → ∀ (Q' : zQ) (as g : Nat → Int32), (∀ as' g', Q' (some (.int (f v))) (gh x (ec (τ v), as', g', F, q))) → SM mn_M_behind [.ref 43, .int what, .int n] (gh x (ec (τ v), as, g, F, q)) Q')
    (k : ∀ as' g', Q (some (.int (nI (best f (hi + 1))))) (gh x (ec σ, as', g', F, q))) :
    ∀ d v o b m s as g, v + d = hi + 1 → ((v = 0 ∧ b = 0 ∧ m = -99999 ∧ s = ec σ) ∨ (1 ≤ v ∧ b = nI (best f v) ∧ m = f (best f v) ∧ ∃ u, s = ec (τ u))) → SF mn_M_mostBy Q 18 [some (.ref 43), some (.int (nI wh)), some (.int (nI hi)), some (.int what), some (.int n), some (.int (ec σ wh)), some (.int b), some (.int m), some (.int (nI v)), o] [] (0, 0) (gh x (s, as, g, F, q)) := by
  intro d
  induction d with
  | zero =>
    intro v o b m s as g hv hI
    rcases hI with hI | ⟨h1, rfl, rfl, u, rfl⟩
    · omega
    refine zgo hZ 999 60 rfl ?_
    refine ⟨fun _ => ?_, fun h => absurd ((nI_ltI (by omega) (by omega)).mpr (by omega)) h⟩
    refine ⟨wh, h68, rfl, ?_⟩
    rw [hu2 u, show v = hi + 1 by omega]
    exact k _ _
  | succ d ih =>
    intro v o b m s as g hv hI
    have hs : upd s wh (nI v) = ec (τ v) := by
      rcases hI with ⟨-, -, -, rfl⟩ | ⟨-, -, -, u, rfl⟩
      · exact hu0 v
      · exact hu1 u v
    have hn : ∀ o b m as g, b = nI (best f (v + 1)) → m = f (best f (v + 1)) → SF mn_M_mostBy Q 18 [some (.ref 43), some (.int (nI wh)), some (.int (nI hi)), some (.int what), some (.int n), some (.int (ec σ wh)), some (.int b), some (.int m), some (.int (nI v + 1)), o] [] (0, 0) (gh x (ec (τ v), as, g, F, q)) := by
      intro o b m as g e1 e2
      rw [nI_1]
      exact ih (v + 1) o b m _ as g (by omega) (Or.inr ⟨by omega, e1, e2, v, rfl⟩)
    have hv0 := hf v (by omega)
    refine zgo hZ 18 90 rfl ?_
    refine ⟨fun h => ?_, fun _ => ?_⟩
    · have := (nI_ltI (by omega) (by omega)).mp h
      omega
    refine ⟨wh, h68, rfl, ?_⟩
    rw [hs]
    refine hb v (by omega) _ as g (fun as' g' => ?_)
    refine ⟨fun h1 => ⟨fun h2 => ?_, fun h2 => absurd h1 h2⟩, fun h1 => ⟨fun h2 => absurd h2 h1, fun h2 => ?_⟩⟩
    · rcases hI with ⟨-, -, rfl, -⟩ | ⟨-, rfl, rfl, -⟩
      · exact absurd h1 (nle_of hv0)
      · refine hn (some (.int (f v))) _ _ as' g' ?_ ?_
        · rw [best_s, if_neg (nlt_of h1)]
        · rw [best_s, if_neg (nlt_of h1)]
    · rcases hI with ⟨rfl, -, rfl, -⟩ | ⟨-, rfl, rfl, -⟩
      · have e : best f (0 + 1) = 0 := by
          have := best_lt f 0
          omega
        exact hn (some (.int (f 0))) _ _ as' g' (by rw [e]) (by rw [e])
      · refine hn (some (.int (f v))) _ _ as' g' ?_ ?_
        · rw [best_s, if_pos (lt_of h1)]
        · rw [best_s, if_pos (lt_of h1)]
set_option maxRecDepth 100000 in
set_option maxHeartbeats 400000 in
theorem t_mostBy {SM : zC} {SF : Nat → zQ → zP} (hZ : zZ SM SF) {Q : zQ} {x : zXs} {σ : zS} {τ : Nat → zS} {f as g F : Nat → Int32} {q : zMq} {wh hi : Nat} {what n : Int32} (h68 : wh < 68) (hhi : hi ≤ 20) (hu0 : ∀ v, upd (ec σ) wh (nI v) = ec (τ v)) (hu1 : ∀ v v', upd (ec (τ v)) wh (nI v') = ec (τ v')) (hu2 : ∀ v, upd (ec (τ v)) wh (ec σ wh) = ec σ) (hf : ∀ v, v ≤ hi → -99999 < f v)
    (hb : ∀ v, v ≤ hi → ∀ (Q' : zQ) (as g : Nat → Int32), (∀ as' g', Q' (some (.int (f v))) (gh x (ec (τ v), as', g', F, q))) → SM mn_M_behind [.ref 43, .int what, .int n] (gh x (ec (τ v), as, g, F, q)) Q')
    (k : ∀ as' g', Q (some (.int (nI (best f (hi + 1))))) (gh x (ec σ, as', g', F, q))) : SM mn_M_mostBy [.ref 43, .int (nI wh), .int (nI hi), .int what, .int n] (gh x (ec σ, as, g, F, q)) Q := by
  refine zin hZ 18 60 rfl rfl rfl ?_
  refine ⟨wh, h68, rfl, ?_⟩
  exact t_mostBy_l hZ h68 hhi hu0 hu1 hu2 hf hb k (hi + 1) 0 none 0 (-99999) (ec σ) as g (by omega) (Or.inl ⟨rfl, rfl, rfl, rfl⟩)
theorem s2_2 (σ : zS) (f i : Nat) (a b : Int32) : s2 (s2 σ f i a) f i b = s2 σ f i b := by
  funext g
  by_cases h : g = f
  · subst h
    rw [s2_s, s2_s, s2_s]
    funext j
    unfold upd
    by_cases hj : j = i
    · rw [if_pos hj, if_pos hj]
    · rw [if_neg hj, if_neg hj, if_neg hj]
  · rw [s2_n _ h, s2_n _ h, s2_n _ h]
theorem s2_id (σ : zS) (f i : Nat) : s2 σ f i (σ f i) = σ := by
  funext g
  by_cases h : g = f
  · subst h
    rw [s2_s]
    funext j
    unfold upd
    by_cases hj : j = i
    · rw [if_pos hj, hj]
    · rw [if_neg hj]
  · rw [s2_n _ h]
theorem wf_kd {D : Nat} {σ : zS} (hw : wf D σ) (i : Nat) {v : Nat} (hv : v ≤ 5) : wf D (s2 σ 0 i (nI v)) := wf_s2 hw (by decide) (by rw [nI_toInt (by omega)]; simp only [bnd]; omega)
theorem wf_wm {D : Nat} {σ : zS} (hw : wf D σ) (i : Nat) {v : Nat} (hv : v ≤ 99) : wf D (s2 σ 1 i (nI v)) := wf_s2 hw (by decide) (by rw [nI_toInt (by omega)]; simp only [bnd]; omega)
theorem wf_st {D : Nat} {σ : zS} (hw : wf D σ) (i : Nat) : wf D (s2 σ 2 i 1) := wf_s2 hw (by decide) (by simp only [bnd]; decide)
theorem wf_ld {D : Nat} {σ : zS} (hw : wf D σ) (i : Nat) {v : Nat} (hv : v ≤ 9) : wf D (s2 σ 5 i (nI v)) := wf_s2 hw (by decide) (by rw [nI_toInt (by omega)]; simp only [bnd]; omega)
theorem wf_fi {D : Nat} {σ : zS} (hw : wf D σ) {v : Int32} (hv : 0 ≤ v.toInt ∧ v.toInt ≤ 20) : wf D (s2 σ 8 1 v) := by
  obtain ⟨h1, h2, h3, h4, h5⟩ := hw
  have e0 : s2 σ 8 1 v 8 0 = σ 8 0 := s2_o σ (Or.inr (by decide)) v
  have e2 : s2 σ 8 1 v 8 2 = σ 8 2 := s2_o σ (Or.inr (by decide)) v
  have e3 : s2 σ 8 1 v 8 3 = σ 8 3 := s2_o σ (Or.inr (by decide)) v
  have e1 : s2 σ 8 1 v 8 1 = v := s2_at σ 8 1 v
  unfold wf nd nn nc
  rw [e0, e1, e2, e3]
  refine ⟨fun i hi => ?_, h2, hv, h4, h5⟩
  rw [wfi_iff]
  intro f hf
  rw [s2_o σ (Or.inl (by omega))]
  exact (wfi_iff σ i).mp (h1 i hi) f hf
theorem nn_s2 (σ : zS) {f : Nat} (hf : f ≠ 8) (i : Nat) (v : Int32) : nn (s2 σ f i v) = nn σ ∧ nc (s2 σ f i v) = nc σ ∧ nd (s2 σ f i v) = nd σ := nn_8 (s2_n σ (Ne.symm hf) v)
theorem lt99 {x : Int32} (h : -99999 < x.toInt) : (-99999 : Int32) < x := by rw [zlt, m99]; exact h
set_option maxRecDepth 100000 in
set_option maxHeartbeats 400000 in
theorem m_kind {SM : zC} {SF : Nat → zQ → zP} (hZ : zZ SM SF) {Q : zQ} {x : zXs} {σ : zS} {as g F : Nat → Int32} {q : zMq} {D : Nat} (hw : wf D σ) (hD : D ≤ 17000) {i n : Int32} (k : ∀ as' g', Q (some (.int (sp_kind σ F i n).1)) (gh x (ec (sp_kind σ F i n).2.1, as', g', (sp_kind σ F i n).2.2, q))) : SM mn_M_kind [.ref 43, .int i, .int n] (gh x (ec σ, as, g, F, q)) Q := by
  unfold sp_kind at k
  refine zin hZ 999 60 rfl rfl rfl ?_
  refine t_isInlaw hZ hw.2.2.2.1.1 hw.2.2.2.1.2 (fun h1 => ⟨nt, fun _ => ?_⟩) (fun h1 => ⟨fun _ => ?_, nf⟩)
  · refine t_isSoon hZ (fun h2 h3 => ⟨nt, fun _ => ?_⟩) (fun h2 => ⟨fun _ => ?_, nf⟩)
    · rw [if_pos ⟨(inI_iff hw i).mpr h1, h2, h3⟩] at k
      obtain ⟨j, hj1, hj2, rfl, hj3⟩ := inI_get hw h1
      obtain ⟨v, hv1, hv2, rfl, hv3⟩ := rng_get (w := n) (a := 1) (b := 60) (by omega) h2 h3 (by omega)
      rw [hj3, hv3] at k
      refine t_spot hZ (w := 0) ?_
      refine t_spot hZ (w := 4) ?_
      refine t_mostBy (hi := 5) (τ := fun u => s2 σ 0 j (nI u)) (f := fun u => sg (s2 σ 0 j (nI u)) v 4 j) hZ (by omega) (by omega) (fun u => ec_ui σ hj2 (by decide) _) (fun u u' => by rw [ec_ui _ hj2 (by decide), s2_2]) (fun u => by rw [ec_ui _ hj2 (by decide), s2_2, ec_i hj2 (by decide), s2_id]) (fun u hu => ?_) (fun u hu Q' as g k' => ?_) k
      · have := ((sg_wf (wf_kd hw j (v := u) (by omega)) (n := v) (by omega)).1.1 j hj2).2.2.2.2.1
        exact lt99 (by omega)
      · refine t_behind_w hZ (wf_kd hw j (v := u) (by omega)) (by omega) (by omega) ?_
        rw [ec_i hj2 (by decide)]
        exact k'
    · rw [if_neg (fun z => h2 z.2)] at k
      exact t_finds hZ 0 (by decide) rfl (k _ _)
  · rw [if_neg (fun z => h1 ((inI_iff hw i).mp z.1))] at k
    exact t_finds hZ 0 (by decide) rfl (k _ _)
set_option maxRecDepth 100000 in
set_option maxHeartbeats 400000 in
theorem m_loud {SM : zC} {SF : Nat → zQ → zP} (hZ : zZ SM SF) {Q : zQ} {x : zXs} {σ : zS} {as g F : Nat → Int32} {q : zMq} {D : Nat} (hw : wf D σ) (hD : D ≤ 17000) {i n : Int32} (k : ∀ as' g', Q (some (.int (sp_loud σ F i n).1)) (gh x (ec (sp_loud σ F i n).2.1, as', g', (sp_loud σ F i n).2.2, q))) : SM mn_M_loud [.ref 43, .int i, .int n] (gh x (ec σ, as, g, F, q)) Q := by
  unfold sp_loud at k
  refine zin hZ 999 60 rfl rfl rfl ?_
  refine t_isCouple hZ hw.2.2.2.2.1 hw.2.2.2.2.2 (fun h1 => ⟨nt, fun _ => ?_⟩) (fun h1 => ⟨fun _ => ?_, nf⟩)
  · refine t_isSoon hZ (fun h2 h3 => ⟨nt, fun _ => ?_⟩) (fun h2 => ⟨fun _ => ?_, nf⟩)
    · rw [if_pos ⟨(inC_iff hw i).mpr h1, h2, h3⟩] at k
      obtain ⟨j, hj1, hj2, rfl, hj3⟩ := inC_get hw h1
      obtain ⟨v, hv1, hv2, rfl, hv3⟩ := rng_get (w := n) (a := 1) (b := 60) (by omega) h2 h3 (by omega)
      rw [hj3, hv3] at k
      refine t_cspot hZ (w := 0) ?_
      refine t_cspot hZ (w := 1) ?_
      refine t_mostBy (hi := 9) (τ := fun u => s2 σ 5 j (nI u)) (f := fun u => sg (s2 σ 5 j (nI u)) v 6 j) hZ (by omega) (by omega) (fun u => ec_up σ (w := 0) (by decide) _) (fun u u' => by rw [ec_up _ (w := 0) (by decide), s2_2]) (fun u => by rw [ec_up _ (w := 0) (by decide), s2_2, ec_p (w := 0) (by decide), s2_id]) (fun u hu => ?_) (fun u hu Q' as g k' => ?_) k
      · have := ((sg_wf (wf_ld hw j (v := u) (by omega)) (n := v) (by omega)).1.1 j hj2).2.2.2.2.2.2.1
        exact lt99 (by omega)
      · refine t_behind_w hZ (wf_ld hw j (v := u) (by omega)) (by omega) (by omega) ?_
        rw [ec_p (w := 1) (by decide)]
        exact k'
    · rw [if_neg (fun z => h2 z.2)] at k
      exact t_finds hZ 0 (by decide) rfl (k _ _)
  · rw [if_neg (fun z => h1 ((inC_iff hw i).mp z.1))] at k
    exact t_finds hZ 0 (by decide) rfl (k _ _)
set_option maxRecDepth 100000 in
set_option maxHeartbeats 400000 in
theorem m_stoke {SM : zC} {SF : Nat → zQ → zP} (hZ : zZ SM SF) {Q : zQ} {x : zXs} {σ : zS} {as g F : Nat → Int32} {q : zMq} {D : Nat} (hw : wf D σ) (hD : D ≤ 17000) {n : Int32} (k : ∀ as' g', Q (some (.int (sp_stoke σ F n).1)) (gh x (ec (sp_stoke σ F n).2.1, as', g', (sp_stoke σ F n).2.2, q))) : SM mn_M_stoke [.ref 43, .int n] (gh x (ec σ, as, g, F, q)) Q := by
  have hwf : ∀ u, u ≤ 20 → wf D (s2 σ 8 1 (nI u)) := fun u hu => wf_fi hw (by rw [nI_toInt (by omega)]; omega)
  have hnn : ∀ u, nn (s2 σ 8 1 (nI u)) = nn σ := fun u => by unfold nn; rw [s2_o σ (Or.inr (by decide))]
  unfold sp_stoke at k
  refine zin hZ 999 60 rfl rfl rfl ?_
  refine t_isSoon hZ (fun h2 h3 => ⟨nt, fun _ => ?_⟩) (fun h2 => ⟨fun _ => ?_, nf⟩)
  · rw [if_pos ⟨h2, h3⟩] at k
    obtain ⟨v, hv1, hv2, rfl, hv3⟩ := rng_get (w := n) (a := 1) (b := 60) (by omega) h2 h3 (by omega)
    rw [hv3] at k
    refine t_mostBy (wh := 1) (hi := 20) (τ := fun u => s2 σ 8 1 (nI u)) (f := fun u => zsum (sg (s2 σ 8 1 (nI u)) v 1) (nn σ)) hZ (by omega) (by omega) (fun u => ec_uc σ (by decide) _) (fun u u' => by rw [ec_uc _ (by decide), s2_2]) (fun u => by rw [ec_uc _ (by decide), s2_2, ec_c (by decide), s2_id]) (fun u hu => ?_) (fun u hu Q' as g k' => ?_) k
    · have h4 := (sg_wf (hwf u hu) (n := v) (by omega)).1.1
      have h8 := hw.2.2.2.1.2
      have h5 := (zsum_rng (f := sg (s2 σ 8 1 (nI u)) v 1) (lo := 0) (hi := 99) (by omega) (by omega) (nn σ) h8 (fun i hi => (h4 i (by omega)).2.1)).1
      exact lt99 (by omega)
    · refine t_behind_2 hZ (hwf u hu) (by omega) ?_
      rw [hnn u]
      exact k'
  · rw [if_neg h2] at k
    exact t_finds hZ 0 (by decide) rfl (k _ _)
