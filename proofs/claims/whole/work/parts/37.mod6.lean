/-! THE REFERENCE, sixth part: rows are copied; Sundays ahead -/
theorem eH_app : ∀ {a b c d : zH}, zm_eH a b → zm_eH c d → zm_eH (a ++ c) (b ++ d)
  | [], [], _, _, _, h => h
  | [], _ :: _, _, _, h, _ => h.elim
  | _ :: _, [], _, _, h, _ => h.elim
  | _ :: _, _ :: _, _, _, h1, h2 => ⟨h1.1, eH_app h1.2 h2⟩
theorem eA_i {c n : Nat} {f g : Nat → Int32} (h : ∀ j, j < n → f j = g j) : zm_eA (.inl (c, n, .inl f)) (.inl (c, n, .inl g)) := Or.inr (Or.inl ⟨_, _, _, _, rfl, rfl, h⟩)
theorem eA_l {c n : Nat} {f g : Nat → Int64} (h : ∀ j, j < n → f j = g j) : zm_eA (.inl (c, n, .inr (.inl f))) (.inl (c, n, .inr (.inl g))) := Or.inr (Or.inr ⟨_, _, _, _, rfl, rfl, h⟩)
/-- the reference's rows agree as far as they go -/
theorem eH_M {x : zXs} {s as g F s' as' ks ks' ot ot' : Nat → Int32} {q : zMq} (h1 : ∀ j, j < 68 → s j = s' j) (h2 : ∀ j, j < 68 → as j = as' j) (h3 : ∀ j, j < 68 → ks j = ks' j) (h4 : ∀ j, j < 68 → ot j = ot' j) : zm_eH (gh x (s, as, g, F, ks, ot, q.2.2)) (gh x (s', as', g, F, ks', ot', q.2.2)) :=
  eH_app (zm_eH_rfl _) ⟨zm_eA_rfl _, eA_i h1, eA_i h3, eA_i h4, eA_i h2, zm_eA_rfl _, zm_eA_rfl _, zm_eA_rfl _, zm_eA_rfl _, zm_eA_rfl _, zm_eA_rfl _, zm_eA_rfl _, trivial⟩
/-- the first k places of f, behind them g -/
def cpf (f g : Nat → Int32) (k : Nat) : Nat → Int32 := fun j => if j < k then f j else g j
theorem cpf_0 (f g : Nat → Int32) : cpf f g 0 = g := by funext j; simp [cpf]
theorem cpf_s (f g : Nat → Int32) (k : Nat) : upd (cpf f g k) k (f k) = cpf f g (k + 1) := by
  funext j
  unfold upd cpf
  by_cases h : j = k
  · subst h; simp
  · by_cases h2 : j < k
    · rw [if_neg h, if_pos h2, if_pos (by omega)]
    · rw [if_neg h, if_neg h2, if_neg (by omega)]
theorem cpf_in {f g : Nat → Int32} {k j : Nat} (h : j < k) : cpf f g k j = f j := by unfold cpf; rw [if_pos h]

set_option maxRecDepth 100000 in
set_option maxHeartbeats 400000 in
theorem t_laysAside_l {SM : zC} {SF : Nat → zQ → zP} (hZ : zZ SM SF) {Q : zQ} {x : zXs} {s as g F ks ot : Nat → Int32} {q : Int32 × (Nat → Int32) × zR × (Nat → Int32) × (Nat → Int32) × (Nat → Int64) × (Nat → Int64)} (k : Q none (gh x (s, s, g, F, ks, ot, q))) : ∀ d j, j + d = 68 → SF mn_M_laysAside Q 2 [some (.ref 43), some (.int (nI j))] [] (0, 0) (gh x (s, cpf s as j, g, F, ks, ot, q)) := by
  intro d
  induction d with
  | zero =>
    intro j hj
    have hj : j = 68 := by omega
    subst hj
    refine zsame hZ (gh x (s, s, g, F, ks, ot, q)) (eH_M (q := (fun _ => 0, fun _ => 0, q)) (fun j hj => rfl) (fun j hj => cpf_in hj) (fun j hj => rfl) (fun j hj => rfl)) ?_
    refine zgo hZ 2 60 rfl ?_
    refine ⟨fun hc => ?_, fun hc => ?_⟩
    · exact k
    · exact absurd (show (68 : Int32) ≤ nI 68 by decide) hc
  | succ d ih =>
    intro j hj
    have h1 := ih (j + 1) (by omega)
    rw [← cpf_s, ← nI_1] at h1
    refine zgo hZ 2 60 rfl ?_
    refine ⟨fun hc => ?_, fun hc => ?_⟩
    · have := (ile (a := 68) (m := 68) rfl rfl (by omega) (by omega)).mp hc
      omega
    · refine ⟨j, by omega, rfl, j, by omega, rfl, ?_⟩
      exact h1
theorem t_laysAside {SM : zC} {SF : Nat → zQ → zP} (hZ : zZ SM SF) {Q : zQ} {x : zXs} {s as g F ks ot : Nat → Int32} {q : Int32 × (Nat → Int32) × zR × (Nat → Int32) × (Nat → Int32) × (Nat → Int64) × (Nat → Int64)} (k : Q none (gh x (s, s, g, F, ks, ot, q))) : SM mn_M_laysAside [.ref 43] (gh x (s, as, g, F, ks, ot, q)) Q := by
  refine zin hZ 2 60 rfl rfl rfl ?_
  have h := t_laysAside_l (s := s) (as := as) (ks := ks) (ot := ot) hZ k 68 0 (by omega)
  rw [cpf_0] at h
  exact h
set_option maxRecDepth 100000 in
set_option maxHeartbeats 400000 in
theorem t_takesBack_l {SM : zC} {SF : Nat → zQ → zP} (hZ : zZ SM SF) {Q : zQ} {x : zXs} {s as g F ks ot : Nat → Int32} {q : Int32 × (Nat → Int32) × zR × (Nat → Int32) × (Nat → Int32) × (Nat → Int64) × (Nat → Int64)} {v : Int32} (k : Q (some (.int v)) (gh x (as, as, g, F, ks, ot, q))) : ∀ d j, j + d = 68 → SF mn_M_takesBack Q 2 [some (.ref 43), some (.int v), some (.int (nI j))] [] (0, 0) (gh x (cpf as s j, as, g, F, ks, ot, q)) := by
  intro d
  induction d with
  | zero =>
    intro j hj
    have hj : j = 68 := by omega
    subst hj
    refine zsame hZ (gh x (as, as, g, F, ks, ot, q)) (eH_M (q := (fun _ => 0, fun _ => 0, q)) (fun j hj => cpf_in hj) (fun j hj => rfl) (fun j hj => rfl) (fun j hj => rfl)) ?_
    refine zgo hZ 2 60 rfl ?_
    refine ⟨fun hc => ?_, fun hc => ?_⟩
    · exact k
    · exact absurd (show (68 : Int32) ≤ nI 68 by decide) hc
  | succ d ih =>
    intro j hj
    have h1 := ih (j + 1) (by omega)
    rw [← cpf_s, ← nI_1] at h1
    refine zgo hZ 2 60 rfl ?_
    refine ⟨fun hc => ?_, fun hc => ?_⟩
    · have := (ile (a := 68) (m := 68) rfl rfl (by omega) (by omega)).mp hc
      omega
    · refine ⟨j, by omega, rfl, j, by omega, rfl, ?_⟩
      exact h1
theorem t_takesBack {SM : zC} {SF : Nat → zQ → zP} (hZ : zZ SM SF) {Q : zQ} {x : zXs} {s as g F ks ot : Nat → Int32} {q : Int32 × (Nat → Int32) × zR × (Nat → Int32) × (Nat → Int32) × (Nat → Int64) × (Nat → Int64)} {v : Int32} (k : Q (some (.int v)) (gh x (as, as, g, F, ks, ot, q))) : SM mn_M_takesBack [.ref 43, .int v] (gh x (s, as, g, F, ks, ot, q)) Q := by
  refine zin hZ 2 60 rfl rfl rfl ?_
  have h := t_takesBack_l (s := s) (as := as) (ks := ks) (ot := ot) hZ k 68 0 (by omega)
  rw [cpf_0] at h
  exact h
set_option maxRecDepth 100000 in
set_option maxHeartbeats 400000 in
theorem t_saves_l {SM : zC} {SF : Nat → zQ → zP} (hZ : zZ SM SF) {Q : zQ} {x : zXs} {s as g F ks ot : Nat → Int32} {q : Int32 × (Nat → Int32) × zR × (Nat → Int32) × (Nat → Int32) × (Nat → Int64) × (Nat → Int64)} (k : Q none (gh x (s, as, g, F, ks, s, q))) : ∀ d j, j + d = 68 → SF mn_M_saves Q 2 [some (.ref 43), some (.int (nI j))] [] (0, 0) (gh x (s, as, g, F, ks, cpf s ot j, q)) := by
  intro d
  induction d with
  | zero =>
    intro j hj
    have hj : j = 68 := by omega
    subst hj
    refine zsame hZ (gh x (s, as, g, F, ks, s, q)) (eH_M (q := (fun _ => 0, fun _ => 0, q)) (fun j hj => rfl) (fun j hj => rfl) (fun j hj => rfl) (fun j hj => cpf_in hj)) ?_
    refine zgo hZ 2 60 rfl ?_
    refine ⟨fun hc => ?_, fun hc => ?_⟩
    · exact k
    · exact absurd (show (68 : Int32) ≤ nI 68 by decide) hc
  | succ d ih =>
    intro j hj
    have h1 := ih (j + 1) (by omega)
    rw [← cpf_s, ← nI_1] at h1
    refine zgo hZ 2 60 rfl ?_
    refine ⟨fun hc => ?_, fun hc => ?_⟩
    · have := (ile (a := 68) (m := 68) rfl rfl (by omega) (by omega)).mp hc
      omega
    · refine ⟨j, by omega, rfl, j, by omega, rfl, ?_⟩
      exact h1
theorem t_saves {SM : zC} {SF : Nat → zQ → zP} (hZ : zZ SM SF) {Q : zQ} {x : zXs} {s as g F ks ot : Nat → Int32} {q : Int32 × (Nat → Int32) × zR × (Nat → Int32) × (Nat → Int32) × (Nat → Int64) × (Nat → Int64)} (k : Q none (gh x (s, as, g, F, ks, s, q))) : SM mn_M_saves [.ref 43] (gh x (s, as, g, F, ks, ot, q)) Q := by
  refine zin hZ 2 60 rfl rfl rfl ?_
  have h := t_saves_l (s := s) (as := as) (ks := ks) (ot := ot) hZ k 68 0 (by omega)
  rw [cpf_0] at h
  exact h
set_option maxRecDepth 100000 in
set_option maxHeartbeats 400000 in
theorem t_putsBack_l {SM : zC} {SF : Nat → zQ → zP} (hZ : zZ SM SF) {Q : zQ} {x : zXs} {s as g F ks ot : Nat → Int32} {q : Int32 × (Nat → Int32) × zR × (Nat → Int32) × (Nat → Int32) × (Nat → Int64) × (Nat → Int64)} (k : Q none (gh x (ot, as, g, F, ks, ot, q))) : ∀ d j, j + d = 68 → SF mn_M_putsBack Q 2 [some (.ref 43), some (.int (nI j))] [] (0, 0) (gh x (cpf ot s j, as, g, F, ks, ot, q)) := by
  intro d
  induction d with
  | zero =>
    intro j hj
    have hj : j = 68 := by omega
    subst hj
    refine zsame hZ (gh x (ot, as, g, F, ks, ot, q)) (eH_M (q := (fun _ => 0, fun _ => 0, q)) (fun j hj => cpf_in hj) (fun j hj => rfl) (fun j hj => rfl) (fun j hj => rfl)) ?_
    refine zgo hZ 2 60 rfl ?_
    refine ⟨fun hc => ?_, fun hc => ?_⟩
    · exact k
    · exact absurd (show (68 : Int32) ≤ nI 68 by decide) hc
  | succ d ih =>
    intro j hj
    have h1 := ih (j + 1) (by omega)
    rw [← cpf_s, ← nI_1] at h1
    refine zgo hZ 2 60 rfl ?_
    refine ⟨fun hc => ?_, fun hc => ?_⟩
    · have := (ile (a := 68) (m := 68) rfl rfl (by omega) (by omega)).mp hc
      omega
    · refine ⟨j, by omega, rfl, j, by omega, rfl, ?_⟩
      exact h1
theorem t_putsBack {SM : zC} {SF : Nat → zQ → zP} (hZ : zZ SM SF) {Q : zQ} {x : zXs} {s as g F ks ot : Nat → Int32} {q : Int32 × (Nat → Int32) × zR × (Nat → Int32) × (Nat → Int32) × (Nat → Int64) × (Nat → Int64)} (k : Q none (gh x (ot, as, g, F, ks, ot, q))) : SM mn_M_putsBack [.ref 43] (gh x (s, as, g, F, ks, ot, q)) Q := by
  refine zin hZ 2 60 rfl rfl rfl ?_
  have h := t_putsBack_l (s := s) (as := as) (ks := ks) (ot := ot) hZ k 68 0 (by omega)
  rw [cpf_0] at h
  exact h
