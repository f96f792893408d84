/-! THE REFERENCE, fourth part: Sundays -/
set_option maxRecDepth 100000 in
set_option maxHeartbeats 400000 in
theorem t_has {SM : zC} {SF : Nat → zQ → zP} (hZ : zZ SM SF) {Q : zQ} {x : zXs} {σ : zS} {r : zMr} {c i : Nat} (hc : c < 8) (hi : i < 8) (k : Q none (gh x (ec (hs σ c i), r))) : SM mn_M_has [.ref 43, .int (nI c), .int (nI i)] (gh x (ec σ, r)) Q := by
  refine zin hZ 999 99 rfl rfl rfl ?_
  refine t_does hZ hi hc ?_
  refine t_thaws hZ hi hc ?_
  refine t_cspot hZ (w := 1) ?_
  refine t_c1 hZ hc ?_
  refine t_held hZ ?_
  refine ⟨44 + 3 * c + 1, by omega, rfl, ?_⟩
  rw [ec_up σ (c := c) (w := 1) (by decide)]
  refine t_cspot hZ (w := 2) ?_
  refine ⟨44 + 3 * c + 2, by omega, rfl, ?_⟩
  rw [ec_up (s2 σ (5 + 1) c (hd3 (σ 6 c + dz σ i c) (-999) 999)) (c := c) (w := 2) (by decide)]
  refine t_spot hZ (w := 4) ?_
  refine t_i4 (σ := s2 (s2 σ 6 c (hd3 (σ 6 c + dz σ i c) (-999) 999)) 7 c (nI i)) (r := r) hZ hi ?_
  refine t_held hZ ?_
  refine ⟨4 + 5 * i + 4, by omega, rfl, ?_⟩
  rw [ec_ui (s2 (s2 σ 6 c (hd3 (σ 6 c + dz σ i c) (-999) 999)) 7 c (nI i)) hi (w := 4) (by decide)]
  refine t_spot hZ (w := 1) ?_
  refine t_i1 (σ := s2 (s2 (s2 σ 6 c (hd3 (σ 6 c + dz σ i c) (-999) 999)) 7 c (nI i)) 4 i (hd3 (σ 4 i + 1) 0 9999)) (r := r) hZ hi ?_
  refine t_held hZ ?_
  refine ⟨4 + 5 * i + 1, by omega, rfl, ?_⟩
  rw [ec_ui (s2 (s2 (s2 σ 6 c (hd3 (σ 6 c + dz σ i c) (-999) 999)) 7 c (nI i)) 4 i (hd3 (σ 4 i + 1) 0 9999)) hi (w := 1) (by decide)]
  exact k
theorem pk_rng (σ : zS) (c : Nat) (t : Int32) : ∀ i, pk σ c t i = -1 ∨ ∃ b, b < i ∧ pk σ c t i = nI b
  | 0 => Or.inl rfl
  | i + 1 => by
    unfold pk
    by_cases h : (fr t i ∧ σ 2 i = 0) ∧ (pk σ c t i = -1 ∨ ch σ (pk σ c t i).toNatClampNeg c < ch σ i c)
    · rw [if_pos h]; exact Or.inr ⟨i, by omega, rfl⟩
    · rw [if_neg h]
      rcases pk_rng σ c t i with e | ⟨b, hb, e⟩
      · exact Or.inl e
      · exact Or.inr ⟨b, by omega, e⟩
theorem nI_ne_m1 {b : Nat} (hb : b < 1000) : ¬ nI b = (-1 : Int32) := fun z => by
  rw [zeq, nI_toInt (by omega)] at z
  have : (-1 : Int32).toInt = -1 := by decide
  omega
set_option maxRecDepth 100000 in
set_option maxHeartbeats 400000 in
theorem t_charmer_l {SM : zC} {SF : Nat → zQ → zP} (hZ : zZ SM SF) {Q : zQ} {x : zXs} {σ : zS} {r : zMr} {c n : Nat} {t : Int32} (hc : c < 8) (hn : σ 8 2 = nI n) (h8 : n ≤ 8) (k : Q (some (.int (pk σ c t n))) (gh x (ec σ, r))) : ∀ d i o, i + d = n → SF mn_M_charmer Q 5 [some (.ref 43), some (.int (nI c)), some (.int t), some (.int (pk σ c t i)), some (.int (nI i)), o] [] (0, 0) (gh x (ec σ, r)) := by
  have e : (ec σ 2 : Int32) = nI n := by rw [ec_c (by decide), hn]
  intro d
  induction d with
  | zero =>
    intro i o hi
    refine zgo hZ 5 99 rfl ?_
    refine ⟨2, by decide, rfl, fun hc => ?_, fun hc => ?_⟩
    · rw [show i = n by omega]
      exact k
    · exact absurd ((ile e rfl (by omega) (by omega)).mpr (by omega)) hc
  | succ d ih =>
    intro i o hi
    have key : ∀ b o', b = pk σ c t (i + 1) → SF mn_M_charmer Q 5 [some (.ref 43), some (.int (nI c)), some (.int t), some (.int b), some (.int (nI i + 1)), o'] [] (0, 0) (gh x (ec σ, r)) := by
      intro b o' eb
      rw [eb, nI_1]
      exact ih (i + 1) o' (by omega)
    have es : pk σ c t (i + 1) = if (fr t i ∧ σ 2 i = 0) ∧ (pk σ c t i = -1 ∨ ch σ (pk σ c t i).toNatClampNeg c < ch σ i c) then nI i else pk σ c t i := rfl
    generalize pk σ c t (i + 1) = np at es key
    have hr := pk_rng σ c t i
    generalize pk σ c t i = b at es hr ⊢
    refine zgo hZ 5 99 rfl ?_
    refine ⟨2, by decide, rfl, fun hq => ?_, fun hq => ?_⟩
    · have := (ile e rfl (by omega) (by omega)).mp hq
      omega
    · refine ⟨fun h1 => ⟨fun _ => ?_, fun h2 => absurd rfl h2⟩, fun h1 => ?_⟩
      · have h1 : ¬ fr t i := fun z => h1 ((fr_sh (by omega)).mpr z)
        exact key b (some (.int 0)) (by rw [es, if_neg (fun z => h1 z.1.1)])
      · have h1 : fr t i := (fr_sh (by omega)).mp h1
        refine t_i2 hZ (by omega) ?_
        refine ⟨fun h2 => ⟨fun _ => ?_, fun h3 => absurd rfl h3⟩, fun h2 => ⟨fun h3 => absurd h3 (by decide), fun _ => ?_⟩⟩
        · exact key b (some (.int 0)) (by rw [es, if_neg (fun z => h2 z.1.2)])
        · refine ⟨fun h3 => ?_, fun h3 => ?_⟩
          · exact key (nI i) (some (.int 1)) (by rw [es, if_pos ⟨⟨h1, h2⟩, Or.inl h3⟩])
          · rcases hr with hr | ⟨b', hb', rfl⟩
            · exact absurd hr h3
            · have ecl : (nI b').toNatClampNeg = b' := nI_clamp (by omega)
              rw [ecl] at es
              refine t_charms hZ (by omega) hc ?_
              refine t_charms hZ (by omega) hc ?_
              refine ⟨fun h4 => ?_, fun h4 => ?_⟩
              · exact key (nI b') (some (.int 1)) (by rw [es, if_neg (fun z => z.2.elim h3 (nlt_of h4))])
              · exact key (nI i) (some (.int 1)) (by rw [es, if_pos ⟨⟨h1, h2⟩, Or.inr (lt_of h4)⟩])
set_option maxRecDepth 100000 in
set_option maxHeartbeats 400000 in
theorem t_charmer {SM : zC} {SF : Nat → zQ → zP} (hZ : zZ SM SF) {Q : zQ} {x : zXs} {σ : zS} {r : zMr} {c n : Nat} {t : Int32} (hc : c < 8) (hn : σ 8 2 = nI n) (h8 : n ≤ 8) (k : Q (some (.int (pk σ c t n))) (gh x (ec σ, r))) : SM mn_M_charmer [.ref 43, .int (nI c), .int t] (gh x (ec σ, r)) Q := by
  refine zin hZ 5 99 rfl rfl rfl ?_
  exact t_charmer_l hZ hc hn h8 k n 0 none (by omega)
