/-! THE REFERENCE, third part: a Sunday (the rows bt .. b_sshr are the kit's, pasted) -/
def bt (x : Int32) (i : Nat) : Bool := x.toBitVec.getLsbD i
theorem b_ext {x y : Int32} (h : ∀ i, i < 32 → bt x i = bt y i) : x = y := Int32.toBitVec_inj.mp (BitVec.eq_of_getLsbD_eq (fun i hi => h i hi))
theorem b_or (x y : Int32) (i : Nat) : bt (x ||| y) i = (bt x i || bt y i) := by unfold bt; rw [Int32.toBitVec_or, BitVec.getLsbD_or]
theorem b_and (x y : Int32) (i : Nat) : bt (x &&& y) i = (bt x i && bt y i) := by unfold bt; rw [Int32.toBitVec_and, BitVec.getLsbD_and]
theorem b_big {x : Int32} {i : Nat} (h : 32 ≤ i) : bt x i = false := BitVec.getLsbD_of_ge _ _ h
theorem b_0 (i : Nat) : bt 0 i = false := BitVec.getLsbD_zero
theorem s_l : ∀ n, n < 32 → ((nI n &&& 31).toBitVec.smod 32).toNat = n := by decide +kernel
theorem b_shl (n : Nat) (hn : n < 32) (x : Int32) {i : Nat} (hi : i < 32) : bt (x <<< (nI n &&& 31)) i = (decide (n ≤ i) && bt x (i - n)) := by
  unfold bt
  rw [Int32.toBitVec_shiftLeft]
  show (x.toBitVec <<< ((nI n &&& 31).toBitVec.smod 32).toNat).getLsbD i = _
  rw [s_l n hn, BitVec.getLsbD_shiftLeft]
  rcases Nat.lt_or_ge i n with h | h
  · simp [h, Nat.not_le.mpr h]
  · simp [hi, h, Nat.not_lt.mpr h]
theorem b_sshr (n : Nat) (hn : n < 32) (x : Int32) {i : Nat} (hi : i < 32) : bt (x >>> (nI n &&& 31)) i = if n + i < 32 then bt x (n + i) else bt x 31 := by
  unfold bt
  rw [Int32.toBitVec_shiftRight]
  show (x.toBitVec.sshiftRight ((nI n &&& 31).toBitVec.smod 32).toNat).getLsbD i = _
  rw [s_l n hn, BitVec.getLsbD_sshiftRight, BitVec.msb_eq_getLsbD_last]
  simp [hi]
theorem b_1 (i : Nat) : bt 1 i = decide (i = 0) := by
  rcases Nat.lt_or_ge i 32 with h | h
  · exact (by decide +kernel : ∀ i, i < 32 → bt 1 i = decide (i = 0)) i h
  · rw [b_big h, decide_eq_false (by omega)]
theorem fr_bt {t : Int32} {i : Nat} (hi : i < 32) : fr t i ↔ bt t i = false := by
  constructor
  · intro h
    have h1 : bt (t &&& ((1 : Int32) <<< (nI i &&& 31))) i = false := by rw [h, b_0]
    rw [b_and, b_shl i hi 1 hi, Nat.sub_self, b_1] at h1
    simpa using h1
  · intro h
    refine b_ext (fun j hj => ?_)
    rw [b_and, b_shl i hi 1 hj, b_1, b_0]
    by_cases hij : i = j
    · subst hij; rw [h]; rfl
    · by_cases h2 : i ≤ j
      · rw [decide_eq_false (show ¬ j - i = 0 by omega)]; simp
      · rw [decide_eq_false h2]; simp
/-- the reference's way to ask -/
theorem fr_sh {t : Int32} {i : Nat} (hi : i < 32) : (t >>> (nI i &&& 31)) &&& 1 = 0 ↔ fr t i := by
  rw [fr_bt hi]
  constructor
  · intro h
    have h1 : bt ((t >>> (nI i &&& 31)) &&& 1) 0 = false := by rw [h, b_0]
    rw [b_and, b_sshr i hi t (by omega), b_1, if_pos (by omega)] at h1
    simpa using h1
  · intro h
    refine b_ext (fun j hj => ?_)
    rw [b_and, b_sshr i hi t hj, b_1, b_0]
    by_cases hj0 : j = 0
    · subst hj0; rw [if_pos (by omega), Nat.add_zero, h]; rfl
    · rw [decide_eq_false hj0]; simp
set_option maxRecDepth 100000 in
set_option maxHeartbeats 400000 in
theorem t_does {SM : zC} {SF : Nat → zQ → zP} (hZ : zZ SM SF) {Q : zQ} {x : zXs} {σ : zS} {r : zMr} {i c : Nat} (hi : i < 8) (hc : c < 8) (k : Q (some (.int (dz σ i c))) (gh x (ec σ, r))) : SM mn_M_does [.ref 43, .int (nI i), .int (nI c)] (gh x (ec σ, r)) Q := by
  have e1 : (ec σ 1 : Int32) = σ 8 1 := ec_c (by decide)
  unfold dz at k
  refine zin hZ 999 99 rfl rfl rfl ?_
  refine ⟨1, by decide, rfl, fun h1 => ?_, fun h1 => ?_⟩
  · have h1 : σ 8 1 < 10 := by rw [← e1]; exact h1
    rw [if_neg (nle_of h1)] at k
    refine t_i0 hZ hi ?_
    refine ⟨fun g1 => ?_, fun g1 => ⟨fun g2 => ?_, fun g2 => ⟨fun g3 => ?_, fun g3 => ⟨fun g4 => ?_, fun g4 => ⟨fun g5 => ?_, fun g5 => ?_⟩⟩⟩⟩⟩
    · rw [if_pos (show σ 0 i = 1 from g1)] at k
      refine t_c0 hZ hc ?_
      refine ⟨fun g2 => ?_, fun g2 => ?_⟩
      · rw [if_neg (nle_of (show σ 5 c < 7 from g2))] at k; exact k
      · rw [if_pos (le_of (show ¬ σ 5 c < 7 from g2))] at k; exact k
    · rw [if_neg (show ¬ σ 0 i = 1 from g1), if_pos (show σ 0 i = 2 from g2)] at k; exact k
    · rw [if_neg (show ¬ σ 0 i = 1 from g1), if_neg (show ¬ σ 0 i = 2 from g2), if_pos (show σ 0 i = 3 from g3)] at k; exact k
    · rw [if_neg (show ¬ σ 0 i = 1 from g1), if_neg (show ¬ σ 0 i = 2 from g2), if_neg (show ¬ σ 0 i = 3 from g3), if_pos (show σ 0 i = 4 from g4)] at k
      refine t_i1 hZ hi ?_
      refine ⟨fun g2 => ?_, fun g2 => ?_⟩
      · rw [if_neg (nle_of (show σ 1 i < 60 from g2))] at k; exact k
      · rw [if_pos (le_of (show ¬ σ 1 i < 60 from g2))] at k; exact k
    · rw [if_neg (show ¬ σ 0 i = 1 from g1), if_neg (show ¬ σ 0 i = 2 from g2), if_neg (show ¬ σ 0 i = 3 from g3), if_neg (show ¬ σ 0 i = 4 from g4), if_pos (show σ 0 i = 5 from g5)] at k; exact k
    · rw [if_neg (show ¬ σ 0 i = 1 from g1), if_neg (show ¬ σ 0 i = 2 from g2), if_neg (show ¬ σ 0 i = 3 from g3), if_neg (show ¬ σ 0 i = 4 from g4), if_neg (show ¬ σ 0 i = 5 from g5)] at k; exact k
  · have h1 : ¬ σ 8 1 < 10 := by rw [← e1]; exact h1
    rw [if_pos (le_of h1)] at k
    refine t_i0 hZ hi ?_
    refine ⟨fun g1 => ?_, fun g1 => ⟨fun g2 => ?_, fun g2 => ⟨fun g3 => ?_, fun g3 => ⟨fun g4 => ?_, fun g4 => ⟨fun g5 => ?_, fun g5 => ?_⟩⟩⟩⟩⟩
    · rw [if_pos (show σ 0 i = 1 from g1)] at k
      refine t_c0 hZ hc ?_
      refine ⟨fun g2 => ?_, fun g2 => ?_⟩
      · rw [if_neg (nle_of (show σ 5 c < 7 from g2))] at k; exact k
      · rw [if_pos (le_of (show ¬ σ 5 c < 7 from g2))] at k; exact k
    · rw [if_neg (show ¬ σ 0 i = 1 from g1), if_pos (show σ 0 i = 2 from g2)] at k; exact k
    · rw [if_neg (show ¬ σ 0 i = 1 from g1), if_neg (show ¬ σ 0 i = 2 from g2), if_pos (show σ 0 i = 3 from g3)] at k; exact k
    · rw [if_neg (show ¬ σ 0 i = 1 from g1), if_neg (show ¬ σ 0 i = 2 from g2), if_neg (show ¬ σ 0 i = 3 from g3), if_pos (show σ 0 i = 4 from g4)] at k
      refine t_i1 hZ hi ?_
      refine ⟨fun g2 => ?_, fun g2 => ?_⟩
      · rw [if_neg (nle_of (show σ 1 i < 60 from g2))] at k; exact k
      · rw [if_pos (le_of (show ¬ σ 1 i < 60 from g2))] at k; exact k
    · rw [if_neg (show ¬ σ 0 i = 1 from g1), if_neg (show ¬ σ 0 i = 2 from g2), if_neg (show ¬ σ 0 i = 3 from g3), if_neg (show ¬ σ 0 i = 4 from g4), if_pos (show σ 0 i = 5 from g5)] at k; exact k
    · rw [if_neg (show ¬ σ 0 i = 1 from g1), if_neg (show ¬ σ 0 i = 2 from g2), if_neg (show ¬ σ 0 i = 3 from g3), if_neg (show ¬ σ 0 i = 4 from g4), if_neg (show ¬ σ 0 i = 5 from g5)] at k; exact k
set_option maxRecDepth 100000 in
set_option maxHeartbeats 400000 in
theorem t_thaws {SM : zC} {SF : Nat → zQ → zP} (hZ : zZ SM SF) {Q : zQ} {x : zXs} {σ : zS} {r : zMr} {i c : Nat} (hi : i < 8) (hc : c < 8) (k : Q (some (.int (th σ i c))) (gh x (ec σ, r))) : SM mn_M_thaws [.ref 43, .int (nI i), .int (nI c)] (gh x (ec σ, r)) Q := by
  unfold th at k
  refine zin hZ 999 99 rfl rfl rfl ?_
  refine t_c0 hZ hc ?_
  refine ⟨by decide, ?_⟩
  refine t_i0 hZ hi ?_
  refine ⟨fun g1 => ?_, fun g1 => ⟨fun g2 => ?_, fun g2 => ⟨fun g3 => ?_, fun g3 => ⟨fun g4 => ?_, fun g4 => ⟨fun g5 => ?_, fun g5 => ?_⟩⟩⟩⟩⟩
  · rw [if_pos (show σ 0 i = 1 from g1)] at k; exact k
  · have g2 : σ 0 i = 2 := g2
    rw [if_neg (show ¬ σ 0 i = 1 from g1), g2, if_neg (by decide), if_neg (by decide), if_neg (by decide)] at k; exact k
  · rw [if_neg (show ¬ σ 0 i = 1 from g1), if_pos (show σ 0 i = 3 from g3)] at k; exact k
  · rw [if_neg (show ¬ σ 0 i = 1 from g1), if_neg (show ¬ σ 0 i = 3 from g3), if_pos (show σ 0 i = 4 from g4)] at k; exact k
  · rw [if_neg (show ¬ σ 0 i = 1 from g1), if_neg (show ¬ σ 0 i = 3 from g3), if_neg (show ¬ σ 0 i = 4 from g4), if_pos (show σ 0 i = 5 from g5)] at k; exact k
  · rw [if_neg (show ¬ σ 0 i = 1 from g1), if_neg (show ¬ σ 0 i = 3 from g3), if_neg (show ¬ σ 0 i = 4 from g4), if_neg (show ¬ σ 0 i = 5 from g5)] at k; exact k
set_option maxRecDepth 100000 in
set_option maxHeartbeats 400000 in
theorem t_chills {SM : zC} {SF : Nat → zQ → zP} (hZ : zZ SM SF) {Q : zQ} {x : zXs} {σ : zS} {r : zMr} {i : Nat} (hi : i < 8) (k : Q (some (.int (cl σ i))) (gh x (ec σ, r))) : SM mn_M_chills [.ref 43, .int (nI i)] (gh x (ec σ, r)) Q := by
  have e1 : (ec σ 1 : Int32) = σ 8 1 := ec_c (by decide)
  unfold cl at k
  rw [← e1] at k
  refine zin hZ 999 99 rfl rfl rfl ?_
  refine ⟨1, by decide, rfl, by decide, ?_⟩
  refine t_i0 hZ hi ?_
  refine ⟨fun g1 => ?_, fun g1 => ⟨fun g2 => ?_, fun g2 => ⟨fun g3 => ?_, fun g3 => ⟨fun g4 => ?_, fun g4 => ⟨fun g5 => ⟨fun g6 => ?_, fun g6 => ?_⟩, fun g5 => ?_⟩⟩⟩⟩⟩
  · rw [if_pos (show σ 0 i = 1 from g1)] at k; exact k
  · rw [if_neg (show ¬ σ 0 i = 1 from g1), if_pos (show σ 0 i = 2 from g2)] at k; exact k
  · rw [if_neg (show ¬ σ 0 i = 1 from g1), if_neg (show ¬ σ 0 i = 2 from g2), if_pos (show σ 0 i = 3 from g3)] at k; exact k
  · rw [if_neg (show ¬ σ 0 i = 1 from g1), if_neg (show ¬ σ 0 i = 2 from g2), if_neg (show ¬ σ 0 i = 3 from g3), if_pos (show σ 0 i = 4 from g4)] at k; exact k
  · rw [if_neg (show ¬ σ 0 i = 1 from g1), if_neg (show ¬ σ 0 i = 2 from g2), if_neg (show ¬ σ 0 i = 3 from g3), if_neg (show ¬ σ 0 i = 4 from g4), if_pos (show σ 0 i = 5 from g5), if_neg (nlt_of (show 2 - ec σ 1 / 10 ≤ 0 from g6))] at k; exact k
  · rw [if_neg (show ¬ σ 0 i = 1 from g1), if_neg (show ¬ σ 0 i = 2 from g2), if_neg (show ¬ σ 0 i = 3 from g3), if_neg (show ¬ σ 0 i = 4 from g4), if_pos (show σ 0 i = 5 from g5), if_pos (lt_of (show ¬ 2 - ec σ 1 / 10 ≤ 0 from g6))] at k; exact k
  · rw [if_neg (show ¬ σ 0 i = 1 from g1), if_neg (show ¬ σ 0 i = 2 from g2), if_neg (show ¬ σ 0 i = 3 from g3), if_neg (show ¬ σ 0 i = 4 from g4), if_neg (show ¬ σ 0 i = 5 from g5)] at k; exact k
/-- one that nobody had -/
def alo (σ : zS) (i : Nat) : zS := s2 (s2 σ 3 i (hd3 (σ 3 i + 1) 0 9999)) 1 i (hd3 (σ 1 i - cl σ i) 0 99)
set_option maxRecDepth 100000 in
set_option maxHeartbeats 400000 in
theorem t_isAlone {SM : zC} {SF : Nat → zQ → zP} (hZ : zZ SM SF) {Q : zQ} {x : zXs} {σ : zS} {r : zMr} {i : Nat} (hi : i < 8) (k : Q none (gh x (ec (alo σ i), r))) : SM mn_M_isAlone [.ref 43, .int (nI i)] (gh x (ec σ, r)) Q := by
  refine zin hZ 999 99 rfl rfl rfl ?_
  refine t_spot hZ (w := 3) ?_
  refine t_i3 hZ hi ?_
  refine t_held hZ ?_
  refine ⟨4 + 5 * i + 3, by omega, rfl, ?_⟩
  rw [ec_ui σ hi (w := 3) (by decide)]
  refine t_spot hZ (w := 1) ?_
  refine t_i1 (σ := s2 σ 3 i (hd3 (σ 3 i + 1) 0 9999)) (r := r) hZ hi ?_
  refine t_chills (σ := s2 σ 3 i (hd3 (σ 3 i + 1) 0 9999)) (r := r) hZ hi ?_
  refine t_held hZ ?_
  refine ⟨4 + 5 * i + 1, by omega, rfl, ?_⟩
  rw [ec_ui (s2 σ 3 i (hd3 (σ 3 i + 1) 0 9999)) hi (w := 1) (by decide)]
  exact k
