/-! THE CLASS'S CALLS, fourth part: sheets -/
set_option maxRecDepth 100000 in
theorem eH_S0 {H A K : zHl} {kp : Int32} {T : zTp} {S : Nat → zSh} {F : Nat → Int32} {m : zMs} {b z : Int32} {f g : Nat → Int64} (h : ∀ l, l < 40 → f l = g l) : zm_eH (gh (H, A, K, kp, T, shb S 0 (b, z, f), F) m) (gh (H, A, K, kp, T, shb S 0 (b, z, g), F) m) :=
  eH_app ⟨zm_eA_rfl _, zm_eA_rfl _, zm_eA_rfl _, zm_eA_rfl _, zm_eA_rfl _, zm_eA_rfl _, zm_eA_rfl _, zm_eA_rfl _, zm_eA_rfl _, zm_eA_rfl _, zm_eA_rfl _, zm_eA_rfl _, zm_eA_rfl _, zm_eA_rfl _, zm_eA_rfl _, zm_eA_rfl _, zm_eA_rfl _, zm_eA_rfl _, zm_eA_rfl _, zm_eA_rfl _, zm_eA_rfl _, zm_eA_rfl _, zm_eA_rfl _, zm_eA_rfl _, zm_eA_rfl _, zm_eA_rfl _, zm_eA_rfl _, zm_eA_rfl _, zm_eA_rfl _, zm_eA_rfl _, zm_eA_rfl _, zm_eA_rfl _, zm_eA_rfl _, zm_eA_rfl _, zm_eA_rfl _, eA_l h, zm_eA_rfl _, zm_eA_rfl _, zm_eA_rfl _, zm_eA_rfl _, zm_eA_rfl _, zm_eA_rfl _, zm_eA_rfl _, trivial⟩ (zm_eH_rfl _)
set_option maxRecDepth 100000 in
theorem eH_S1 {H A K : zHl} {kp : Int32} {T : zTp} {S : Nat → zSh} {F : Nat → Int32} {m : zMs} {b z : Int32} {f g : Nat → Int64} (h : ∀ l, l < 40 → f l = g l) : zm_eH (gh (H, A, K, kp, T, shb S 1 (b, z, f), F) m) (gh (H, A, K, kp, T, shb S 1 (b, z, g), F) m) :=
  eH_app ⟨zm_eA_rfl _, zm_eA_rfl _, zm_eA_rfl _, zm_eA_rfl _, zm_eA_rfl _, zm_eA_rfl _, zm_eA_rfl _, zm_eA_rfl _, zm_eA_rfl _, zm_eA_rfl _, zm_eA_rfl _, zm_eA_rfl _, zm_eA_rfl _, zm_eA_rfl _, zm_eA_rfl _, zm_eA_rfl _, zm_eA_rfl _, zm_eA_rfl _, zm_eA_rfl _, zm_eA_rfl _, zm_eA_rfl _, zm_eA_rfl _, zm_eA_rfl _, zm_eA_rfl _, zm_eA_rfl _, zm_eA_rfl _, zm_eA_rfl _, zm_eA_rfl _, zm_eA_rfl _, zm_eA_rfl _, zm_eA_rfl _, zm_eA_rfl _, zm_eA_rfl _, zm_eA_rfl _, zm_eA_rfl _, zm_eA_rfl _, zm_eA_rfl _, eA_l h, zm_eA_rfl _, zm_eA_rfl _, zm_eA_rfl _, zm_eA_rfl _, zm_eA_rfl _, trivial⟩ (zm_eH_rfl _)
set_option maxRecDepth 100000 in
theorem eH_S2 {H A K : zHl} {kp : Int32} {T : zTp} {S : Nat → zSh} {F : Nat → Int32} {m : zMs} {b z : Int32} {f g : Nat → Int64} (h : ∀ l, l < 40 → f l = g l) : zm_eH (gh (H, A, K, kp, T, shb S 2 (b, z, f), F) m) (gh (H, A, K, kp, T, shb S 2 (b, z, g), F) m) :=
  eH_app ⟨zm_eA_rfl _, zm_eA_rfl _, zm_eA_rfl _, zm_eA_rfl _, zm_eA_rfl _, zm_eA_rfl _, zm_eA_rfl _, zm_eA_rfl _, zm_eA_rfl _, zm_eA_rfl _, zm_eA_rfl _, zm_eA_rfl _, zm_eA_rfl _, zm_eA_rfl _, zm_eA_rfl _, zm_eA_rfl _, zm_eA_rfl _, zm_eA_rfl _, zm_eA_rfl _, zm_eA_rfl _, zm_eA_rfl _, zm_eA_rfl _, zm_eA_rfl _, zm_eA_rfl _, zm_eA_rfl _, zm_eA_rfl _, zm_eA_rfl _, zm_eA_rfl _, zm_eA_rfl _, zm_eA_rfl _, zm_eA_rfl _, zm_eA_rfl _, zm_eA_rfl _, zm_eA_rfl _, zm_eA_rfl _, zm_eA_rfl _, zm_eA_rfl _, zm_eA_rfl _, zm_eA_rfl _, eA_l h, zm_eA_rfl _, zm_eA_rfl _, zm_eA_rfl _, trivial⟩ (zm_eH_rfl _)
set_option maxRecDepth 100000 in
theorem eH_S3 {H A K : zHl} {kp : Int32} {T : zTp} {S : Nat → zSh} {F : Nat → Int32} {m : zMs} {b z : Int32} {f g : Nat → Int64} (h : ∀ l, l < 40 → f l = g l) : zm_eH (gh (H, A, K, kp, T, shb S 3 (b, z, f), F) m) (gh (H, A, K, kp, T, shb S 3 (b, z, g), F) m) :=
  eH_app ⟨zm_eA_rfl _, zm_eA_rfl _, zm_eA_rfl _, zm_eA_rfl _, zm_eA_rfl _, zm_eA_rfl _, zm_eA_rfl _, zm_eA_rfl _, zm_eA_rfl _, zm_eA_rfl _, zm_eA_rfl _, zm_eA_rfl _, zm_eA_rfl _, zm_eA_rfl _, zm_eA_rfl _, zm_eA_rfl _, zm_eA_rfl _, zm_eA_rfl _, zm_eA_rfl _, zm_eA_rfl _, zm_eA_rfl _, zm_eA_rfl _, zm_eA_rfl _, zm_eA_rfl _, zm_eA_rfl _, zm_eA_rfl _, zm_eA_rfl _, zm_eA_rfl _, zm_eA_rfl _, zm_eA_rfl _, zm_eA_rfl _, zm_eA_rfl _, zm_eA_rfl _, zm_eA_rfl _, zm_eA_rfl _, zm_eA_rfl _, zm_eA_rfl _, zm_eA_rfl _, zm_eA_rfl _, zm_eA_rfl _, zm_eA_rfl _, eA_l h, zm_eA_rfl _, trivial⟩ (zm_eH_rfl _)
theorem c_isMissing0 {SM : zC} {SF : Nat → zQ → zP} (hZ : zZ SM SF) {Q : zQ} {H A K : zHl} {kp : Int32} {T : zTp} {S : Nat → zSh} {F : Nat → Int32} {m : zMs} (kt : (S 0).1 = 0 → Q (some (.int 1)) (gh (H, A, K, kp, T, S, F) m)) (kf : ¬ (S 0).1 = 0 → Q (some (.int 0)) (gh (H, A, K, kp, T, S, F) m)) : SM mn_S_isMissing [.ref 34] (gh (H, A, K, kp, T, S, F) m) Q := by
  refine zin hZ 999 50 rfl rfl rfl ?_
  exact ⟨fun h => ⟨Or.inl rfl, kf h⟩, fun h => ⟨Or.inr rfl, kt h⟩⟩
set_option maxRecDepth 100000 in
set_option maxHeartbeats 400000 in
theorem c_Sput0 {SM : zC} {SF : Nat → zQ → zP} (hZ : zZ SM SF) {Q : zQ} {H A K : zHl} {kp : Int32} {T : zTp} {S : Nat → zSh} {F : Nat → Int32} {m : zMs} {j : Nat} (hj : j < 40) {v : Int64} (k : Q none (gh (H, A, K, kp, T, shb S 0 ((S 0).1, (S 0).2.1, vp_updL (S 0).2.2 j (nrw (S 0).1 v)), F) m)) : SM mn_S_put [.ref 34, .int (nI j), .long v] (gh (H, A, K, kp, T, S, F) m) Q := by
  unfold nrw at k
  refine zin hZ 999 50 rfl rfl rfl ?_
  refine ⟨fun h1 => ⟨fun h2 => ⟨j, hj, rfl, ?_⟩, fun h2 => ⟨j, hj, rfl, ?_⟩⟩, fun h1 => ⟨j, hj, rfl, ?_⟩⟩
  · rw [if_neg (show ¬ (S 0).1 = 8 from h1), if_neg (show ¬ (S 0).1 = 16 from h2)] at k; exact k
  · rw [if_neg (show ¬ (S 0).1 = 8 from h1), if_pos (show (S 0).1 = 16 from h2)] at k; exact k
  · rw [if_pos (show (S 0).1 = 8 from h1)] at k; exact k
set_option maxRecDepth 100000 in
set_option maxHeartbeats 400000 in
theorem c_fill0_l {SM : zC} {SF : Nat → zQ → zP} (hZ : zZ SM SF) {Q : zQ} {H A K : zHl} {kp : Int32} {T : zTp} {S : Nat → zSh} {F : Nat → Int32} {m : zMs} {b z : Int32} (k : Q none (gh (H, A, K, kp, T, shb S 0 (b, z, fun _ => 0), F) m)) : ∀ d j f, j + d = 40 → (∀ l, l < j → f l = 0) → SF mn_J_fill Q 6 [some (.ref 35), some (.long 0), none, some (.int (nI j)), some (.int (nI 40))] [] (0, 0) (gh (H, A, K, kp, T, shb S 0 (b, z, f), F) m) := by
  intro d
  induction d with
  | zero =>
    intro j f hj hf
    refine zsame hZ (gh (H, A, K, kp, T, shb S 0 (b, z, fun _ => 0), F) m) (eH_S0 (fun l hl => hf l (by omega))) ?_
    refine zgo hZ 6 60 rfl ?_
    refine ⟨fun _ => k, fun h => absurd ((ile rfl rfl (by omega) (by omega)).mpr (by omega)) h⟩
  | succ d ih =>
    intro j f hj hf
    have h1 := ih (j + 1) (vp_updL f j 0) (by omega) (fun l hl => by
      unfold vp_updL
      by_cases h : l = j
      · rw [if_pos h]
      · rw [if_neg h]; exact hf l (by omega))
    rw [← nI_1] at h1
    refine zgo hZ 6 60 rfl ?_
    refine ⟨fun h => ?_, fun _ => ⟨j, by omega, rfl, h1⟩⟩
    have := (ile rfl rfl (by omega) (by omega)).mp h
    omega
theorem c_fill0 {SM : zC} {SF : Nat → zQ → zP} (hZ : zZ SM SF) {Q : zQ} {H A K : zHl} {kp : Int32} {T : zTp} {S : Nat → zSh} {F : Nat → Int32} {m : zMs} {b z : Int32} {f : Nat → Int64} (k : Q none (gh (H, A, K, kp, T, shb S 0 (b, z, fun _ => 0), F) m)) : SM mn_J_fill [.ref 35, .long 0] (gh (H, A, K, kp, T, shb S 0 (b, z, f), F) m) Q := by
  refine zin hZ 6 50 rfl rfl rfl ?_
  exact c_fill0_l hZ k 40 0 f (by omega) (fun l hl => by omega)
set_option maxRecDepth 100000 in
set_option maxHeartbeats 400000 in
theorem c_lay0 {SM : zC} {SF : Nat → zQ → zP} (hZ : zZ SM SF) {Q : zQ} {H A K : zHl} {kp : Int32} {T : zTp} {S : Nat → zSh} {F : Nat → Int32} {m : zMs} {b n : Int32} (k : Q none (gh (H, A, K, kp, T, shb S 0 (b, (if b = 0 then 0 else n), fun _ => 0), F) m)) : SM mn_S_lay [.ref 34, .int b, .int n] (gh (H, A, K, kp, T, S, F) m) Q := by
  refine zin hZ 999 50 rfl rfl rfl ?_
  refine ⟨fun h => ?_, fun h => ?_⟩
  · rw [if_neg (show ¬ b = 0 from h)] at k
    refine c_fill0 (H := H) (A := A) (K := K) (kp := kp) (T := T) (S := S) (F := F) (m := m) (b := b) (z := n) (f := (S 0).2.2) hZ ?_
    exact k
  · rw [if_pos (show b = 0 from h)] at k
    refine c_fill0 (H := H) (A := A) (K := K) (kp := kp) (T := T) (S := S) (F := F) (m := m) (b := b) (z := 0) (f := (S 0).2.2) hZ ?_
    exact k
set_option maxRecDepth 100000 in
set_option maxHeartbeats 400000 in
theorem c_hasRun0 {SM : zC} {SF : Nat → zQ → zP} (hZ : zZ SM SF) {Q : zQ} {H A K : zHl} {kp : Int32} {T : zTp} {S : Nat → zSh} {F : Nat → Int32} {m : zMs} {N : Nat} (hs1 : (S 0).2.1 = nI N) (hs2 : N ≤ 40) {a n : Int32} (kt : 0 ≤ a → 0 ≤ n → n.toInt ≤ (N : Int) - a.toInt → Q (some (.int 1)) (gh (H, A, K, kp, T, S, F) m)) (kf : ¬ (0 ≤ a ∧ 0 ≤ n ∧ n.toInt ≤ (N : Int) - a.toInt) → Q (some (.int 0)) (gh (H, A, K, kp, T, S, F) m)) : SM mn_S_hasRun [.ref 34, .int a, .int n] (gh (H, A, K, kp, T, S, F) m) Q := by
  have e0 : (0 : Int32).toInt = 0 := by decide
  have eN : ((S 0).2.1).toInt = N := by rw [hs1, nI_toInt (by omega)]
  refine zin hZ 999 50 rfl rfl rfl ?_
  refine ⟨fun h1 => ⟨Or.inl rfl, kf (fun z => nle_of h1 z.1)⟩, fun h1 => ⟨fun h2 => ⟨Or.inl rfl, kf (fun z => nle_of h2 z.2.1)⟩, fun h2 => ⟨fun h3 => ⟨Or.inl rfl, kf (fun z => ?_)⟩, fun h3 => ⟨fun h4 => ⟨Or.inl rfl, kf (fun z => ?_)⟩, fun h4 => ⟨Or.inr rfl, kt (le_of h1) (le_of h2) ?_⟩⟩⟩⟩⟩
  · have h3 : (S 0).2.1 < n := h3
    have z1 := z.1
    rw [zlt, eN] at h3
    rw [zle, e0] at z1
    omega
  · have h4 : (S 0).2.1 - n < a := h4
    rw [zlt, sub_sz hs1 hs2 z.2.1] at h4
    omega
  · have h4 : ¬ (S 0).2.1 - n < a := h4
    rw [zlt, sub_sz hs1 hs2 (le_of h2)] at h4
    omega
theorem c_isMissing1 {SM : zC} {SF : Nat → zQ → zP} (hZ : zZ SM SF) {Q : zQ} {H A K : zHl} {kp : Int32} {T : zTp} {S : Nat → zSh} {F : Nat → Int32} {m : zMs} (kt : (S 1).1 = 0 → Q (some (.int 1)) (gh (H, A, K, kp, T, S, F) m)) (kf : ¬ (S 1).1 = 0 → Q (some (.int 0)) (gh (H, A, K, kp, T, S, F) m)) : SM mn_S_isMissing [.ref 36] (gh (H, A, K, kp, T, S, F) m) Q := by
  refine zin hZ 999 50 rfl rfl rfl ?_
  exact ⟨fun h => ⟨Or.inl rfl, kf h⟩, fun h => ⟨Or.inr rfl, kt h⟩⟩
set_option maxRecDepth 100000 in
set_option maxHeartbeats 400000 in
theorem c_Sput1 {SM : zC} {SF : Nat → zQ → zP} (hZ : zZ SM SF) {Q : zQ} {H A K : zHl} {kp : Int32} {T : zTp} {S : Nat → zSh} {F : Nat → Int32} {m : zMs} {j : Nat} (hj : j < 40) {v : Int64} (k : Q none (gh (H, A, K, kp, T, shb S 1 ((S 1).1, (S 1).2.1, vp_updL (S 1).2.2 j (nrw (S 1).1 v)), F) m)) : SM mn_S_put [.ref 36, .int (nI j), .long v] (gh (H, A, K, kp, T, S, F) m) Q := by
  unfold nrw at k
  refine zin hZ 999 50 rfl rfl rfl ?_
  refine ⟨fun h1 => ⟨fun h2 => ⟨j, hj, rfl, ?_⟩, fun h2 => ⟨j, hj, rfl, ?_⟩⟩, fun h1 => ⟨j, hj, rfl, ?_⟩⟩
  · rw [if_neg (show ¬ (S 1).1 = 8 from h1), if_neg (show ¬ (S 1).1 = 16 from h2)] at k; exact k
  · rw [if_neg (show ¬ (S 1).1 = 8 from h1), if_pos (show (S 1).1 = 16 from h2)] at k; exact k
  · rw [if_pos (show (S 1).1 = 8 from h1)] at k; exact k
set_option maxRecDepth 100000 in
set_option maxHeartbeats 400000 in
theorem c_fill1_l {SM : zC} {SF : Nat → zQ → zP} (hZ : zZ SM SF) {Q : zQ} {H A K : zHl} {kp : Int32} {T : zTp} {S : Nat → zSh} {F : Nat → Int32} {m : zMs} {b z : Int32} (k : Q none (gh (H, A, K, kp, T, shb S 1 (b, z, fun _ => 0), F) m)) : ∀ d j f, j + d = 40 → (∀ l, l < j → f l = 0) → SF mn_J_fill Q 6 [some (.ref 37), some (.long 0), none, some (.int (nI j)), some (.int (nI 40))] [] (0, 0) (gh (H, A, K, kp, T, shb S 1 (b, z, f), F) m) := by
  intro d
  induction d with
  | zero =>
    intro j f hj hf
    refine zsame hZ (gh (H, A, K, kp, T, shb S 1 (b, z, fun _ => 0), F) m) (eH_S1 (fun l hl => hf l (by omega))) ?_
    refine zgo hZ 6 60 rfl ?_
    refine ⟨fun _ => k, fun h => absurd ((ile rfl rfl (by omega) (by omega)).mpr (by omega)) h⟩
  | succ d ih =>
    intro j f hj hf
    have h1 := ih (j + 1) (vp_updL f j 0) (by omega) (fun l hl => by
      unfold vp_updL
      by_cases h : l = j
      · rw [if_pos h]
      · rw [if_neg h]; exact hf l (by omega))
    rw [← nI_1] at h1
    refine zgo hZ 6 60 rfl ?_
    refine ⟨fun h => ?_, fun _ => ⟨j, by omega, rfl, h1⟩⟩
    have := (ile rfl rfl (by omega) (by omega)).mp h
    omega
theorem c_fill1 {SM : zC} {SF : Nat → zQ → zP} (hZ : zZ SM SF) {Q : zQ} {H A K : zHl} {kp : Int32} {T : zTp} {S : Nat → zSh} {F : Nat → Int32} {m : zMs} {b z : Int32} {f : Nat → Int64} (k : Q none (gh (H, A, K, kp, T, shb S 1 (b, z, fun _ => 0), F) m)) : SM mn_J_fill [.ref 37, .long 0] (gh (H, A, K, kp, T, shb S 1 (b, z, f), F) m) Q := by
  refine zin hZ 6 50 rfl rfl rfl ?_
  exact c_fill1_l hZ k 40 0 f (by omega) (fun l hl => by omega)
set_option maxRecDepth 100000 in
set_option maxHeartbeats 400000 in
theorem c_lay1 {SM : zC} {SF : Nat → zQ → zP} (hZ : zZ SM SF) {Q : zQ} {H A K : zHl} {kp : Int32} {T : zTp} {S : Nat → zSh} {F : Nat → Int32} {m : zMs} {b n : Int32} (k : Q none (gh (H, A, K, kp, T, shb S 1 (b, (if b = 0 then 0 else n), fun _ => 0), F) m)) : SM mn_S_lay [.ref 36, .int b, .int n] (gh (H, A, K, kp, T, S, F) m) Q := by
  refine zin hZ 999 50 rfl rfl rfl ?_
  refine ⟨fun h => ?_, fun h => ?_⟩
  · rw [if_neg (show ¬ b = 0 from h)] at k
    refine c_fill1 (H := H) (A := A) (K := K) (kp := kp) (T := T) (S := S) (F := F) (m := m) (b := b) (z := n) (f := (S 1).2.2) hZ ?_
    exact k
  · rw [if_pos (show b = 0 from h)] at k
    refine c_fill1 (H := H) (A := A) (K := K) (kp := kp) (T := T) (S := S) (F := F) (m := m) (b := b) (z := 0) (f := (S 1).2.2) hZ ?_
    exact k
set_option maxRecDepth 100000 in
set_option maxHeartbeats 400000 in
theorem c_hasRun1 {SM : zC} {SF : Nat → zQ → zP} (hZ : zZ SM SF) {Q : zQ} {H A K : zHl} {kp : Int32} {T : zTp} {S : Nat → zSh} {F : Nat → Int32} {m : zMs} {N : Nat} (hs1 : (S 1).2.1 = nI N) (hs2 : N ≤ 40) {a n : Int32} (kt : 0 ≤ a → 0 ≤ n → n.toInt ≤ (N : Int) - a.toInt → Q (some (.int 1)) (gh (H, A, K, kp, T, S, F) m)) (kf : ¬ (0 ≤ a ∧ 0 ≤ n ∧ n.toInt ≤ (N : Int) - a.toInt) → Q (some (.int 0)) (gh (H, A, K, kp, T, S, F) m)) : SM mn_S_hasRun [.ref 36, .int a, .int n] (gh (H, A, K, kp, T, S, F) m) Q := by
  have e0 : (0 : Int32).toInt = 0 := by decide
  have eN : ((S 1).2.1).toInt = N := by rw [hs1, nI_toInt (by omega)]
  refine zin hZ 999 50 rfl rfl rfl ?_
  refine ⟨fun h1 => ⟨Or.inl rfl, kf (fun z => nle_of h1 z.1)⟩, fun h1 => ⟨fun h2 => ⟨Or.inl rfl, kf (fun z => nle_of h2 z.2.1)⟩, fun h2 => ⟨fun h3 => ⟨Or.inl rfl, kf (fun z => ?_)⟩, fun h3 => ⟨fun h4 => ⟨Or.inl rfl, kf (fun z => ?_)⟩, fun h4 => ⟨Or.inr rfl, kt (le_of h1) (le_of h2) ?_⟩⟩⟩⟩⟩
  · have h3 : (S 1).2.1 < n := h3
    have z1 := z.1
    rw [zlt, eN] at h3
    rw [zle, e0] at z1
    omega
  · have h4 : (S 1).2.1 - n < a := h4
    rw [zlt, sub_sz hs1 hs2 z.2.1] at h4
    omega
  · have h4 : ¬ (S 1).2.1 - n < a := h4
    rw [zlt, sub_sz hs1 hs2 (le_of h2)] at h4
    omega
theorem c_isMissing2 {SM : zC} {SF : Nat → zQ → zP} (hZ : zZ SM SF) {Q : zQ} {H A K : zHl} {kp : Int32} {T : zTp} {S : Nat → zSh} {F : Nat → Int32} {m : zMs} (kt : (S 2).1 = 0 → Q (some (.int 1)) (gh (H, A, K, kp, T, S, F) m)) (kf : ¬ (S 2).1 = 0 → Q (some (.int 0)) (gh (H, A, K, kp, T, S, F) m)) : SM mn_S_isMissing [.ref 38] (gh (H, A, K, kp, T, S, F) m) Q := by
  refine zin hZ 999 50 rfl rfl rfl ?_
  exact ⟨fun h => ⟨Or.inl rfl, kf h⟩, fun h => ⟨Or.inr rfl, kt h⟩⟩
set_option maxRecDepth 100000 in
set_option maxHeartbeats 400000 in
theorem c_Sput2 {SM : zC} {SF : Nat → zQ → zP} (hZ : zZ SM SF) {Q : zQ} {H A K : zHl} {kp : Int32} {T : zTp} {S : Nat → zSh} {F : Nat → Int32} {m : zMs} {j : Nat} (hj : j < 40) {v : Int64} (k : Q none (gh (H, A, K, kp, T, shb S 2 ((S 2).1, (S 2).2.1, vp_updL (S 2).2.2 j (nrw (S 2).1 v)), F) m)) : SM mn_S_put [.ref 38, .int (nI j), .long v] (gh (H, A, K, kp, T, S, F) m) Q := by
  unfold nrw at k
  refine zin hZ 999 50 rfl rfl rfl ?_
  refine ⟨fun h1 => ⟨fun h2 => ⟨j, hj, rfl, ?_⟩, fun h2 => ⟨j, hj, rfl, ?_⟩⟩, fun h1 => ⟨j, hj, rfl, ?_⟩⟩
  · rw [if_neg (show ¬ (S 2).1 = 8 from h1), if_neg (show ¬ (S 2).1 = 16 from h2)] at k; exact k
  · rw [if_neg (show ¬ (S 2).1 = 8 from h1), if_pos (show (S 2).1 = 16 from h2)] at k; exact k
  · rw [if_pos (show (S 2).1 = 8 from h1)] at k; exact k
set_option maxRecDepth 100000 in
set_option maxHeartbeats 400000 in
theorem c_fill2_l {SM : zC} {SF : Nat → zQ → zP} (hZ : zZ SM SF) {Q : zQ} {H A K : zHl} {kp : Int32} {T : zTp} {S : Nat → zSh} {F : Nat → Int32} {m : zMs} {b z : Int32} (k : Q none (gh (H, A, K, kp, T, shb S 2 (b, z, fun _ => 0), F) m)) : ∀ d j f, j + d = 40 → (∀ l, l < j → f l = 0) → SF mn_J_fill Q 6 [some (.ref 39), some (.long 0), none, some (.int (nI j)), some (.int (nI 40))] [] (0, 0) (gh (H, A, K, kp, T, shb S 2 (b, z, f), F) m) := by
  intro d
  induction d with
  | zero =>
    intro j f hj hf
    refine zsame hZ (gh (H, A, K, kp, T, shb S 2 (b, z, fun _ => 0), F) m) (eH_S2 (fun l hl => hf l (by omega))) ?_
    refine zgo hZ 6 60 rfl ?_
    refine ⟨fun _ => k, fun h => absurd ((ile rfl rfl (by omega) (by omega)).mpr (by omega)) h⟩
  | succ d ih =>
    intro j f hj hf
    have h1 := ih (j + 1) (vp_updL f j 0) (by omega) (fun l hl => by
      unfold vp_updL
      by_cases h : l = j
      · rw [if_pos h]
      · rw [if_neg h]; exact hf l (by omega))
    rw [← nI_1] at h1
    refine zgo hZ 6 60 rfl ?_
    refine ⟨fun h => ?_, fun _ => ⟨j, by omega, rfl, h1⟩⟩
    have := (ile rfl rfl (by omega) (by omega)).mp h
    omega
theorem c_fill2 {SM : zC} {SF : Nat → zQ → zP} (hZ : zZ SM SF) {Q : zQ} {H A K : zHl} {kp : Int32} {T : zTp} {S : Nat → zSh} {F : Nat → Int32} {m : zMs} {b z : Int32} {f : Nat → Int64} (k : Q none (gh (H, A, K, kp, T, shb S 2 (b, z, fun _ => 0), F) m)) : SM mn_J_fill [.ref 39, .long 0] (gh (H, A, K, kp, T, shb S 2 (b, z, f), F) m) Q := by
  refine zin hZ 6 50 rfl rfl rfl ?_
  exact c_fill2_l hZ k 40 0 f (by omega) (fun l hl => by omega)
set_option maxRecDepth 100000 in
set_option maxHeartbeats 400000 in
theorem c_lay2 {SM : zC} {SF : Nat → zQ → zP} (hZ : zZ SM SF) {Q : zQ} {H A K : zHl} {kp : Int32} {T : zTp} {S : Nat → zSh} {F : Nat → Int32} {m : zMs} {b n : Int32} (k : Q none (gh (H, A, K, kp, T, shb S 2 (b, (if b = 0 then 0 else n), fun _ => 0), F) m)) : SM mn_S_lay [.ref 38, .int b, .int n] (gh (H, A, K, kp, T, S, F) m) Q := by
  refine zin hZ 999 50 rfl rfl rfl ?_
  refine ⟨fun h => ?_, fun h => ?_⟩
  · rw [if_neg (show ¬ b = 0 from h)] at k
    refine c_fill2 (H := H) (A := A) (K := K) (kp := kp) (T := T) (S := S) (F := F) (m := m) (b := b) (z := n) (f := (S 2).2.2) hZ ?_
    exact k
  · rw [if_pos (show b = 0 from h)] at k
    refine c_fill2 (H := H) (A := A) (K := K) (kp := kp) (T := T) (S := S) (F := F) (m := m) (b := b) (z := 0) (f := (S 2).2.2) hZ ?_
    exact k
set_option maxRecDepth 100000 in
set_option maxHeartbeats 400000 in
theorem c_hasRun2 {SM : zC} {SF : Nat → zQ → zP} (hZ : zZ SM SF) {Q : zQ} {H A K : zHl} {kp : Int32} {T : zTp} {S : Nat → zSh} {F : Nat → Int32} {m : zMs} {N : Nat} (hs1 : (S 2).2.1 = nI N) (hs2 : N ≤ 40) {a n : Int32} (kt : 0 ≤ a → 0 ≤ n → n.toInt ≤ (N : Int) - a.toInt → Q (some (.int 1)) (gh (H, A, K, kp, T, S, F) m)) (kf : ¬ (0 ≤ a ∧ 0 ≤ n ∧ n.toInt ≤ (N : Int) - a.toInt) → Q (some (.int 0)) (gh (H, A, K, kp, T, S, F) m)) : SM mn_S_hasRun [.ref 38, .int a, .int n] (gh (H, A, K, kp, T, S, F) m) Q := by
  have e0 : (0 : Int32).toInt = 0 := by decide
  have eN : ((S 2).2.1).toInt = N := by rw [hs1, nI_toInt (by omega)]
  refine zin hZ 999 50 rfl rfl rfl ?_
  refine ⟨fun h1 => ⟨Or.inl rfl, kf (fun z => nle_of h1 z.1)⟩, fun h1 => ⟨fun h2 => ⟨Or.inl rfl, kf (fun z => nle_of h2 z.2.1)⟩, fun h2 => ⟨fun h3 => ⟨Or.inl rfl, kf (fun z => ?_)⟩, fun h3 => ⟨fun h4 => ⟨Or.inl rfl, kf (fun z => ?_)⟩, fun h4 => ⟨Or.inr rfl, kt (le_of h1) (le_of h2) ?_⟩⟩⟩⟩⟩
  · have h3 : (S 2).2.1 < n := h3
    have z1 := z.1
    rw [zlt, eN] at h3
    rw [zle, e0] at z1
    omega
  · have h4 : (S 2).2.1 - n < a := h4
    rw [zlt, sub_sz hs1 hs2 z.2.1] at h4
    omega
  · have h4 : ¬ (S 2).2.1 - n < a := h4
    rw [zlt, sub_sz hs1 hs2 (le_of h2)] at h4
    omega
theorem c_isMissing3 {SM : zC} {SF : Nat → zQ → zP} (hZ : zZ SM SF) {Q : zQ} {H A K : zHl} {kp : Int32} {T : zTp} {S : Nat → zSh} {F : Nat → Int32} {m : zMs} (kt : (S 3).1 = 0 → Q (some (.int 1)) (gh (H, A, K, kp, T, S, F) m)) (kf : ¬ (S 3).1 = 0 → Q (some (.int 0)) (gh (H, A, K, kp, T, S, F) m)) : SM mn_S_isMissing [.ref 40] (gh (H, A, K, kp, T, S, F) m) Q := by
  refine zin hZ 999 50 rfl rfl rfl ?_
  exact ⟨fun h => ⟨Or.inl rfl, kf h⟩, fun h => ⟨Or.inr rfl, kt h⟩⟩
set_option maxRecDepth 100000 in
set_option maxHeartbeats 400000 in
theorem c_Sput3 {SM : zC} {SF : Nat → zQ → zP} (hZ : zZ SM SF) {Q : zQ} {H A K : zHl} {kp : Int32} {T : zTp} {S : Nat → zSh} {F : Nat → Int32} {m : zMs} {j : Nat} (hj : j < 40) {v : Int64} (k : Q none (gh (H, A, K, kp, T, shb S 3 ((S 3).1, (S 3).2.1, vp_updL (S 3).2.2 j (nrw (S 3).1 v)), F) m)) : SM mn_S_put [.ref 40, .int (nI j), .long v] (gh (H, A, K, kp, T, S, F) m) Q := by
  unfold nrw at k
  refine zin hZ 999 50 rfl rfl rfl ?_
  refine ⟨fun h1 => ⟨fun h2 => ⟨j, hj, rfl, ?_⟩, fun h2 => ⟨j, hj, rfl, ?_⟩⟩, fun h1 => ⟨j, hj, rfl, ?_⟩⟩
  · rw [if_neg (show ¬ (S 3).1 = 8 from h1), if_neg (show ¬ (S 3).1 = 16 from h2)] at k; exact k
  · rw [if_neg (show ¬ (S 3).1 = 8 from h1), if_pos (show (S 3).1 = 16 from h2)] at k; exact k
  · rw [if_pos (show (S 3).1 = 8 from h1)] at k; exact k
set_option maxRecDepth 100000 in
set_option maxHeartbeats 400000 in
theorem c_fill3_l {SM : zC} {SF : Nat → zQ → zP} (hZ : zZ SM SF) {Q : zQ} {H A K : zHl} {kp : Int32} {T : zTp} {S : Nat → zSh} {F : Nat → Int32} {m : zMs} {b z : Int32} (k : Q none (gh (H, A, K, kp, T, shb S 3 (b, z, fun _ => 0), F) m)) : ∀ d j f, j + d = 40 → (∀ l, l < j → f l = 0) → SF mn_J_fill Q 6 [some (.ref 41), some (.long 0), none, some (.int (nI j)), some (.int (nI 40))] [] (0, 0) (gh (H, A, K, kp, T, shb S 3 (b, z, f), F) m) := by
  intro d
  induction d with
  | zero =>
    intro j f hj hf
    refine zsame hZ (gh (H, A, K, kp, T, shb S 3 (b, z, fun _ => 0), F) m) (eH_S3 (fun l hl => hf l (by omega))) ?_
    refine zgo hZ 6 60 rfl ?_
    refine ⟨fun _ => k, fun h => absurd ((ile rfl rfl (by omega) (by omega)).mpr (by omega)) h⟩
  | succ d ih =>
    intro j f hj hf
    have h1 := ih (j + 1) (vp_updL f j 0) (by omega) (fun l hl => by
      unfold vp_updL
      by_cases h : l = j
      · rw [if_pos h]
      · rw [if_neg h]; exact hf l (by omega))
    rw [← nI_1] at h1
    refine zgo hZ 6 60 rfl ?_
    refine ⟨fun h => ?_, fun _ => ⟨j, by omega, rfl, h1⟩⟩
    have := (ile rfl rfl (by omega) (by omega)).mp h
    omega
theorem c_fill3 {SM : zC} {SF : Nat → zQ → zP} (hZ : zZ SM SF) {Q : zQ} {H A K : zHl} {kp : Int32} {T : zTp} {S : Nat → zSh} {F : Nat → Int32} {m : zMs} {b z : Int32} {f : Nat → Int64} (k : Q none (gh (H, A, K, kp, T, shb S 3 (b, z, fun _ => 0), F) m)) : SM mn_J_fill [.ref 41, .long 0] (gh (H, A, K, kp, T, shb S 3 (b, z, f), F) m) Q := by
  refine zin hZ 6 50 rfl rfl rfl ?_
  exact c_fill3_l hZ k 40 0 f (by omega) (fun l hl => by omega)
set_option maxRecDepth 100000 in
set_option maxHeartbeats 400000 in
theorem c_lay3 {SM : zC} {SF : Nat → zQ → zP} (hZ : zZ SM SF) {Q : zQ} {H A K : zHl} {kp : Int32} {T : zTp} {S : Nat → zSh} {F : Nat → Int32} {m : zMs} {b n : Int32} (k : Q none (gh (H, A, K, kp, T, shb S 3 (b, (if b = 0 then 0 else n), fun _ => 0), F) m)) : SM mn_S_lay [.ref 40, .int b, .int n] (gh (H, A, K, kp, T, S, F) m) Q := by
  refine zin hZ 999 50 rfl rfl rfl ?_
  refine ⟨fun h => ?_, fun h => ?_⟩
  · rw [if_neg (show ¬ b = 0 from h)] at k
    refine c_fill3 (H := H) (A := A) (K := K) (kp := kp) (T := T) (S := S) (F := F) (m := m) (b := b) (z := n) (f := (S 3).2.2) hZ ?_
    exact k
  · rw [if_pos (show b = 0 from h)] at k
    refine c_fill3 (H := H) (A := A) (K := K) (kp := kp) (T := T) (S := S) (F := F) (m := m) (b := b) (z := 0) (f := (S 3).2.2) hZ ?_
    exact k
set_option maxRecDepth 100000 in
set_option maxHeartbeats 400000 in
theorem c_hasRun3 {SM : zC} {SF : Nat → zQ → zP} (hZ : zZ SM SF) {Q : zQ} {H A K : zHl} {kp : Int32} {T : zTp} {S : Nat → zSh} {F : Nat → Int32} {m : zMs} {N : Nat} (hs1 : (S 3).2.1 = nI N) (hs2 : N ≤ 40) {a n : Int32} (kt : 0 ≤ a → 0 ≤ n → n.toInt ≤ (N : Int) - a.toInt → Q (some (.int 1)) (gh (H, A, K, kp, T, S, F) m)) (kf : ¬ (0 ≤ a ∧ 0 ≤ n ∧ n.toInt ≤ (N : Int) - a.toInt) → Q (some (.int 0)) (gh (H, A, K, kp, T, S, F) m)) : SM mn_S_hasRun [.ref 40, .int a, .int n] (gh (H, A, K, kp, T, S, F) m) Q := by
  have e0 : (0 : Int32).toInt = 0 := by decide
  have eN : ((S 3).2.1).toInt = N := by rw [hs1, nI_toInt (by omega)]
  refine zin hZ 999 50 rfl rfl rfl ?_
  refine ⟨fun h1 => ⟨Or.inl rfl, kf (fun z => nle_of h1 z.1)⟩, fun h1 => ⟨fun h2 => ⟨Or.inl rfl, kf (fun z => nle_of h2 z.2.1)⟩, fun h2 => ⟨fun h3 => ⟨Or.inl rfl, kf (fun z => ?_)⟩, fun h3 => ⟨fun h4 => ⟨Or.inl rfl, kf (fun z => ?_)⟩, fun h4 => ⟨Or.inr rfl, kt (le_of h1) (le_of h2) ?_⟩⟩⟩⟩⟩
  · have h3 : (S 3).2.1 < n := h3
    have z1 := z.1
    rw [zlt, eN] at h3
    rw [zle, e0] at z1
    omega
  · have h4 : (S 3).2.1 - n < a := h4
    rw [zlt, sub_sz hs1 hs2 z.2.1] at h4
    omega
  · have h4 : ¬ (S 3).2.1 - n < a := h4
    rw [zlt, sub_sz hs1 hs2 (le_of h2)] at h4
    omega
theorem sp_sheet_y {S : Nat → zSh} {F : Nat → Int32} {t : Nat} {b m : Int32} (ht : t < 4) (hb : b = 0 ∨ b = 8 ∨ b = 16 ∨ b = 64) : sp_sheet S F (nI t) b m = (if m < 0 then (-1000000007, S, upd F 6 (F 6 + 1)) else if 40 < m then (-1000000001, S, upd F 0 (F 0 + 1)) else ((if b = 0 then 0 else m), shb S t (b, (if b = 0 then 0 else m), fun _ => 0), F)) := by
  unfold sp_sheet
  rw [if_pos ⟨zIn4.mp ⟨t, ht, rfl⟩, hb⟩, ix_nI (by omega)]
set_option maxRecDepth 100000 in
set_option maxHeartbeats 400000 in
theorem c_sheet0 {SM : zC} {SF : Nat → zQ → zP} (hZ : zZ SM SF) {Q : zQ} {H A K : zHl} {kp : Int32} {T : zTp} {S : Nat → zSh} {F : Nat → Int32} {m : zMs} {b n : Int32} (k : Q (some (.int (if b = 0 then 0 else n))) (gh (H, A, K, kp, T, shb S 0 (b, (if b = 0 then 0 else n), fun _ => 0), F) m)) : SF mn_X_sheet Q 66 [some (.ref 0), some (.int (nI 0)), some (.int b), some (.int n)] [.ref 34] (0, 0) (gh (H, A, K, kp, T, S, F) m) := by
  refine zgo hZ 999 50 rfl ?_
  refine c_lay0 hZ ?_
  exact ⟨0, by decide, rfl, 34, rfl, k⟩
set_option maxRecDepth 100000 in
set_option maxHeartbeats 400000 in
theorem c_sheet1 {SM : zC} {SF : Nat → zQ → zP} (hZ : zZ SM SF) {Q : zQ} {H A K : zHl} {kp : Int32} {T : zTp} {S : Nat → zSh} {F : Nat → Int32} {m : zMs} {b n : Int32} (k : Q (some (.int (if b = 0 then 0 else n))) (gh (H, A, K, kp, T, shb S 1 (b, (if b = 0 then 0 else n), fun _ => 0), F) m)) : SF mn_X_sheet Q 66 [some (.ref 0), some (.int (nI 1)), some (.int b), some (.int n)] [.ref 36] (0, 0) (gh (H, A, K, kp, T, S, F) m) := by
  refine zgo hZ 999 50 rfl ?_
  refine c_lay1 hZ ?_
  exact ⟨1, by decide, rfl, 36, rfl, k⟩
set_option maxRecDepth 100000 in
set_option maxHeartbeats 400000 in
theorem c_sheet2 {SM : zC} {SF : Nat → zQ → zP} (hZ : zZ SM SF) {Q : zQ} {H A K : zHl} {kp : Int32} {T : zTp} {S : Nat → zSh} {F : Nat → Int32} {m : zMs} {b n : Int32} (k : Q (some (.int (if b = 0 then 0 else n))) (gh (H, A, K, kp, T, shb S 2 (b, (if b = 0 then 0 else n), fun _ => 0), F) m)) : SF mn_X_sheet Q 66 [some (.ref 0), some (.int (nI 2)), some (.int b), some (.int n)] [.ref 38] (0, 0) (gh (H, A, K, kp, T, S, F) m) := by
  refine zgo hZ 999 50 rfl ?_
  refine c_lay2 hZ ?_
  exact ⟨2, by decide, rfl, 38, rfl, k⟩
set_option maxRecDepth 100000 in
set_option maxHeartbeats 400000 in
theorem c_sheet3 {SM : zC} {SF : Nat → zQ → zP} (hZ : zZ SM SF) {Q : zQ} {H A K : zHl} {kp : Int32} {T : zTp} {S : Nat → zSh} {F : Nat → Int32} {m : zMs} {b n : Int32} (k : Q (some (.int (if b = 0 then 0 else n))) (gh (H, A, K, kp, T, shb S 3 (b, (if b = 0 then 0 else n), fun _ => 0), F) m)) : SF mn_X_sheet Q 66 [some (.ref 0), some (.int (nI 3)), some (.int b), some (.int n)] [.ref 40] (0, 0) (gh (H, A, K, kp, T, S, F) m) := by
  refine zgo hZ 999 50 rfl ?_
  refine c_lay3 hZ ?_
  exact ⟨3, by decide, rfl, 40, rfl, k⟩
set_option maxRecDepth 100000 in
set_option maxHeartbeats 400000 in
theorem c_sheet_b {SM : zC} {SF : Nat → zQ → zP} (hZ : zZ SM SF) {Q : zQ} {H A K : zHl} {kp : Int32} {T : zTp} {S : Nat → zSh} {F : Nat → Int32} {m : zMs} {s : Nat} (hs : s < 4) {b n : Int32} (hb : b = 0 ∨ b = 8 ∨ b = 16 ∨ b = 64) (k : Q (some (.int (sp_sheet S F (nI s) b n).1)) (gh (H, A, K, kp, T, (sp_sheet S F (nI s) b n).2.1, (sp_sheet S F (nI s) b n).2.2) m)) : SF mn_X_sheet Q 36 [some (.ref 0), some (.int (nI s)), some (.int b), some (.int n)] [] (0, 0) (gh (H, A, K, kp, T, S, F) m) := by
  rw [sp_sheet_y hs hb] at k
  refine zgo hZ 66 50 rfl ?_
  refine ⟨fun h1 => ⟨fun h2 => ?_, fun h2 => ?_⟩, fun h1 => ?_⟩
  · rw [if_neg (nlt_of h1), if_neg (nlt_of h2)] at k
    match s, hs with
    | 0, _ => exact ⟨0, by decide, rfl, 34, rfl, c_sheet0 hZ k⟩
    | 1, _ => exact ⟨1, by decide, rfl, 36, rfl, c_sheet1 hZ k⟩
    | 2, _ => exact ⟨2, by decide, rfl, 38, rfl, c_sheet2 hZ k⟩
    | 3, _ => exact ⟨3, by decide, rfl, 40, rfl, c_sheet3 hZ k⟩
  · rw [if_neg (nlt_of h1), if_pos (lt_of h2)] at k
    exact c_tell hZ 0 (by decide) rfl k
  · rw [if_pos (lt_of h1)] at k
    exact c_tell hZ 6 (by decide) rfl k
set_option maxRecDepth 100000 in
set_option maxHeartbeats 400000 in
theorem c_sheet {SM : zC} {SF : Nat → zQ → zP} (hZ : zZ SM SF) {Q : zQ} {H A K : zHl} {kp : Int32} {T : zTp} {S : Nat → zSh} {F : Nat → Int32} {m : zMs} {s b n : Int32} (k : Q (some (.int (sp_sheet S F s b n).1)) (gh (H, A, K, kp, T, (sp_sheet S F s b n).2.1, (sp_sheet S F s b n).2.2) m)) : SM mn_X_sheet [.ref 0, .int s, .int b, .int n] (gh (H, A, K, kp, T, S, F) m) Q := by
  refine zin hZ 36 99 rfl rfl rfl ?_
  refine c_isNoSheet hZ (fun h => ⟨fun _ => ?_, nt⟩) (fun h => ⟨nf, fun _ => ?_⟩)
  · rw [sp_sheet_n (fun z => h (zIn4.mpr z.1))] at k
    exact c_tell hZ 0 (by decide) rfl k
  · obtain ⟨t, ht, rfl⟩ := h
    refine ⟨fun h1 => c_sheet_b hZ ht (Or.inl h1) k, fun h1 => ⟨fun h2 => c_sheet_b hZ ht (Or.inr (Or.inl h2)) k, fun h2 => ⟨fun h3 => c_sheet_b hZ ht (Or.inr (Or.inr (Or.inl h3))) k, fun h3 => ⟨fun h4 => c_sheet_b hZ ht (Or.inr (Or.inr (Or.inr h4))) k, fun h4 => ?_⟩⟩⟩⟩
    rw [sp_sheet_n (fun z => z.2.elim h1 (fun z => z.elim h2 (fun z => z.elim h3 h4)))] at k
    exact c_tell hZ 0 (by decide) rfl k
def wr1 (S : Nat → zSh) (F : Nat → Int32) (t : Nat) (i : Int32) (v : Int64) : zA5 :=
  if (S t).1 = 0 then ((-1000000006 : Int32).toInt64, S, upd F 5 (F 5 + 1))
    else if 0 ≤ i ∧ i < (S t).2.1 then ((S t).2.2 (ix i), shb S t ((S t).1, (S t).2.1, vp_updL (S t).2.2 (ix i) (nrw (S t).1 v)), F)
    else ((-1000000001 : Int32).toInt64, S, upd F 0 (F 0 + 1))
theorem sp_write_y {S : Nat → zSh} {F : Nat → Int32} {t : Nat} {i : Int32} {v : Int64} (ht : t < 4) : sp_write S F (nI t) i v = wr1 S F t i v := by
  unfold sp_write wr1
  rw [if_pos (zIn4.mp ⟨t, ht, rfl⟩), ix_nI (show t < 1000 by omega)]
theorem sp_write_n {S : Nat → zSh} {F : Nat → Int32} {t : Int32} {i : Int32} {v : Int64} (ht : ¬ zIn t 4) : sp_write S F t i v = ((-1000000001 : Int32).toInt64, S, upd F 0 (F 0 + 1)) := by
  unfold sp_write
  rw [if_neg (fun z => ht (zIn4.mpr z))]
set_option maxRecDepth 100000 in
set_option maxHeartbeats 400000 in
theorem c_write0 {SM : zC} {SF : Nat → zQ → zP} (hZ : zZ SM SF) {Q : zQ} {H A K : zHl} {kp : Int32} {T : zTp} {S : Nat → zSh} {F : Nat → Int32} {m : zMs} (hS : wS S) {i : Int32} {v : Int64} (k : Q (some (.long (wr1 S F 0 i v).1)) (gh (H, A, K, kp, T, (wr1 S F 0 i v).2.1, (wr1 S F 0 i v).2.2) m)) : SF mn_X_write Q 21 [some (.ref 0), some (.int (nI 0)), some (.int i), some (.long v), none, none, none, none] [.ref 34] (0, 0) (gh (H, A, K, kp, T, S, F) m) := by
  obtain ⟨hs1, hs2⟩ := hS 0 (by decide)
  unfold wr1 at k
  refine zgo hZ 999 50 rfl ?_
  refine c_isMissing0 hZ (fun h1 => ⟨nt, fun _ => ?_⟩) (fun h1 => ⟨fun _ => ?_, nf⟩)
  · rw [if_pos h1] at k
    exact c_tell hZ 5 (by decide) rfl k
  · rw [if_neg h1] at k
    refine c_isOutside hZ (fun h2 => ⟨nt, fun _ => ?_⟩) (fun h2 h3 => ⟨fun _ => ?_, nf⟩)
    · rw [if_neg (fun z => h2 ?_)] at k
      · exact c_tell hZ 0 (by decide) rfl k
      · rw [hs1] at z
        have y := (zIn_iff (n := sz S 0) (by omega)).mp ((zIn_lt (by omega)).mpr z)
        rw [← hs1] at y
        exact y
    · have h3 : i ≤ (S 0).2.1 - 1 := h3
      rw [hs1] at h3
      obtain ⟨j, hj, rfl⟩ := (zIn_iff (n := sz S 0) (by omega)).mpr ⟨h2, h3⟩
      rw [ix_nI (by omega), if_pos (by rw [hs1]; exact (zIn_lt (by omega)).mp ⟨j, hj, rfl⟩)] at k
      refine ⟨j, by omega, rfl, ?_⟩
      exact c_Sput0 hZ (by omega) k
set_option maxRecDepth 100000 in
set_option maxHeartbeats 400000 in
theorem c_write1 {SM : zC} {SF : Nat → zQ → zP} (hZ : zZ SM SF) {Q : zQ} {H A K : zHl} {kp : Int32} {T : zTp} {S : Nat → zSh} {F : Nat → Int32} {m : zMs} (hS : wS S) {i : Int32} {v : Int64} (k : Q (some (.long (wr1 S F 1 i v).1)) (gh (H, A, K, kp, T, (wr1 S F 1 i v).2.1, (wr1 S F 1 i v).2.2) m)) : SF mn_X_write Q 21 [some (.ref 0), some (.int (nI 1)), some (.int i), some (.long v), none, none, none, none] [.ref 36] (0, 0) (gh (H, A, K, kp, T, S, F) m) := by
  obtain ⟨hs1, hs2⟩ := hS 1 (by decide)
  unfold wr1 at k
  refine zgo hZ 999 50 rfl ?_
  refine c_isMissing1 hZ (fun h1 => ⟨nt, fun _ => ?_⟩) (fun h1 => ⟨fun _ => ?_, nf⟩)
  · rw [if_pos h1] at k
    exact c_tell hZ 5 (by decide) rfl k
  · rw [if_neg h1] at k
    refine c_isOutside hZ (fun h2 => ⟨nt, fun _ => ?_⟩) (fun h2 h3 => ⟨fun _ => ?_, nf⟩)
    · rw [if_neg (fun z => h2 ?_)] at k
      · exact c_tell hZ 0 (by decide) rfl k
      · rw [hs1] at z
        have y := (zIn_iff (n := sz S 1) (by omega)).mp ((zIn_lt (by omega)).mpr z)
        rw [← hs1] at y
        exact y
    · have h3 : i ≤ (S 1).2.1 - 1 := h3
      rw [hs1] at h3
      obtain ⟨j, hj, rfl⟩ := (zIn_iff (n := sz S 1) (by omega)).mpr ⟨h2, h3⟩
      rw [ix_nI (by omega), if_pos (by rw [hs1]; exact (zIn_lt (by omega)).mp ⟨j, hj, rfl⟩)] at k
      refine ⟨j, by omega, rfl, ?_⟩
      exact c_Sput1 hZ (by omega) k
set_option maxRecDepth 100000 in
set_option maxHeartbeats 400000 in
theorem c_write2 {SM : zC} {SF : Nat → zQ → zP} (hZ : zZ SM SF) {Q : zQ} {H A K : zHl} {kp : Int32} {T : zTp} {S : Nat → zSh} {F : Nat → Int32} {m : zMs} (hS : wS S) {i : Int32} {v : Int64} (k : Q (some (.long (wr1 S F 2 i v).1)) (gh (H, A, K, kp, T, (wr1 S F 2 i v).2.1, (wr1 S F 2 i v).2.2) m)) : SF mn_X_write Q 21 [some (.ref 0), some (.int (nI 2)), some (.int i), some (.long v), none, none, none, none] [.ref 38] (0, 0) (gh (H, A, K, kp, T, S, F) m) := by
  obtain ⟨hs1, hs2⟩ := hS 2 (by decide)
  unfold wr1 at k
  refine zgo hZ 999 50 rfl ?_
  refine c_isMissing2 hZ (fun h1 => ⟨nt, fun _ => ?_⟩) (fun h1 => ⟨fun _ => ?_, nf⟩)
  · rw [if_pos h1] at k
    exact c_tell hZ 5 (by decide) rfl k
  · rw [if_neg h1] at k
    refine c_isOutside hZ (fun h2 => ⟨nt, fun _ => ?_⟩) (fun h2 h3 => ⟨fun _ => ?_, nf⟩)
    · rw [if_neg (fun z => h2 ?_)] at k
      · exact c_tell hZ 0 (by decide) rfl k
      · rw [hs1] at z
        have y := (zIn_iff (n := sz S 2) (by omega)).mp ((zIn_lt (by omega)).mpr z)
        rw [← hs1] at y
        exact y
    · have h3 : i ≤ (S 2).2.1 - 1 := h3
      rw [hs1] at h3
      obtain ⟨j, hj, rfl⟩ := (zIn_iff (n := sz S 2) (by omega)).mpr ⟨h2, h3⟩
      rw [ix_nI (by omega), if_pos (by rw [hs1]; exact (zIn_lt (by omega)).mp ⟨j, hj, rfl⟩)] at k
      refine ⟨j, by omega, rfl, ?_⟩
      exact c_Sput2 hZ (by omega) k
set_option maxRecDepth 100000 in
set_option maxHeartbeats 400000 in
theorem c_write3 {SM : zC} {SF : Nat → zQ → zP} (hZ : zZ SM SF) {Q : zQ} {H A K : zHl} {kp : Int32} {T : zTp} {S : Nat → zSh} {F : Nat → Int32} {m : zMs} (hS : wS S) {i : Int32} {v : Int64} (k : Q (some (.long (wr1 S F 3 i v).1)) (gh (H, A, K, kp, T, (wr1 S F 3 i v).2.1, (wr1 S F 3 i v).2.2) m)) : SF mn_X_write Q 21 [some (.ref 0), some (.int (nI 3)), some (.int i), some (.long v), none, none, none, none] [.ref 40] (0, 0) (gh (H, A, K, kp, T, S, F) m) := by
  obtain ⟨hs1, hs2⟩ := hS 3 (by decide)
  unfold wr1 at k
  refine zgo hZ 999 50 rfl ?_
  refine c_isMissing3 hZ (fun h1 => ⟨nt, fun _ => ?_⟩) (fun h1 => ⟨fun _ => ?_, nf⟩)
  · rw [if_pos h1] at k
    exact c_tell hZ 5 (by decide) rfl k
  · rw [if_neg h1] at k
    refine c_isOutside hZ (fun h2 => ⟨nt, fun _ => ?_⟩) (fun h2 h3 => ⟨fun _ => ?_, nf⟩)
    · rw [if_neg (fun z => h2 ?_)] at k
      · exact c_tell hZ 0 (by decide) rfl k
      · rw [hs1] at z
        have y := (zIn_iff (n := sz S 3) (by omega)).mp ((zIn_lt (by omega)).mpr z)
        rw [← hs1] at y
        exact y
    · have h3 : i ≤ (S 3).2.1 - 1 := h3
      rw [hs1] at h3
      obtain ⟨j, hj, rfl⟩ := (zIn_iff (n := sz S 3) (by omega)).mpr ⟨h2, h3⟩
      rw [ix_nI (by omega), if_pos (by rw [hs1]; exact (zIn_lt (by omega)).mp ⟨j, hj, rfl⟩)] at k
      refine ⟨j, by omega, rfl, ?_⟩
      exact c_Sput3 hZ (by omega) k
set_option maxRecDepth 100000 in
set_option maxHeartbeats 400000 in
theorem c_write {SM : zC} {SF : Nat → zQ → zP} (hZ : zZ SM SF) {Q : zQ} {H A K : zHl} {kp : Int32} {T : zTp} {S : Nat → zSh} {F : Nat → Int32} {m : zMs} (hS : wS S) {s i : Int32} {v : Int64} (k : Q (some (.long (sp_write S F s i v).1)) (gh (H, A, K, kp, T, (sp_write S F s i v).2.1, (sp_write S F s i v).2.2) m)) : SM mn_X_write [.ref 0, .int s, .int i, .long v] (gh (H, A, K, kp, T, S, F) m) Q := by
  refine zin hZ 21 99 rfl rfl rfl ?_
  refine c_isNoSheet hZ (fun h => ⟨nt, fun _ => ?_⟩) (fun h => ⟨fun _ => ?_, nf⟩)
  · rw [sp_write_n h] at k
    exact c_tell hZ 0 (by decide) rfl k
  · obtain ⟨t, ht, rfl⟩ := h
    rw [sp_write_y ht] at k
    match t, ht with
    | 0, _ => exact ⟨0, by decide, rfl, 34, rfl, c_write0 hZ hS k⟩
    | 1, _ => exact ⟨1, by decide, rfl, 36, rfl, c_write1 hZ hS k⟩
    | 2, _ => exact ⟨2, by decide, rfl, 38, rfl, c_write2 hZ hS k⟩
    | 3, _ => exact ⟨3, by decide, rfl, 40, rfl, c_write3 hZ hS k⟩
