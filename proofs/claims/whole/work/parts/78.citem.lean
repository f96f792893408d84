/-! THE CLASS'S TAPE: words, numbers, items -/
theorem sor_1 {tp : Nat → Int32} {tl s : Nat} : sor tp tl s = 1 ↔ lt (byt tp tl s) := by
  unfold sor byt
  by_cases h : s < tl
  · rw [if_pos h, if_pos h]
    by_cases h1 : lt (tp s)
    · rw [if_pos h1]; exact ⟨fun _ => h1, fun _ => rfl⟩
    · rw [if_neg h1]
      refine ⟨fun z => ?_, fun z => absurd z h1⟩
      by_cases h2 : dg (tp s)
      · rw [if_pos h2] at z; exact absurd z (by decide)
      · rw [if_neg h2] at z
        by_cases h3 : tp s = 59
        · rw [if_pos h3] at z; exact absurd z (by decide)
        · rw [if_neg h3] at z; exact absurd z (by decide)
  · rw [if_neg h, if_neg h]
    exact ⟨fun z => absurd z (by decide), fun z => absurd z lt_m1⟩
theorem sor_2 {tp : Nat → Int32} {tl s : Nat} : sor tp tl s = 2 ↔ dg (byt tp tl s) := by
  unfold sor byt
  by_cases h : s < tl
  · rw [if_pos h, if_pos h]
    by_cases h1 : lt (tp s)
    · rw [if_pos h1]; exact ⟨fun z => absurd z (by decide), fun z => absurd z (lt_dg h1)⟩
    · rw [if_neg h1]
      by_cases h2 : dg (tp s)
      · rw [if_pos h2]; exact ⟨fun _ => h2, fun _ => rfl⟩
      · rw [if_neg h2]
        refine ⟨fun z => ?_, fun z => absurd z h2⟩
        by_cases h3 : tp s = 59
        · rw [if_pos h3] at z; exact absurd z (by decide)
        · rw [if_neg h3] at z; exact absurd z (by decide)
  · rw [if_neg h, if_neg h]
    exact ⟨fun z => absurd z (by decide), fun z => absurd z dg_m1⟩
theorem tx_len : ∀ i, i < 12 → (zm_tx.getD i []).length ≤ 7 := by decide
theorem nI_sub {a b : Nat} (h : b ≤ a) : nI a - nI b = nI (a - b) := by
  have e : nI a = nI (a - b) + nI b := by rw [nI_add, show a - b + b = a by omega]
  rw [e]
  exact Int32.add_sub_cancel _ _
set_option maxRecDepth 100000 in
set_option maxHeartbeats 400000 in
theorem c_iw_l {SM : zC} {SF : Nat → zQ → zP} (hZ : zZ SM SF) {Q : zQ} {H K : zHl} {kp : Int32} {S : Nat → zSh} {F : Nat → Int32} {m : zMs} {tp : Nat → Int32} {A : zHl} {tl s i : Nat} (ht : tl ≤ 120) (hi : i < 12) (hl : s + (zm_tx.getD i []).length ≤ tl) {so be nu : Int32} (kt : (∀ l, l < (zm_tx.getD i []).length → tp (s + l) = (zm_tx.getD i []).getD l 0) → Q (some (.int 1)) (gh (H, A, K, kp, (tp, nI tl, so, nI s, be, nu), S, F) m)) (kf : ¬ (∀ l, l < (zm_tx.getD i []).length → tp (s + l) = (zm_tx.getD i []).getD l 0) → Q (some (.int 0)) (gh (H, A, K, kp, (tp, nI tl, so, nI s, be, nu), S, F) m)) : ∀ d j, j + d = (zm_tx.getD i []).length → (∀ l, l < j → tp (s + l) = (zm_tx.getD i []).getD l 0) → SF mn_T_isWord Q 28 [some (.ref 31), some (.ref (1000 + i)), some (.int (nI j))] [] (0, 0) (gh (H, A, K, kp, (tp, nI tl, so, nI s, be, nu), S, F) m) := by
  intro d
  induction d with
  | zero =>
    intro j hj hp
    refine zgo hZ 28 30 rfl ?_
    refine ⟨i, rfl, hi, fun _ => ⟨Or.inr rfl, kt (fun l hl => hp l (by omega))⟩, fun h => absurd ((ile rfl rfl (by omega) (by omega)).mpr (by omega)) h⟩
  | succ d ih =>
    intro j hj hp
    have h7 := tx_len i hi
    refine zgo hZ 28 30 rfl ?_
    refine ⟨i, rfl, hi, fun h => ?_, fun _ => ⟨s + j, by omega, nI_add s j, i, j, rfl, hi, by omega, rfl, fun h => ?_, fun h => ?_⟩⟩
    · have := (ile rfl rfl (by omega) (by omega)).mp h
      omega
    · have h1 := ih (j + 1) (by omega) (fun l hl2 => by
        by_cases he : l = j
        · subst he; exact h
        · exact hp l (by omega))
      rw [← nI_1 j] at h1
      exact h1
    · exact ⟨Or.inl rfl, kf (fun z => h (z j (by omega)))⟩
set_option maxRecDepth 100000 in
set_option maxHeartbeats 400000 in
theorem c_isWord {SM : zC} {SF : Nat → zQ → zP} (hZ : zZ SM SF) {Q : zQ} {H K : zHl} {kp : Int32} {S : Nat → zSh} {F : Nat → Int32} {m : zMs} {tp : Nat → Int32} {A : zHl} {tl s : Nat} (i : Nat) (ht : tl ≤ 120) (hs : s ≤ tl) (hi : i < 12) {nu : Int32} (kt : isw tp tl s (zm_tx.getD i []) → Q (some (.int 1)) (gh (H, A, K, kp, (tp, nI tl, sor tp tl (s), nI (s), nI (tkE tp tl (s)), nu), S, F) m)) (kf : ¬ isw tp tl s (zm_tx.getD i []) → Q (some (.int 0)) (gh (H, A, K, kp, (tp, nI tl, sor tp tl (s), nI (s), nI (tkE tp tl (s)), nu), S, F) m)) : SM mn_T_isWord [.ref 31, .ref (1000 + i)] (gh (H, A, K, kp, (tp, nI tl, sor tp tl (s), nI (s), nI (tkE tp tl (s)), nu), S, F) m) Q := by
  obtain ⟨r1, r2, r3⟩ := tkE_rng (tp := tp) hs
  have h7 := tx_len i hi
  unfold isw at kt kf
  refine zin hZ 28 30 rfl rfl rfl ?_
  refine ⟨fun h => ?_, fun h => ⟨i, rfl, hi, fun h2 => ?_, fun h2 => ?_⟩⟩
  · exact ⟨Or.inl rfl, kf (fun z => h (sor_1.mpr z.1))⟩
  · have h1 := sor_1.mp h
    have h2 : nI (tkE tp tl s) - nI s = nI (zm_tx.getD i []).length := h2
    rw [nI_sub r1, nI_eq (by omega) (by omega)] at h2
    exact c_iw_l hZ ht hi (by omega) (fun z => kt ⟨h1, by omega, z⟩) (fun z => kf (fun y => z y.2.2)) (zm_tx.getD i []).length 0 (by omega) (fun l hl => by omega)
  · have h2 : ¬ nI (tkE tp tl s) - nI s = nI (zm_tx.getD i []).length := h2
    rw [nI_sub r1, nI_eq (by omega) (by omega)] at h2
    exact ⟨Or.inl rfl, kf (fun z => h2 (by have := z.2.1; omega))⟩
set_option maxRecDepth 100000 in
set_option maxHeartbeats 400000 in
theorem c_isNumberTo {SM : zC} {SF : Nat → zQ → zP} (hZ : zZ SM SF) {Q : zQ} {H K : zHl} {kp : Int32} {S : Nat → zSh} {F : Nat → Int32} {m : zMs} {tp : Nat → Int32} {A : zHl} {tl s : Nat} {nu hi : Int32} (hn : dg (byt tp tl s) → nu = num tp tl s) (kt : isn tp tl s hi → Q (some (.int 1)) (gh (H, A, K, kp, (tp, nI tl, sor tp tl (s), nI (s), nI (tkE tp tl (s)), nu), S, F) m)) (kf : ¬ isn tp tl s hi → Q (some (.int 0)) (gh (H, A, K, kp, (tp, nI tl, sor tp tl (s), nI (s), nI (tkE tp tl (s)), nu), S, F) m)) : SM mn_T_isNumberTo [.ref 31, .int hi] (gh (H, A, K, kp, (tp, nI tl, sor tp tl (s), nI (s), nI (tkE tp tl (s)), nu), S, F) m) Q := by
  refine zin hZ 999 20 rfl rfl rfl ?_
  refine ⟨fun h => ⟨Or.inl rfl, kf (fun z => h (sor_2.mpr z.1))⟩, fun h => ?_⟩
  have h1 := sor_2.mp h
  have h2 := hn h1
  refine ⟨fun h3 => ⟨Or.inl rfl, kf (fun z => ?_)⟩, fun h3 => ⟨Or.inr rfl, kt ⟨h1, ?_⟩⟩⟩
  · have h3 : hi < nu := h3
    rw [h2] at h3
    exact nle_of h3 z.2
  · have h3 : ¬ hi < nu := h3
    rw [h2] at h3
    exact le_of h3
/-- on to the next token -/
theorem c_adv {SM : zC} {SF : Nat → zQ → zP} (hZ : zZ SM SF) {Q : zQ} {H K : zHl} {kp : Int32} {S : Nat → zSh} {F : Nat → Int32} {m : zMs} {tp : Nat → Int32} {A : zHl} {tl s : Nat} (ht : tl ≤ 120) (hs : s ≤ tl) {so st nu : Int32} (k : ∀ nu', (dg (byt tp tl (nx tp tl s)) → nu' = num tp tl (nx tp tl s)) → Q none (gh (H, A, K, kp, (tp, nI tl, sor tp tl (nx tp tl s), nI (nx tp tl s), nI (tkE tp tl (nx tp tl s)), nu'), S, F) m)) : SM mn_T_advance [.ref 31] (gh (H, A, K, kp, (tp, nI tl, so, st, nI (tkE tp tl s), nu), S, F) m) Q :=
  c_advance hZ ht (tkE_rng (tp := tp) hs).2.1 k
-- an in-law
set_option maxRecDepth 100000 in
set_option maxHeartbeats 400000 in
theorem c_ti_0 {SM : zC} {SF : Nat → zQ → zP} (hZ : zZ SM SF) {Q : zQ} {H K : zHl} {kp : Int32} {S : Nat → zSh} {F : Nat → Int32} {m : zMs} {tp : Nat → Int32} {A : zHl} {kd : Int32} {R : Int32 × Int32 × Int32 × Int32 × Int32} (hn : A.1 8 2 = nI (nn A.1)) (h8 : nn A.1 < 8) (k : SF mn_T_tellInlaw Q 13 [some (.ref 31), some (.ref 11), some (.int kd), some (.int (nI (nn A.1)))] [] (0, 0) (gh (H, (addI A.1 kd, A.2), K, kp, (tp, R), S, F) m)) : SM mn_T_tellInlaw [.ref 31, .ref 11, .int kd] (gh (H, A, K, kp, (tp, R), S, F) m) Q := by
  refine zin hZ 13 10 rfl rfl rfl ?_
  refine c_addInlaw2 hZ hn h8 ?_
  exact ⟨fun _ => k, fun z => absurd z (nI_ne_m1 (by omega))⟩
set_option maxRecDepth 100000 in
set_option maxHeartbeats 400000 in
theorem c_ti_0f {SM : zC} {SF : Nat → zQ → zP} (hZ : zZ SM SF) {Q : zQ} {H K : zHl} {kp : Int32} {S : Nat → zSh} {F : Nat → Int32} {m : zMs} {tp : Nat → Int32} {A : zHl} {kd : Int32} {R : Int32 × Int32 × Int32 × Int32 × Int32} (hn : A.1 8 2 = nI (nn A.1)) (h8 : nn A.1 = 8) (k : Q (some (.int 0)) (gh (H, A, K, kp, (tp, R), S, F) m)) : SM mn_T_tellInlaw [.ref 31, .ref 11, .int kd] (gh (H, A, K, kp, (tp, R), S, F) m) Q := by
  refine zin hZ 999 12 rfl rfl rfl ?_
  refine c_addInlaw82 hZ hn h8 ?_
  exact ⟨fun z => absurd rfl z, fun _ => ⟨Or.inl rfl, k⟩⟩
set_option maxRecDepth 100000 in
set_option maxHeartbeats 400000 in
theorem c_ti_13 {SM : zC} {SF : Nat → zQ → zP} (hZ : zZ SM SF) {Q : zQ} {H K : zHl} {kp : Int32} {S : Nat → zSh} {F : Nat → Int32} {m : zMs} {tp : Nat → Int32} {A : zHl} {tl s : Nat} (ht : tl ≤ 120) (hs : s ≤ tl) {so st nu : Int32} {o2 o3 : Option Value} (k : ∀ nu', (dg (byt tp tl (nx tp tl s)) → nu' = num tp tl (nx tp tl s)) → SF mn_T_tellInlaw Q 17 [some (.ref 31), some (.ref 11), o2, o3] [] (0, 0) (gh (H, A, K, kp, (tp, nI tl, sor tp tl (nx tp tl s), nI (nx tp tl s), nI (tkE tp tl (nx tp tl s)), nu'), S, F) m)) : SF mn_T_tellInlaw Q 13 [some (.ref 31), some (.ref 11), o2, o3] [] (0, 0) (gh (H, A, K, kp, (tp, nI tl, so, st, nI (tkE tp tl s), nu), S, F) m) := by
  refine zgo hZ 17 4 rfl ?_
  exact c_adv hZ ht hs k
set_option maxRecDepth 100000 in
set_option maxHeartbeats 400000 in
theorem c_ti_17 {SM : zC} {SF : Nat → zQ → zP} (hZ : zZ SM SF) {Q : zQ} {H K : zHl} {kp : Int32} {S : Nat → zSh} {F : Nat → Int32} {m : zMs} {tp : Nat → Int32} {A : zHl} {tl s : Nat} (ht : tl ≤ 120) (hs : s ≤ tl) {nu : Int32} {o2 o3 : Option Value} (k1 : isw tp tl s (zm_tx.getD 9 []) → SF mn_T_tellInlaw Q 26 [some (.ref 31), some (.ref 11), o2, o3] [] (0, 0) (gh (H, A, K, kp, (tp, nI tl, sor tp tl (s), nI (s), nI (tkE tp tl (s)), nu), S, F) m)) (k0 : ¬ isw tp tl s (zm_tx.getD 9 []) → SF mn_T_tellInlaw Q 55 [some (.ref 31), some (.ref 11), o2, o3] [] (0, 0) (gh (H, A, K, kp, (tp, nI tl, sor tp tl (s), nI (s), nI (tkE tp tl (s)), nu), S, F) m)) : SF mn_T_tellInlaw Q 17 [some (.ref 31), some (.ref 11), o2, o3] [] (0, 0) (gh (H, A, K, kp, (tp, nI tl, sor tp tl (s), nI (s), nI (tkE tp tl (s)), nu), S, F) m) := by
  by_cases h : isw tp tl s (zm_tx.getD 9 [])
  · have k := k1 h
    refine zgo hZ 26 6 rfl ?_
    exact c_isWord hZ 9 ht hs (by decide) (fun _ => ⟨nt, fun _ => k⟩) (fun z => absurd h z)
  · have k := k0 h
    refine zgo hZ 55 6 rfl ?_
    exact c_isWord hZ 9 ht hs (by decide) (fun z => absurd z h) (fun _ => ⟨fun _ => k, nf⟩)
set_option maxRecDepth 100000 in
set_option maxHeartbeats 400000 in
theorem c_ti_26 {SM : zC} {SF : Nat → zQ → zP} (hZ : zZ SM SF) {Q : zQ} {H K : zHl} {kp : Int32} {S : Nat → zSh} {F : Nat → Int32} {m : zMs} {tp : Nat → Int32} {A : zHl} {tl s : Nat} (ht : tl ≤ 120) (hs : s ≤ tl) {so st nu : Int32} {o2 o3 : Option Value} (k : ∀ nu', (dg (byt tp tl (nx tp tl s)) → nu' = num tp tl (nx tp tl s)) → SF mn_T_tellInlaw Q 30 [some (.ref 31), some (.ref 11), o2, o3] [] (0, 0) (gh (H, A, K, kp, (tp, nI tl, sor tp tl (nx tp tl s), nI (nx tp tl s), nI (tkE tp tl (nx tp tl s)), nu'), S, F) m)) : SF mn_T_tellInlaw Q 26 [some (.ref 31), some (.ref 11), o2, o3] [] (0, 0) (gh (H, A, K, kp, (tp, nI tl, so, st, nI (tkE tp tl s), nu), S, F) m) := by
  refine zgo hZ 30 4 rfl ?_
  exact c_adv hZ ht hs k
set_option maxRecDepth 100000 in
set_option maxHeartbeats 400000 in
theorem c_ti_30 {SM : zC} {SF : Nat → zQ → zP} (hZ : zZ SM SF) {Q : zQ} {H K : zHl} {kp : Int32} {S : Nat → zSh} {F : Nat → Int32} {m : zMs} {tp : Nat → Int32} {A : zHl} {tl s : Nat} {nu : Int32} (hn : dg (byt tp tl s) → nu = num tp tl s) {o2 o3 : Option Value} (k1 : isn tp tl s 99 → SF mn_T_tellInlaw Q 41 [some (.ref 31), some (.ref 11), o2, o3] [] (0, 0) (gh (H, A, K, kp, (tp, nI tl, sor tp tl (s), nI (s), nI (tkE tp tl (s)), nu), S, F) m)) (k0 : ¬ isn tp tl s 99 → Q (some (.int 0)) (gh (H, A, K, kp, (tp, nI tl, sor tp tl (s), nI (s), nI (tkE tp tl (s)), nu), S, F) m)) : SF mn_T_tellInlaw Q 30 [some (.ref 31), some (.ref 11), o2, o3] [] (0, 0) (gh (H, A, K, kp, (tp, nI tl, sor tp tl (s), nI (s), nI (tkE tp tl (s)), nu), S, F) m) := by
  refine zgo hZ 41 8 rfl ?_
  exact c_isNumberTo hZ hn (fun z => ⟨fun _ => k1 z, nt⟩) (fun z => ⟨nf, fun _ => ⟨Or.inl rfl, k0 z⟩⟩)
set_option maxRecDepth 100000 in
set_option maxHeartbeats 400000 in
theorem c_ti_41 {SM : zC} {SF : Nat → zQ → zP} (hZ : zZ SM SF) {Q : zQ} {H K : zHl} {kp : Int32} {S : Nat → zSh} {F : Nat → Int32} {m : zMs} {tp : Nat → Int32} {A : zHl} {a so st be nu : Int32} {n : Nat} (hn : n < 8) {o2 : Option Value} (k : SF mn_T_tellInlaw Q 51 [some (.ref 31), some (.ref 11), o2, some (.int (nI n))] [] (0, 0) (gh (H, (s2 A.1 1 n nu, A.2), K, kp, (tp, a, so, st, be, nu), S, F) m)) : SF mn_T_tellInlaw Q 41 [some (.ref 31), some (.ref 11), o2, some (.int (nI n))] [] (0, 0) (gh (H, A, K, kp, (tp, a, so, st, be, nu), S, F) m) := by
  refine zgo hZ 51 8 rfl ?_
  exact ⟨n, hn, rfl, k⟩
set_option maxRecDepth 100000 in
set_option maxHeartbeats 400000 in
theorem c_ti_51 {SM : zC} {SF : Nat → zQ → zP} (hZ : zZ SM SF) {Q : zQ} {H K : zHl} {kp : Int32} {S : Nat → zSh} {F : Nat → Int32} {m : zMs} {tp : Nat → Int32} {A : zHl} {tl s : Nat} (ht : tl ≤ 120) (hs : s ≤ tl) {so st nu : Int32} {o2 o3 : Option Value} (k : ∀ nu', (dg (byt tp tl (nx tp tl s)) → nu' = num tp tl (nx tp tl s)) → SF mn_T_tellInlaw Q 55 [some (.ref 31), some (.ref 11), o2, o3] [] (0, 0) (gh (H, A, K, kp, (tp, nI tl, sor tp tl (nx tp tl s), nI (nx tp tl s), nI (tkE tp tl (nx tp tl s)), nu'), S, F) m)) : SF mn_T_tellInlaw Q 51 [some (.ref 31), some (.ref 11), o2, o3] [] (0, 0) (gh (H, A, K, kp, (tp, nI tl, so, st, nI (tkE tp tl s), nu), S, F) m) := by
  refine zgo hZ 55 4 rfl ?_
  exact c_adv hZ ht hs k
set_option maxRecDepth 100000 in
set_option maxHeartbeats 400000 in
theorem c_ti_55 {SM : zC} {SF : Nat → zQ → zP} (hZ : zZ SM SF) {Q : zQ} {H K : zHl} {kp : Int32} {S : Nat → zSh} {F : Nat → Int32} {m : zMs} {tp : Nat → Int32} {A : zHl} {tl s : Nat} (ht : tl ≤ 120) (hs : s ≤ tl) {nu : Int32} {o2 o3 : Option Value} (k1 : isw tp tl s (zm_tx.getD 10 []) → SF mn_T_tellInlaw Q 64 [some (.ref 31), some (.ref 11), o2, o3] [] (0, 0) (gh (H, A, K, kp, (tp, nI tl, sor tp tl (s), nI (s), nI (tkE tp tl (s)), nu), S, F) m)) (k0 : ¬ isw tp tl s (zm_tx.getD 10 []) → Q (some (.int 1)) (gh (H, A, K, kp, (tp, nI tl, sor tp tl (s), nI (s), nI (tkE tp tl (s)), nu), S, F) m)) : SF mn_T_tellInlaw Q 55 [some (.ref 31), some (.ref 11), o2, o3] [] (0, 0) (gh (H, A, K, kp, (tp, nI tl, sor tp tl (s), nI (s), nI (tkE tp tl (s)), nu), S, F) m) := by
  refine zgo hZ 64 8 rfl ?_
  exact c_isWord hZ 10 ht hs (by decide) (fun z => ⟨nt, fun _ => k1 z⟩) (fun z => ⟨fun _ => ⟨Or.inr rfl, k0 z⟩, nf⟩)
set_option maxRecDepth 100000 in
set_option maxHeartbeats 400000 in
theorem c_ti_64 {SM : zC} {SF : Nat → zQ → zP} (hZ : zZ SM SF) {Q : zQ} {H K : zHl} {kp : Int32} {S : Nat → zSh} {F : Nat → Int32} {m : zMs} {tp : Nat → Int32} {A : zHl} {R : Int32 × Int32 × Int32 × Int32 × Int32} {n : Nat} (hn : n < 8) {o2 : Option Value} (k : SF mn_T_tellInlaw Q 71 [some (.ref 31), some (.ref 11), o2, some (.int (nI n))] [] (0, 0) (gh (H, (s2 A.1 2 n 1, A.2), K, kp, (tp, R), S, F) m)) : SF mn_T_tellInlaw Q 64 [some (.ref 31), some (.ref 11), o2, some (.int (nI n))] [] (0, 0) (gh (H, A, K, kp, (tp, R), S, F) m) := by
  refine zgo hZ 71 8 rfl ?_
  exact ⟨n, hn, rfl, k⟩
set_option maxRecDepth 100000 in
set_option maxHeartbeats 400000 in
theorem c_ti_71 {SM : zC} {SF : Nat → zQ → zP} (hZ : zZ SM SF) {Q : zQ} {H K : zHl} {kp : Int32} {S : Nat → zSh} {F : Nat → Int32} {m : zMs} {tp : Nat → Int32} {A : zHl} {tl s : Nat} (ht : tl ≤ 120) (hs : s ≤ tl) {so st nu : Int32} {o2 o3 : Option Value} (k : ∀ nu', (dg (byt tp tl (nx tp tl s)) → nu' = num tp tl (nx tp tl s)) → Q (some (.int 1)) (gh (H, A, K, kp, (tp, nI tl, sor tp tl (nx tp tl s), nI (nx tp tl s), nI (tkE tp tl (nx tp tl s)), nu'), S, F) m)) : SF mn_T_tellInlaw Q 71 [some (.ref 31), some (.ref 11), o2, o3] [] (0, 0) (gh (H, A, K, kp, (tp, nI tl, so, st, nI (tkE tp tl s), nu), S, F) m) := by
  refine zgo hZ 999 6 rfl ?_
  exact c_adv hZ ht hs (fun nu' z => ⟨Or.inr rfl, k nu' z⟩)
theorem c_ti_s {SM : zC} {SF : Nat → zQ → zP} (hZ : zZ SM SF) {Q : zQ} {H K : zHl} {kp : Int32} {S : Nat → zSh} {F : Nat → Int32} {m : zMs} {tp : Nat → Int32} {A : zHl} {tl s n : Nat} (ht : tl ≤ 120) (hs : s ≤ tl) (hn : n < 8) {nu : Int32} (hu : dg (byt tp tl s) → nu = num tp tl s) {o2 : Option Value} (k : ∀ nu', (dg (byt tp tl (p_sat tp tl A.1 n s).2.2) → nu' = num tp tl (p_sat tp tl A.1 n s).2.2) → Q (some (.int 1)) (gh (H, ((p_sat tp tl A.1 n s).2.1, A.2), K, kp, (tp, nI tl, sor tp tl ((p_sat tp tl A.1 n s).2.2), nI ((p_sat tp tl A.1 n s).2.2), nI (tkE tp tl ((p_sat tp tl A.1 n s).2.2)), nu'), S, F) m)) : SF mn_T_tellInlaw Q 55 [some (.ref 31), some (.ref 11), o2, some (.int (nI n))] [] (0, 0) (gh (H, A, K, kp, (tp, nI tl, sor tp tl (s), nI (s), nI (tkE tp tl (s)), nu), S, F) m) := by
  unfold p_sat at k
  refine c_ti_55 hZ ht hs (fun h => ?_) (fun h => ?_)
  · rw [cif_t h] at k
    refine c_ti_64 hZ hn ?_
    exact c_ti_71 hZ ht hs k
  · rw [cif_f h] at k
    exact k nu hu
theorem c_tellInlaw {SM : zC} {SF : Nat → zQ → zP} (hZ : zZ SM SF) {Q : zQ} {H K : zHl} {kp : Int32} {S : Nat → zSh} {F : Nat → Int32} {m : zMs} {tp : Nat → Int32} {A : zHl} {tl s : Nat} {kd nu : Int32} {D : Nat} (hw : wf D A.1) (ht : tl ≤ 120) (hs : s ≤ tl) (kt : (p_inl tp tl A.1 kd s).1 = true → ∀ nu', (dg (byt tp tl (p_inl tp tl A.1 kd s).2.2) → nu' = num tp tl (p_inl tp tl A.1 kd s).2.2) → Q (some (.int 1)) (gh (H, ((p_inl tp tl A.1 kd s).2.1, A.2), K, kp, (tp, nI tl, sor tp tl ((p_inl tp tl A.1 kd s).2.2), nI ((p_inl tp tl A.1 kd s).2.2), nI (tkE tp tl ((p_inl tp tl A.1 kd s).2.2)), nu'), S, F) m)) (kf : (p_inl tp tl A.1 kd s).1 = false → ∀ A' so be nu', Q (some (.int 0)) (gh (H, A', K, kp, (tp, nI tl, so, nI (p_inl tp tl A.1 kd s).2.2, be, nu'), S, F) m)) : SM mn_T_tellInlaw [.ref 31, .ref 11, .int kd] (gh (H, A, K, kp, (tp, nI tl, sor tp tl (s), nI (s), nI (tkE tp tl (s)), nu), S, F) m) Q := by
  have hn := hw.2.2.2.1.1
  have h8 := hw.2.2.2.1.2
  have r1 := nx_rng (tp := tp) hs
  have r2 := nx_rng (tp := tp) r1.2.1
  have r3 := nx_rng (tp := tp) r2.2.1
  unfold p_inl at kt kf
  by_cases h : nn A.1 = 8
  · rw [if_pos h] at kf
    exact c_ti_0f hZ hn h (kf rfl _ _ _ _)
  · have hn8 : nn A.1 < 8 := by omega
    rw [if_neg h] at kt kf
    refine c_ti_0 hZ hn hn8 ?_
    refine c_ti_13 hZ ht hs (fun nu1 hu1 => ?_)
    refine c_ti_17 hZ ht r1.2.1 (fun h1 => ?_) (fun h1 => ?_)
    · rw [cif_t h1] at kt kf
      refine c_ti_26 hZ ht r1.2.1 (fun nu2 hu2 => ?_)
      refine c_ti_30 hZ hu2 (fun h2 => ?_) (fun h2 => ?_)
      · rw [cif_t h2] at kt
        rw [hu2 h2.1]
        refine c_ti_41 hZ hn8 ?_
        refine c_ti_51 hZ ht r2.2.1 (fun nu3 hu3 => ?_)
        exact c_ti_s (A := (s2 (addI A.1 kd) 1 (nn A.1) (num tp tl (nx tp tl (nx tp tl s))), A.2)) hZ ht r3.2.1 hn8 hu3 (kt (p_sat_t _ _ _ _ _))
      · rw [cif_f h2] at kf
        exact kf rfl _ _ _ _
    · rw [cif_f h1] at kt
      exact c_ti_s (A := (addI A.1 kd, A.2)) hZ ht r1.2.1 hn8 hu1 (kt (p_sat_t _ _ _ _ _))
