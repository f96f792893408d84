/-! THE CLASS'S TAPE: tokens -/
def sor (tp : Nat → Int32) (tl s : Nat) : Int32 := if s < tl then (if lt (tp s) then 1 else if dg (tp s) then 2 else if tp s = 59 then 3 else 4) else 0
theorem c_isLetter {SM : zC} {SF : Nat → zQ → zP} (hZ : zZ SM SF) {Q : zQ} {h : zH} {b : Int32} (kt : lt b → Q (some (.int 1)) h) (kf : ¬ lt b → Q (some (.int 0)) h) : SM mn_T_isLetter [.int b] h Q := by
  refine zin hZ 999 50 rfl rfl rfl ?_
  refine ⟨fun h1 => ⟨Or.inl rfl, kf (fun z => nle_of h1 z.1)⟩, fun h1 => ⟨fun h2 => ⟨Or.inl rfl, kf (fun z => nle_of h2 z.2)⟩, fun h2 => ⟨Or.inr rfl, kt ⟨le_of h1, le_of h2⟩⟩⟩⟩
theorem c_isDigit {SM : zC} {SF : Nat → zQ → zP} (hZ : zZ SM SF) {Q : zQ} {h : zH} {b : Int32} (kt : dg b → Q (some (.int 1)) h) (kf : ¬ dg b → Q (some (.int 0)) h) : SM mn_T_isDigit [.int b] h Q := by
  refine zin hZ 999 50 rfl rfl rfl ?_
  refine ⟨fun h1 => ⟨Or.inl rfl, kf (fun z => nle_of h1 z.1)⟩, fun h1 => ⟨fun h2 => ⟨Or.inl rfl, kf (fun z => nle_of h2 z.2)⟩, fun h2 => ⟨Or.inr rfl, kt ⟨le_of h1, le_of h2⟩⟩⟩⟩
-- a word is taken
set_option maxRecDepth 100000 in
set_option maxHeartbeats 400000 in
theorem c_tw_0 {SM : zC} {SF : Nat → zQ → zP} (hZ : zZ SM SF) {Q : zQ} {H K : zHl} {kp : Int32} {S : Nat → zSh} {F : Nat → Int32} {m : zMs} {tp : Nat → Int32} {A : zHl} {tl j : Nat} (ht : tl ≤ 120) (hj : j ≤ tl) {so st nu : Int32} (k1 : j < tl → SF mn_T_takeWord Q 20 [some (.ref 31)] [.int (tp j)] (0, 0) (gh (H, A, K, kp, (tp, nI tl, so, st, nI j, nu), S, F) m)) (k0 : ¬ j < tl → Q none (gh (H, A, K, kp, (tp, nI tl, so, st, nI j, nu), S, F) m)) : SF mn_T_takeWord Q 0 [some (.ref 31)] [] (0, 0) (gh (H, A, K, kp, (tp, nI tl, so, st, nI j, nu), S, F) m) := by
  refine zgo hZ 20 12 rfl ?_
  refine ⟨fun h => k0 ?_, fun h => ⟨j, ?_, rfl, k1 ?_⟩⟩
  · have := (ile rfl rfl (by omega) (by omega)).mp h
    omega
  · have h : ¬ tl ≤ j := fun z => h ((ile rfl rfl (by omega) (by omega)).mpr z)
    omega
  · have h : ¬ tl ≤ j := fun z => h ((ile rfl rfl (by omega) (by omega)).mpr z)
    omega
set_option maxRecDepth 100000 in
set_option maxHeartbeats 400000 in
theorem c_tw_20 {SM : zC} {SF : Nat → zQ → zP} (hZ : zZ SM SF) {Q : zQ} {H K : zHl} {kp : Int32} {S : Nat → zSh} {F : Nat → Int32} {m : zMs} {tp : Nat → Int32} {A : zHl} {a so st be nu b : Int32} (k1 : lt b → SF mn_T_takeWord Q 0 [some (.ref 31)] [] (0, 0) (gh (H, A, K, kp, (tp, a, so, st, be + 1, nu), S, F) m)) (k0 : ¬ lt b → Q none (gh (H, A, K, kp, (tp, a, so, st, be, nu), S, F) m)) : SF mn_T_takeWord Q 20 [some (.ref 31)] [.int b] (0, 0) (gh (H, A, K, kp, (tp, a, so, st, be, nu), S, F) m) := by
  refine zgo hZ 0 12 rfl ?_
  exact c_isLetter hZ (fun z => ⟨nt, fun _ => k1 z⟩) (fun z => ⟨fun _ => k0 z, nf⟩)
theorem c_tw_l {SM : zC} {SF : Nat → zQ → zP} (hZ : zZ SM SF) {Q : zQ} {H K : zHl} {kp : Int32} {S : Nat → zSh} {F : Nat → Int32} {m : zMs} {tp : Nat → Int32} {A : zHl} {tl : Nat} (ht : tl ≤ 120) {so st nu : Int32} : ∀ d j, j + d = tl → Q none (gh (H, A, K, kp, (tp, nI tl, so, st, nI (fst1 (fun l => !decide (lt (tp l))) j d), nu), S, F) m) → SF mn_T_takeWord Q 0 [some (.ref 31)] [] (0, 0) (gh (H, A, K, kp, (tp, nI tl, so, st, nI j, nu), S, F) m) := by
  intro d
  induction d with
  | zero =>
    intro j hj k
    exact c_tw_0 hZ ht (by omega) (fun z => by omega) (fun _ => k)
  | succ d ih =>
    intro j hj k
    rw [fst1_s] at k
    refine c_tw_0 hZ ht (by omega) (fun _ => ?_) (fun z => by omega)
    refine c_tw_20 hZ (fun z => ?_) (fun z => ?_)
    · rw [if_neg (nd_t z)] at k
      rw [nI_1]
      exact ih (j + 1) (by omega) k
    · rw [if_pos (nd_f z)] at k
      exact k
theorem tkE_w {tp : Nat → Int32} {tl s : Nat} (hs : s < tl) (h : lt (tp s)) : fst1 (fun l => !decide (lt (tp l))) s (tl - s) = tkE tp tl s := by
  unfold tkE
  rw [if_pos hs, if_pos h, show tl - s = (tl - (s + 1)) + 1 by omega, fst1_s, if_neg (nd_t h)]
theorem tkE_n {tp : Nat → Int32} {tl s : Nat} (hs : s < tl) (h : dg (tp s)) : fst1 (fun l => !decide (dg (tp l))) s (tl - s) = tkE tp tl s := by
  unfold tkE
  rw [if_pos hs, if_neg (fun z => lt_dg z h), if_pos h, show tl - s = (tl - (s + 1)) + 1 by omega, fst1_s, if_neg (nd_t h)]
set_option maxRecDepth 100000 in
set_option maxHeartbeats 400000 in
theorem c_takeWord {SM : zC} {SF : Nat → zQ → zP} (hZ : zZ SM SF) {Q : zQ} {H K : zHl} {kp : Int32} {S : Nat → zSh} {F : Nat → Int32} {m : zMs} {tp : Nat → Int32} {A : zHl} {tl s : Nat} (ht : tl ≤ 120) (hs : s < tl) (h : lt (tp s)) {so st nu : Int32} (k : Q none (gh (H, A, K, kp, (tp, nI tl, so, st, nI (tkE tp tl s), nu), S, F) m)) : SM mn_T_takeWord [.ref 31] (gh (H, A, K, kp, (tp, nI tl, so, st, nI s, nu), S, F) m) Q := by
  rw [← tkE_w hs h] at k
  exact hZ.2.1 mn_T_takeWord _ _ Q rfl (c_tw_l hZ ht (tl - s) s (by omega) k)
-- a number is taken
set_option maxRecDepth 100000 in
set_option maxHeartbeats 400000 in
theorem c_tn_5 {SM : zC} {SF : Nat → zQ → zP} (hZ : zZ SM SF) {Q : zQ} {H K : zHl} {kp : Int32} {S : Nat → zSh} {F : Nat → Int32} {m : zMs} {tp : Nat → Int32} {A : zHl} {tl j : Nat} (ht : tl ≤ 120) (hj : j ≤ tl) {so st nu : Int32} (k1 : j < tl → SF mn_T_takeNumber Q 25 [some (.ref 31)] [.int (tp j)] (0, 0) (gh (H, A, K, kp, (tp, nI tl, so, st, nI j, nu), S, F) m)) (k0 : ¬ j < tl → Q none (gh (H, A, K, kp, (tp, nI tl, so, st, nI j, nu), S, F) m)) : SF mn_T_takeNumber Q 5 [some (.ref 31)] [] (0, 0) (gh (H, A, K, kp, (tp, nI tl, so, st, nI j, nu), S, F) m) := by
  refine zgo hZ 25 12 rfl ?_
  refine ⟨fun h => k0 ?_, fun h => ⟨j, ?_, rfl, k1 ?_⟩⟩
  · have := (ile rfl rfl (by omega) (by omega)).mp h
    omega
  · have h : ¬ tl ≤ j := fun z => h ((ile rfl rfl (by omega) (by omega)).mpr z)
    omega
  · have h : ¬ tl ≤ j := fun z => h ((ile rfl rfl (by omega) (by omega)).mpr z)
    omega
set_option maxRecDepth 100000 in
set_option maxHeartbeats 400000 in
theorem c_tn_25 {SM : zC} {SF : Nat → zQ → zP} (hZ : zZ SM SF) {Q : zQ} {h : zH} {b : Int32} (k1 : dg b → SF mn_T_takeNumber Q 31 [some (.ref 31)] [] (0, 0) h) (k0 : ¬ dg b → Q none h) : SF mn_T_takeNumber Q 25 [some (.ref 31)] [.int b] (0, 0) h := by
  refine zgo hZ 31 5 rfl ?_
  exact c_isDigit hZ (fun z => ⟨nt, fun _ => k1 z⟩) (fun z => ⟨fun _ => k0 z, nf⟩)
set_option maxRecDepth 100000 in
set_option maxHeartbeats 400000 in
theorem c_tn_31 {SM : zC} {SF : Nat → zQ → zP} (hZ : zZ SM SF) {Q : zQ} {H K : zHl} {kp : Int32} {S : Nat → zSh} {F : Nat → Int32} {m : zMs} {tp : Nat → Int32} {A : zHl} {j : Nat} (hj : j < 120) {a so st nu : Int32} (k : SF mn_T_takeNumber Q 61 [some (.ref 31)] [] (0, 0) (gh (H, A, K, kp, (tp, a, so, st, nI j, (if 1000 < 10 * nu + tp j - 48 then 1000 else 10 * nu + tp j - 48)), S, F) m)) : SF mn_T_takeNumber Q 31 [some (.ref 31)] [] (0, 0) (gh (H, A, K, kp, (tp, a, so, st, nI j, nu), S, F) m) := by
  refine zgo hZ 61 20 rfl ?_
  exact ⟨j, hj, rfl, k⟩
set_option maxRecDepth 100000 in
set_option maxHeartbeats 400000 in
theorem c_tn_61 {SM : zC} {SF : Nat → zQ → zP} (hZ : zZ SM SF) {Q : zQ} {H K : zHl} {kp : Int32} {S : Nat → zSh} {F : Nat → Int32} {m : zMs} {tp : Nat → Int32} {A : zHl} {a so st be nu : Int32} (k : SF mn_T_takeNumber Q 5 [some (.ref 31)] [] (0, 0) (gh (H, A, K, kp, (tp, a, so, st, be + 1, nu), S, F) m)) : SF mn_T_takeNumber Q 61 [some (.ref 31)] [] (0, 0) (gh (H, A, K, kp, (tp, a, so, st, be, nu), S, F) m) := by
  refine zgo hZ 5 10 rfl ?_
  exact k
theorem c_tn_l {SM : zC} {SF : Nat → zQ → zP} (hZ : zZ SM SF) {Q : zQ} {H K : zHl} {kp : Int32} {S : Nat → zSh} {F : Nat → Int32} {m : zMs} {tp : Nat → Int32} {A : zHl} {tl s : Nat} (ht : tl ≤ 120) {so st : Int32} : ∀ d j, s + j + d = tl → Q none (gh (H, A, K, kp, (tp, nI tl, so, st, nI (fst1 (fun l => !decide (dg (tp l))) (s + j) d), cn tp s (fst1 (fun l => !decide (dg (tp l))) (s + j) d - s)), S, F) m) → SF mn_T_takeNumber Q 5 [some (.ref 31)] [] (0, 0) (gh (H, A, K, kp, (tp, nI tl, so, st, nI (s + j), cn tp s j), S, F) m) := by
  intro d
  induction d with
  | zero =>
    intro j hj k
    rw [fst1_0, show s + j - s = j by omega] at k
    exact c_tn_5 hZ ht (by omega) (fun z => by omega) (fun _ => k)
  | succ d ih =>
    intro j hj k
    rw [fst1_s] at k
    refine c_tn_5 hZ ht (by omega) (fun _ => ?_) (fun z => by omega)
    refine c_tn_25 hZ (fun z => ?_) (fun z => ?_)
    · rw [if_neg (nd_t z)] at k
      refine c_tn_31 hZ (by omega) ?_
      refine c_tn_61 hZ ?_
      rw [nI_1]
      exact ih (j + 1) (by omega) k
    · rw [if_pos (nd_f z), show s + j - s = j by omega] at k
      exact k
set_option maxRecDepth 100000 in
set_option maxHeartbeats 400000 in
theorem c_tn_0 {SM : zC} {SF : Nat → zQ → zP} (hZ : zZ SM SF) {Q : zQ} {H K : zHl} {kp : Int32} {S : Nat → zSh} {F : Nat → Int32} {m : zMs} {tp : Nat → Int32} {A : zHl} {a so st be nu : Int32} (k : SF mn_T_takeNumber Q 5 [some (.ref 31)] [] (0, 0) (gh (H, A, K, kp, (tp, a, so, st, be, 0), S, F) m)) : SM mn_T_takeNumber [.ref 31] (gh (H, A, K, kp, (tp, a, so, st, be, nu), S, F) m) Q := by
  refine zin hZ 5 5 rfl rfl rfl ?_
  exact k
theorem c_takeNumber {SM : zC} {SF : Nat → zQ → zP} (hZ : zZ SM SF) {Q : zQ} {H K : zHl} {kp : Int32} {S : Nat → zSh} {F : Nat → Int32} {m : zMs} {tp : Nat → Int32} {A : zHl} {tl s : Nat} (ht : tl ≤ 120) (hs : s < tl) (h : dg (tp s)) {so st nu : Int32} (k : Q none (gh (H, A, K, kp, (tp, nI tl, so, st, nI (tkE tp tl s), num tp tl s), S, F) m)) : SM mn_T_takeNumber [.ref 31] (gh (H, A, K, kp, (tp, nI tl, so, st, nI s, nu), S, F) m) Q := by
  unfold num at k
  rw [← tkE_n hs h] at k
  refine c_tn_0 hZ ?_
  exact c_tn_l hZ ht (tl - s) 0 (by omega) k
-- the next token
set_option maxRecDepth 100000 in
set_option maxHeartbeats 400000 in
theorem c_ad_0 {SM : zC} {SF : Nat → zQ → zP} (hZ : zZ SM SF) {Q : zQ} {H K : zHl} {kp : Int32} {S : Nat → zSh} {F : Nat → Int32} {m : zMs} {tp : Nat → Int32} {A : zHl} {tl j : Nat} (ht : tl ≤ 120) (hj : j ≤ tl) {so st nu : Int32} (k1 : j < tl → tp j = 32 → SF mn_T_advance Q 0 [some (.ref 31)] [] (0, 0) (gh (H, A, K, kp, (tp, nI tl, so, st, nI j + 1, nu), S, F) m)) (k0 : (j < tl → ¬ tp j = 32) → SF mn_T_advance Q 38 [some (.ref 31)] [] (0, 0) (gh (H, A, K, kp, (tp, nI tl, so, st, nI j, nu), S, F) m)) : SF mn_T_advance Q 0 [some (.ref 31)] [] (0, 0) (gh (H, A, K, kp, (tp, nI tl, so, st, nI j, nu), S, F) m) := by
  have e : nI tl ≤ nI j ↔ tl ≤ j := ile rfl rfl (by omega) (by omega)
  by_cases hc : j < tl ∧ tp j = 32
  · have k := k1 hc.1 hc.2
    refine zgo hZ 0 24 rfl ?_
    exact ⟨fun h => absurd (e.mp h) (by omega), fun _ => ⟨j, by omega, rfl, fun z => absurd hc.2 z, fun _ => k⟩⟩
  · have k := k0 (fun h1 h2 => hc ⟨h1, h2⟩)
    refine zgo hZ 38 14 rfl ?_
    exact ⟨fun _ => k, fun h => ⟨j, by have : ¬ tl ≤ j := fun z => h (e.mpr z); omega, rfl, fun _ => k, fun z => absurd ⟨by have : ¬ tl ≤ j := fun z => h (e.mpr z); omega, z⟩ hc⟩⟩
theorem c_ad_s {SM : zC} {SF : Nat → zQ → zP} (hZ : zZ SM SF) {Q : zQ} {H K : zHl} {kp : Int32} {S : Nat → zSh} {F : Nat → Int32} {m : zMs} {tp : Nat → Int32} {A : zHl} {tl : Nat} (ht : tl ≤ 120) {so st nu : Int32} : ∀ d j, j + d = tl → SF mn_T_advance Q 38 [some (.ref 31)] [] (0, 0) (gh (H, A, K, kp, (tp, nI tl, so, st, nI (fst1 (fun l => !decide (tp l = 32)) j d), nu), S, F) m) → SF mn_T_advance Q 0 [some (.ref 31)] [] (0, 0) (gh (H, A, K, kp, (tp, nI tl, so, st, nI j, nu), S, F) m) := by
  intro d
  induction d with
  | zero =>
    intro j hj k
    exact c_ad_0 hZ ht (by omega) (fun z => by omega) (fun _ => k)
  | succ d ih =>
    intro j hj k
    rw [fst1_s] at k
    refine c_ad_0 hZ ht (by omega) (fun _ z => ?_) (fun z => ?_)
    · rw [if_neg (nd_t z)] at k
      rw [nI_1]
      exact ih (j + 1) (by omega) k
    · rw [if_pos (nd_f (z (by omega)))] at k
      exact k
set_option maxRecDepth 100000 in
set_option maxHeartbeats 400000 in
theorem c_ad_38 {SM : zC} {SF : Nat → zQ → zP} (hZ : zZ SM SF) {Q : zQ} {H K : zHl} {kp : Int32} {S : Nat → zSh} {F : Nat → Int32} {m : zMs} {tp : Nat → Int32} {A : zHl} {tl s : Nat} (ht : tl ≤ 120) (hs : s ≤ tl) {so st nu : Int32} (k1 : s < tl → SF mn_T_advance Q 65 [some (.ref 31)] [] (0, 0) (gh (H, A, K, kp, (tp, nI tl, so, nI s, nI s, nu), S, F) m)) (k0 : ¬ s < tl → Q none (gh (H, A, K, kp, (tp, nI tl, 0, nI s, nI s, nu), S, F) m)) : SF mn_T_advance Q 38 [some (.ref 31)] [] (0, 0) (gh (H, A, K, kp, (tp, nI tl, so, st, nI s, nu), S, F) m) := by
  have e : nI s < nI tl ↔ s < tl := ilt rfl rfl (by omega) (by omega)
  refine zgo hZ 65 20 rfl ?_
  exact ⟨fun h => k1 (e.mp h), fun h => k0 (fun z => h (e.mpr z))⟩
set_option maxRecDepth 100000 in
set_option maxHeartbeats 400000 in
theorem c_ad_65 {SM : zC} {SF : Nat → zQ → zP} (hZ : zZ SM SF) {Q : zQ} {H K : zHl} {kp : Int32} {S : Nat → zSh} {F : Nat → Int32} {m : zMs} {tp : Nat → Int32} {A : zHl} {a so be nu : Int32} {s : Nat} (hs : s < 120) (k1 : lt (tp s) → SF mn_T_advance Q 80 [some (.ref 31)] [] (0, 0) (gh (H, A, K, kp, (tp, a, so, nI s, be, nu), S, F) m)) (k0 : ¬ lt (tp s) → SF mn_T_advance Q 92 [some (.ref 31)] [] (0, 0) (gh (H, A, K, kp, (tp, a, so, nI s, be, nu), S, F) m)) : SF mn_T_advance Q 65 [some (.ref 31)] [] (0, 0) (gh (H, A, K, kp, (tp, a, so, nI s, be, nu), S, F) m) := by
  have key : SF mn_T_advance Q 74 [some (.ref 31)] [.int (tp s)] (0, 0) (gh (H, A, K, kp, (tp, a, so, nI s, be, nu), S, F) m) := by
    by_cases h : lt (tp s)
    · have k := k1 h
      refine zgo hZ 80 4 rfl ?_
      exact c_isLetter hZ (fun z => ⟨nt, fun _ => k⟩) (fun z => absurd h z)
    · have k := k0 h
      refine zgo hZ 92 4 rfl ?_
      exact c_isLetter hZ (fun z => absurd z h) (fun z => ⟨fun _ => k, nf⟩)
  refine zgo hZ 74 8 rfl ?_
  exact ⟨s, hs, rfl, key⟩
set_option maxRecDepth 100000 in
set_option maxHeartbeats 400000 in
theorem c_ad_92 {SM : zC} {SF : Nat → zQ → zP} (hZ : zZ SM SF) {Q : zQ} {H K : zHl} {kp : Int32} {S : Nat → zSh} {F : Nat → Int32} {m : zMs} {tp : Nat → Int32} {A : zHl} {a so be nu : Int32} {s : Nat} (hs : s < 120) (k1 : dg (tp s) → SF mn_T_advance Q 107 [some (.ref 31)] [] (0, 0) (gh (H, A, K, kp, (tp, a, so, nI s, be, nu), S, F) m)) (k0 : ¬ dg (tp s) → SF mn_T_advance Q 119 [some (.ref 31)] [] (0, 0) (gh (H, A, K, kp, (tp, a, so, nI s, be, nu), S, F) m)) : SF mn_T_advance Q 92 [some (.ref 31)] [] (0, 0) (gh (H, A, K, kp, (tp, a, so, nI s, be, nu), S, F) m) := by
  have key : SF mn_T_advance Q 101 [some (.ref 31)] [.int (tp s)] (0, 0) (gh (H, A, K, kp, (tp, a, so, nI s, be, nu), S, F) m) := by
    by_cases h : dg (tp s)
    · have k := k1 h
      refine zgo hZ 107 4 rfl ?_
      exact c_isDigit hZ (fun z => ⟨nt, fun _ => k⟩) (fun z => absurd h z)
    · have k := k0 h
      refine zgo hZ 119 4 rfl ?_
      exact c_isDigit hZ (fun z => absurd z h) (fun z => ⟨fun _ => k, nf⟩)
  refine zgo hZ 101 8 rfl ?_
  exact ⟨s, hs, rfl, key⟩
set_option maxRecDepth 100000 in
set_option maxHeartbeats 400000 in
theorem c_ad_80 {SM : zC} {SF : Nat → zQ → zP} (hZ : zZ SM SF) {Q : zQ} {H K : zHl} {kp : Int32} {S : Nat → zSh} {F : Nat → Int32} {m : zMs} {tp : Nat → Int32} {A : zHl} {tl s : Nat} (ht : tl ≤ 120) (hs : s < tl) (h : lt (tp s)) {so st nu : Int32} (k : Q none (gh (H, A, K, kp, (tp, nI tl, 1, st, nI (tkE tp tl s), nu), S, F) m)) : SF mn_T_advance Q 80 [some (.ref 31)] [] (0, 0) (gh (H, A, K, kp, (tp, nI tl, so, st, nI s, nu), S, F) m) := by
  refine zgo hZ 999 9 rfl ?_
  exact c_takeWord (H := H) (A := A) (K := K) (kp := kp) (S := S) (F := F) (m := m) (so := 1) (st := st) (nu := nu) hZ ht hs h k
set_option maxRecDepth 100000 in
set_option maxHeartbeats 400000 in
theorem c_ad_107 {SM : zC} {SF : Nat → zQ → zP} (hZ : zZ SM SF) {Q : zQ} {H K : zHl} {kp : Int32} {S : Nat → zSh} {F : Nat → Int32} {m : zMs} {tp : Nat → Int32} {A : zHl} {tl s : Nat} (ht : tl ≤ 120) (hs : s < tl) (h : dg (tp s)) {so st nu : Int32} (k : Q none (gh (H, A, K, kp, (tp, nI tl, 2, st, nI (tkE tp tl s), num tp tl s), S, F) m)) : SF mn_T_advance Q 107 [some (.ref 31)] [] (0, 0) (gh (H, A, K, kp, (tp, nI tl, so, st, nI s, nu), S, F) m) := by
  refine zgo hZ 999 9 rfl ?_
  exact c_takeNumber (H := H) (A := A) (K := K) (kp := kp) (S := S) (F := F) (m := m) (so := 2) (st := st) (nu := nu) hZ ht hs h k
set_option maxRecDepth 100000 in
set_option maxHeartbeats 400000 in
theorem c_ad_119 {SM : zC} {SF : Nat → zQ → zP} (hZ : zZ SM SF) {Q : zQ} {H K : zHl} {kp : Int32} {S : Nat → zSh} {F : Nat → Int32} {m : zMs} {tp : Nat → Int32} {A : zHl} {a so be nu : Int32} {s : Nat} (hs : s < 120) (k : Q none (gh (H, A, K, kp, (tp, a, (if tp s = 59 then 3 else 4), nI s, be + 1, nu), S, F) m)) : SF mn_T_advance Q 119 [some (.ref 31)] [] (0, 0) (gh (H, A, K, kp, (tp, a, so, nI s, be, nu), S, F) m) := by
  refine zgo hZ 999 24 rfl ?_
  refine ⟨s, hs, rfl, fun h => ?_, fun h => ?_⟩
  · rw [if_neg (show ¬ tp s = 59 from h)] at k
    exact k
  · rw [if_pos (show tp s = 59 from h)] at k
    exact k
theorem c_advance {SM : zC} {SF : Nat → zQ → zP} (hZ : zZ SM SF) {Q : zQ} {H K : zHl} {kp : Int32} {S : Nat → zSh} {F : Nat → Int32} {m : zMs} {tp : Nat → Int32} {A : zHl} {tl p : Nat} (ht : tl ≤ 120) (hp : p ≤ tl) {so st nu : Int32} (k : ∀ nu', (dg (byt tp tl (tkS tp tl p)) → nu' = num tp tl (tkS tp tl p)) → Q none (gh (H, A, K, kp, (tp, nI tl, sor tp tl (tkS tp tl p), nI (tkS tp tl p), nI (tkE tp tl (tkS tp tl p)), nu'), S, F) m)) : SM mn_T_advance [.ref 31] (gh (H, A, K, kp, (tp, nI tl, so, st, nI p, nu), S, F) m) Q := by
  have hs := tkS_rng (tp := tp) hp
  refine hZ.2.1 mn_T_advance _ _ Q rfl (c_ad_s hZ ht (tl - p) p (by omega) ?_)
  rw [show fst1 (fun l => !decide (tp l = 32)) p (tl - p) = tkS tp tl p from rfl]
  generalize tkS tp tl p = s at k hs
  have hs := hs.2
  unfold sor at k
  refine c_ad_38 hZ ht hs (fun hl => ?_) (fun hl => ?_)
  · rw [if_pos hl, byt_in hl] at k
    refine c_ad_65 hZ (by omega) (fun h1 => ?_) (fun h1 => ?_)
    · rw [if_pos h1] at k
      exact c_ad_80 hZ ht hl h1 (k nu (fun z => absurd z (lt_dg h1)))
    · rw [if_neg h1] at k
      refine c_ad_92 hZ (by omega) (fun h2 => ?_) (fun h2 => ?_)
      · rw [if_pos h2] at k
        exact c_ad_107 hZ ht hl h2 (k _ (fun _ => rfl))
      · rw [if_neg h2] at k
        refine c_ad_119 hZ (by omega) ?_
        have k2 := k nu (fun z => absurd z h2)
        unfold tkE at k2
        rw [if_pos hl, if_neg h1, if_neg h2, ← nI_1 s] at k2
        exact k2
  · rw [if_neg hl] at k
    have k2 := k nu (fun z => by unfold byt at z; rw [if_neg hl] at z; exact absurd z dg_m1)
    unfold tkE at k2
    rw [if_neg hl] at k2
    exact k2
