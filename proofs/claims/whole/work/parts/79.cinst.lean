/-! THE CLASS'S TAPE: a couple, fire, sit; the whole text; institute -/
theorem addC_5 (σ : zS) (v : Int32) : s2 (addC σ 0) 5 (nc σ) v = addC σ v := by
  funext f j
  by_cases h5 : f = 5
  · subst h5
    show upd (upd (σ 5) (nc σ) 0) (nc σ) v j = upd (σ 5) (nc σ) v j
    unfold upd
    by_cases hj : j = nc σ
    · rw [if_pos hj, if_pos hj]
    · rw [if_neg hj, if_neg hj, if_neg hj]
  · rw [s2_n _ h5]
    unfold addC
    by_cases h7 : f = 7
    · subst h7; rfl
    · rw [s2_n _ h7, s2_n _ h7]
      by_cases h6 : f = 6
      · subst h6; rfl
      · rw [s2_n _ h6, s2_n _ h6, s2_n _ h5, s2_n _ h5]
-- a couple
set_option maxRecDepth 100000 in
set_option maxHeartbeats 400000 in
theorem c_tc_0 {SM : zC} {SF : Nat → zQ → zP} (hZ : zZ SM SF) {Q : zQ} {H K : zHl} {kp : Int32} {S : Nat → zSh} {F : Nat → Int32} {m : zMs} {tp : Nat → Int32} {A : zHl} {R : Int32 × Int32 × Int32 × Int32 × Int32} (hn : A.1 8 3 = nI (nc A.1)) (h8 : nc A.1 < 8) (k : SF mn_T_tellCouple Q 13 [some (.ref 31), some (.ref 11), some (.int (nI (nc A.1)))] [] (0, 0) (gh (H, (addC A.1 0, A.2), K, kp, (tp, R), S, F) m)) : SM mn_T_tellCouple [.ref 31, .ref 11] (gh (H, A, K, kp, (tp, R), S, F) m) Q := by
  refine zin hZ 13 10 rfl rfl rfl ?_
  refine c_addCouple2 hZ hn h8 ?_
  exact ⟨fun _ => k, fun z => absurd z (nI_ne_m1 (by omega))⟩
set_option maxRecDepth 100000 in
set_option maxHeartbeats 400000 in
theorem c_tc_0f {SM : zC} {SF : Nat → zQ → zP} (hZ : zZ SM SF) {Q : zQ} {H K : zHl} {kp : Int32} {S : Nat → zSh} {F : Nat → Int32} {m : zMs} {tp : Nat → Int32} {A : zHl} {R : Int32 × Int32 × Int32 × Int32 × Int32} (hn : A.1 8 3 = nI (nc A.1)) (h8 : nc A.1 = 8) (k : Q (some (.int 0)) (gh (H, A, K, kp, (tp, R), S, F) m)) : SM mn_T_tellCouple [.ref 31, .ref 11] (gh (H, A, K, kp, (tp, R), S, F) m) Q := by
  refine zin hZ 999 12 rfl rfl rfl ?_
  refine c_addCouple82 hZ hn h8 ?_
  exact ⟨fun z => absurd rfl z, fun _ => ⟨Or.inl rfl, k⟩⟩
set_option maxRecDepth 100000 in
set_option maxHeartbeats 400000 in
theorem c_tc_13 {SM : zC} {SF : Nat → zQ → zP} (hZ : zZ SM SF) {Q : zQ} {H K : zHl} {kp : Int32} {S : Nat → zSh} {F : Nat → Int32} {m : zMs} {tp : Nat → Int32} {A : zHl} {tl s : Nat} (ht : tl ≤ 120) (hs : s ≤ tl) {so st nu : Int32} {o2 : Option Value} (k : ∀ nu', (dg (byt tp tl (nx tp tl s)) → nu' = num tp tl (nx tp tl s)) → SF mn_T_tellCouple Q 17 [some (.ref 31), some (.ref 11), o2] [] (0, 0) (gh (H, A, K, kp, (tp, nI tl, sor tp tl (nx tp tl s), nI (nx tp tl s), nI (tkE tp tl (nx tp tl s)), nu'), S, F) m)) : SF mn_T_tellCouple Q 13 [some (.ref 31), some (.ref 11), o2] [] (0, 0) (gh (H, A, K, kp, (tp, nI tl, so, st, nI (tkE tp tl s), nu), S, F) m) := by
  refine zgo hZ 17 4 rfl ?_
  exact c_adv hZ ht hs k
set_option maxRecDepth 100000 in
set_option maxHeartbeats 400000 in
theorem c_tc_17 {SM : zC} {SF : Nat → zQ → zP} (hZ : zZ SM SF) {Q : zQ} {H K : zHl} {kp : Int32} {S : Nat → zSh} {F : Nat → Int32} {m : zMs} {tp : Nat → Int32} {A : zHl} {tl s : Nat} {nu : Int32} (hn : dg (byt tp tl s) → nu = num tp tl s) {o2 : Option Value} (k1 : isn tp tl s 9 → SF mn_T_tellCouple Q 28 [some (.ref 31), some (.ref 11), o2] [] (0, 0) (gh (H, A, K, kp, (tp, nI tl, sor tp tl (s), nI (s), nI (tkE tp tl (s)), nu), S, F) m)) (k0 : ¬ isn tp tl s 9 → Q (some (.int 0)) (gh (H, A, K, kp, (tp, nI tl, sor tp tl (s), nI (s), nI (tkE tp tl (s)), nu), S, F) m)) : SF mn_T_tellCouple Q 17 [some (.ref 31), some (.ref 11), o2] [] (0, 0) (gh (H, A, K, kp, (tp, nI tl, sor tp tl (s), nI (s), nI (tkE tp tl (s)), nu), S, F) m) := by
  refine zgo hZ 28 8 rfl ?_
  exact c_isNumberTo hZ hn (fun z => ⟨fun _ => k1 z, nt⟩) (fun z => ⟨nf, fun _ => ⟨Or.inl rfl, k0 z⟩⟩)
set_option maxRecDepth 100000 in
set_option maxHeartbeats 400000 in
theorem c_tc_28 {SM : zC} {SF : Nat → zQ → zP} (hZ : zZ SM SF) {Q : zQ} {H K : zHl} {kp : Int32} {S : Nat → zSh} {F : Nat → Int32} {m : zMs} {tp : Nat → Int32} {A : zHl} {a so st be nu : Int32} {n : Nat} (hn : n < 8) (k : SF mn_T_tellCouple Q 38 [some (.ref 31), some (.ref 11), some (.int (nI n))] [] (0, 0) (gh (H, (s2 A.1 5 n nu, A.2), K, kp, (tp, a, so, st, be, nu), S, F) m)) : SF mn_T_tellCouple Q 28 [some (.ref 31), some (.ref 11), some (.int (nI n))] [] (0, 0) (gh (H, A, K, kp, (tp, a, so, st, be, nu), S, F) m) := by
  refine zgo hZ 38 8 rfl ?_
  exact ⟨n, hn, rfl, k⟩
set_option maxRecDepth 100000 in
set_option maxHeartbeats 400000 in
theorem c_tc_38 {SM : zC} {SF : Nat → zQ → zP} (hZ : zZ SM SF) {Q : zQ} {H K : zHl} {kp : Int32} {S : Nat → zSh} {F : Nat → Int32} {m : zMs} {tp : Nat → Int32} {A : zHl} {tl s : Nat} (ht : tl ≤ 120) (hs : s ≤ tl) {so st nu : Int32} {o2 : Option Value} (k : ∀ nu', (dg (byt tp tl (nx tp tl s)) → nu' = num tp tl (nx tp tl s)) → SF mn_T_tellCouple Q 42 [some (.ref 31), some (.ref 11), o2] [] (0, 0) (gh (H, A, K, kp, (tp, nI tl, sor tp tl (nx tp tl s), nI (nx tp tl s), nI (tkE tp tl (nx tp tl s)), nu'), S, F) m)) : SF mn_T_tellCouple Q 38 [some (.ref 31), some (.ref 11), o2] [] (0, 0) (gh (H, A, K, kp, (tp, nI tl, so, st, nI (tkE tp tl s), nu), S, F) m) := by
  refine zgo hZ 42 4 rfl ?_
  exact c_adv hZ ht hs k
set_option maxRecDepth 100000 in
set_option maxHeartbeats 400000 in
theorem c_tc_42 {SM : zC} {SF : Nat → zQ → zP} (hZ : zZ SM SF) {Q : zQ} {H K : zHl} {kp : Int32} {S : Nat → zSh} {F : Nat → Int32} {m : zMs} {tp : Nat → Int32} {A : zHl} {tl s : Nat} (ht : tl ≤ 120) (hs : s ≤ tl) {nu : Int32} {o2 : Option Value} (k1 : isw tp tl s (zm_tx.getD 11 []) → SF mn_T_tellCouple Q 51 [some (.ref 31), some (.ref 11), o2] [] (0, 0) (gh (H, A, K, kp, (tp, nI tl, sor tp tl (s), nI (s), nI (tkE tp tl (s)), nu), S, F) m)) (k0 : ¬ isw tp tl s (zm_tx.getD 11 []) → Q (some (.int 1)) (gh (H, A, K, kp, (tp, nI tl, sor tp tl (s), nI (s), nI (tkE tp tl (s)), nu), S, F) m)) : SF mn_T_tellCouple Q 42 [some (.ref 31), some (.ref 11), o2] [] (0, 0) (gh (H, A, K, kp, (tp, nI tl, sor tp tl (s), nI (s), nI (tkE tp tl (s)), nu), S, F) m) := by
  refine zgo hZ 51 8 rfl ?_
  exact c_isWord hZ 11 ht hs (by decide) (fun z => ⟨nt, fun _ => k1 z⟩) (fun z => ⟨fun _ => ⟨Or.inr rfl, k0 z⟩, nf⟩)
set_option maxRecDepth 100000 in
set_option maxHeartbeats 400000 in
theorem c_tc_51 {SM : zC} {SF : Nat → zQ → zP} (hZ : zZ SM SF) {Q : zQ} {H K : zHl} {kp : Int32} {S : Nat → zSh} {F : Nat → Int32} {m : zMs} {tp : Nat → Int32} {A : zHl} {tl s : Nat} (ht : tl ≤ 120) (hs : s ≤ tl) {so st nu : Int32} {o2 : Option Value} (k : ∀ nu', (dg (byt tp tl (nx tp tl s)) → nu' = num tp tl (nx tp tl s)) → SF mn_T_tellCouple Q 55 [some (.ref 31), some (.ref 11), o2] [] (0, 0) (gh (H, A, K, kp, (tp, nI tl, sor tp tl (nx tp tl s), nI (nx tp tl s), nI (tkE tp tl (nx tp tl s)), nu'), S, F) m)) : SF mn_T_tellCouple Q 51 [some (.ref 31), some (.ref 11), o2] [] (0, 0) (gh (H, A, K, kp, (tp, nI tl, so, st, nI (tkE tp tl s), nu), S, F) m) := by
  refine zgo hZ 55 4 rfl ?_
  exact c_adv hZ ht hs k
set_option maxRecDepth 100000 in
set_option maxHeartbeats 400000 in
theorem c_tc_55 {SM : zC} {SF : Nat → zQ → zP} (hZ : zZ SM SF) {Q : zQ} {H K : zHl} {kp : Int32} {S : Nat → zSh} {F : Nat → Int32} {m : zMs} {tp : Nat → Int32} {A : zHl} {tl s : Nat} {nu : Int32} (hn : dg (byt tp tl s) → nu = num tp tl s) {o2 : Option Value} (k1 : isn tp tl s (A.1 8 2 - 1) → SF mn_T_tellCouple Q 70 [some (.ref 31), some (.ref 11), o2] [] (0, 0) (gh (H, A, K, kp, (tp, nI tl, sor tp tl (s), nI (s), nI (tkE tp tl (s)), nu), S, F) m)) (k0 : ¬ isn tp tl s (A.1 8 2 - 1) → Q (some (.int 0)) (gh (H, A, K, kp, (tp, nI tl, sor tp tl (s), nI (s), nI (tkE tp tl (s)), nu), S, F) m)) : SF mn_T_tellCouple Q 55 [some (.ref 31), some (.ref 11), o2] [] (0, 0) (gh (H, A, K, kp, (tp, nI tl, sor tp tl (s), nI (s), nI (tkE tp tl (s)), nu), S, F) m) := by
  refine zgo hZ 70 12 rfl ?_
  exact c_isNumberTo hZ hn (fun z => ⟨fun _ => k1 z, nt⟩) (fun z => ⟨nf, fun _ => ⟨Or.inl rfl, k0 z⟩⟩)
set_option maxRecDepth 100000 in
set_option maxHeartbeats 400000 in
theorem c_tc_70 {SM : zC} {SF : Nat → zQ → zP} (hZ : zZ SM SF) {Q : zQ} {H K : zHl} {kp : Int32} {S : Nat → zSh} {F : Nat → Int32} {m : zMs} {tp : Nat → Int32} {A : zHl} {a so st be nu : Int32} {n : Nat} (hn : n < 8) (k : SF mn_T_tellCouple Q 80 [some (.ref 31), some (.ref 11), some (.int (nI n))] [] (0, 0) (gh (H, (s2 A.1 7 n nu, A.2), K, kp, (tp, a, so, st, be, nu), S, F) m)) : SF mn_T_tellCouple Q 70 [some (.ref 31), some (.ref 11), some (.int (nI n))] [] (0, 0) (gh (H, A, K, kp, (tp, a, so, st, be, nu), S, F) m) := by
  refine zgo hZ 80 8 rfl ?_
  exact ⟨n, hn, rfl, k⟩
set_option maxRecDepth 100000 in
set_option maxHeartbeats 400000 in
theorem c_tc_80 {SM : zC} {SF : Nat → zQ → zP} (hZ : zZ SM SF) {Q : zQ} {H K : zHl} {kp : Int32} {S : Nat → zSh} {F : Nat → Int32} {m : zMs} {tp : Nat → Int32} {A : zHl} {tl s : Nat} (ht : tl ≤ 120) (hs : s ≤ tl) {so st nu : Int32} {o2 : Option Value} (k : ∀ nu', (dg (byt tp tl (nx tp tl s)) → nu' = num tp tl (nx tp tl s)) → Q (some (.int 1)) (gh (H, A, K, kp, (tp, nI tl, sor tp tl (nx tp tl s), nI (nx tp tl s), nI (tkE tp tl (nx tp tl s)), nu'), S, F) m)) : SF mn_T_tellCouple Q 80 [some (.ref 31), some (.ref 11), o2] [] (0, 0) (gh (H, A, K, kp, (tp, nI tl, so, st, nI (tkE tp tl s), nu), S, F) m) := by
  refine zgo hZ 999 6 rfl ?_
  exact c_adv hZ ht hs (fun nu' z => ⟨Or.inr rfl, k nu' z⟩)
theorem c_tellCouple {SM : zC} {SF : Nat → zQ → zP} (hZ : zZ SM SF) {Q : zQ} {H K : zHl} {kp : Int32} {S : Nat → zSh} {F : Nat → Int32} {m : zMs} {tp : Nat → Int32} {A : zHl} {tl s : Nat} {nu : Int32} {D : Nat} (hw : wf D A.1) (ht : tl ≤ 120) (hs : s ≤ tl) (kt : (p_cpl tp tl A.1 s).1 = true → ∀ nu', (dg (byt tp tl (p_cpl tp tl A.1 s).2.2) → nu' = num tp tl (p_cpl tp tl A.1 s).2.2) → Q (some (.int 1)) (gh (H, ((p_cpl tp tl A.1 s).2.1, A.2), K, kp, (tp, nI tl, sor tp tl ((p_cpl tp tl A.1 s).2.2), nI ((p_cpl tp tl A.1 s).2.2), nI (tkE tp tl ((p_cpl tp tl A.1 s).2.2)), nu'), S, F) m)) (kf : (p_cpl tp tl A.1 s).1 = false → ∀ A' so be nu', Q (some (.int 0)) (gh (H, A', K, kp, (tp, nI tl, so, nI (p_cpl tp tl A.1 s).2.2, be, nu'), S, F) m)) : SM mn_T_tellCouple [.ref 31, .ref 11] (gh (H, A, K, kp, (tp, nI tl, sor tp tl (s), nI (s), nI (tkE tp tl (s)), nu), S, F) m) Q := by
  have hn := hw.2.2.2.2.1
  have h8 := hw.2.2.2.2.2
  have r1 := nx_rng (tp := tp) hs
  have r2 := nx_rng (tp := tp) r1.2.1
  have r3 := nx_rng (tp := tp) r2.2.1
  unfold p_cpl at kt kf
  by_cases h : nc A.1 = 8
  · rw [if_pos h] at kf
    exact c_tc_0f hZ hn h (kf rfl _ _ _ _)
  · have hn8 : nc A.1 < 8 := by omega
    rw [if_neg h] at kt kf
    refine c_tc_0 hZ hn hn8 ?_
    refine c_tc_13 hZ ht hs (fun nu1 hu1 => ?_)
    refine c_tc_17 hZ hu1 (fun h1 => ?_) (fun h1 => ?_)
    · rw [cif_t h1] at kt kf
      rw [hu1 h1.1]
      refine c_tc_28 hZ hn8 ?_
      show SF mn_T_tellCouple Q 38 [some (.ref 31), some (.ref 11), some (.int (nI (nc A.1)))] [] (0, 0) (gh (H, (s2 (addC A.1 0) 5 (nc A.1) (num tp tl (nx tp tl s)), A.2), K, kp, (tp, nI tl, sor tp tl (nx tp tl s), nI (nx tp tl s), nI (tkE tp tl (nx tp tl s)), num tp tl (nx tp tl s)), S, F) m)
      rw [addC_5]
      refine c_tc_38 hZ ht r1.2.1 (fun nu2 hu2 => ?_)
      refine c_tc_42 hZ ht r2.2.1 (fun h2 => ?_) (fun h2 => ?_)
      · rw [cif_t h2] at kt kf
        refine c_tc_51 hZ ht r2.2.1 (fun nu3 hu3 => ?_)
        refine c_tc_55 (A := (addC A.1 (num tp tl (nx tp tl s)), A.2)) hZ hu3 (fun h3 => ?_) (fun h3 => ?_)
        · have h3 : isn tp tl (nx tp tl (nx tp tl (nx tp tl s))) (A.1 8 2 - 1) := h3
          rw [cif_t h3] at kt
          rw [hu3 h3.1]
          refine c_tc_70 hZ hn8 ?_
          exact c_tc_80 hZ ht r3.2.1 (kt rfl)
        · have h3 : ¬ isn tp tl (nx tp tl (nx tp tl (nx tp tl s))) (A.1 8 2 - 1) := h3
          rw [cif_f h3] at kf
          exact kf rfl _ _ _ _
      · rw [cif_f h2] at kt
        exact kt rfl nu2 hu2
    · rw [cif_f h1] at kf
      exact kf rfl _ _ _ _
-- fire
set_option maxRecDepth 100000 in
set_option maxHeartbeats 400000 in
theorem c_tf_0 {SM : zC} {SF : Nat → zQ → zP} (hZ : zZ SM SF) {Q : zQ} {H K : zHl} {kp : Int32} {S : Nat → zSh} {F : Nat → Int32} {m : zMs} {tp : Nat → Int32} {A : zHl} {tl s : Nat} (ht : tl ≤ 120) (hs : s ≤ tl) {so st nu : Int32} (k : ∀ nu', (dg (byt tp tl (nx tp tl s)) → nu' = num tp tl (nx tp tl s)) → SF mn_T_tellFire Q 4 [some (.ref 31), some (.ref 11)] [] (0, 0) (gh (H, A, K, kp, (tp, nI tl, sor tp tl (nx tp tl s), nI (nx tp tl s), nI (tkE tp tl (nx tp tl s)), nu'), S, F) m)) : SM mn_T_tellFire [.ref 31, .ref 11] (gh (H, A, K, kp, (tp, nI tl, so, st, nI (tkE tp tl s), nu), S, F) m) Q := by
  refine zin hZ 4 4 rfl rfl rfl ?_
  exact c_adv hZ ht hs k
set_option maxRecDepth 100000 in
set_option maxHeartbeats 400000 in
theorem c_tf_4 {SM : zC} {SF : Nat → zQ → zP} (hZ : zZ SM SF) {Q : zQ} {H K : zHl} {kp : Int32} {S : Nat → zSh} {F : Nat → Int32} {m : zMs} {tp : Nat → Int32} {A : zHl} {tl s : Nat} {nu : Int32} (hn : dg (byt tp tl s) → nu = num tp tl s) (k1 : isn tp tl s 20 → SF mn_T_tellFire Q 15 [some (.ref 31), some (.ref 11)] [] (0, 0) (gh (H, A, K, kp, (tp, nI tl, sor tp tl (s), nI (s), nI (tkE tp tl (s)), nu), S, F) m)) (k0 : ¬ isn tp tl s 20 → Q (some (.int 0)) (gh (H, A, K, kp, (tp, nI tl, sor tp tl (s), nI (s), nI (tkE tp tl (s)), nu), S, F) m)) : SF mn_T_tellFire Q 4 [some (.ref 31), some (.ref 11)] [] (0, 0) (gh (H, A, K, kp, (tp, nI tl, sor tp tl (s), nI (s), nI (tkE tp tl (s)), nu), S, F) m) := by
  refine zgo hZ 15 8 rfl ?_
  exact c_isNumberTo hZ hn (fun z => ⟨fun _ => k1 z, nt⟩) (fun z => ⟨nf, fun _ => ⟨Or.inl rfl, k0 z⟩⟩)
set_option maxRecDepth 100000 in
set_option maxHeartbeats 400000 in
theorem c_tf_15 {SM : zC} {SF : Nat → zQ → zP} (hZ : zZ SM SF) {Q : zQ} {H K : zHl} {kp : Int32} {S : Nat → zSh} {F : Nat → Int32} {m : zMs} {tp : Nat → Int32} {A : zHl} {a so st be nu : Int32} (k : SF mn_T_tellFire Q 23 [some (.ref 31), some (.ref 11)] [] (0, 0) (gh (H, (s2 A.1 8 1 nu, A.2), K, kp, (tp, a, so, st, be, nu), S, F) m)) : SF mn_T_tellFire Q 15 [some (.ref 31), some (.ref 11)] [] (0, 0) (gh (H, A, K, kp, (tp, a, so, st, be, nu), S, F) m) := by
  refine zgo hZ 23 8 rfl ?_
  exact k
set_option maxRecDepth 100000 in
set_option maxHeartbeats 400000 in
theorem c_tf_23 {SM : zC} {SF : Nat → zQ → zP} (hZ : zZ SM SF) {Q : zQ} {H K : zHl} {kp : Int32} {S : Nat → zSh} {F : Nat → Int32} {m : zMs} {tp : Nat → Int32} {A : zHl} {tl s : Nat} (ht : tl ≤ 120) (hs : s ≤ tl) {so st nu : Int32} (k : ∀ nu', (dg (byt tp tl (nx tp tl s)) → nu' = num tp tl (nx tp tl s)) → Q (some (.int 1)) (gh (H, A, K, kp, (tp, nI tl, sor tp tl (nx tp tl s), nI (nx tp tl s), nI (tkE tp tl (nx tp tl s)), nu'), S, F) m)) : SF mn_T_tellFire Q 23 [some (.ref 31), some (.ref 11)] [] (0, 0) (gh (H, A, K, kp, (tp, nI tl, so, st, nI (tkE tp tl s), nu), S, F) m) := by
  refine zgo hZ 999 6 rfl ?_
  exact c_adv hZ ht hs (fun nu' z => ⟨Or.inr rfl, k nu' z⟩)
theorem c_tellFire {SM : zC} {SF : Nat → zQ → zP} (hZ : zZ SM SF) {Q : zQ} {H K : zHl} {kp : Int32} {S : Nat → zSh} {F : Nat → Int32} {m : zMs} {tp : Nat → Int32} {A : zHl} {tl s : Nat} {nu : Int32} (ht : tl ≤ 120) (hs : s ≤ tl) (kt : (p_fir tp tl A.1 s).1 = true → ∀ nu', (dg (byt tp tl (p_fir tp tl A.1 s).2.2) → nu' = num tp tl (p_fir tp tl A.1 s).2.2) → Q (some (.int 1)) (gh (H, ((p_fir tp tl A.1 s).2.1, A.2), K, kp, (tp, nI tl, sor tp tl ((p_fir tp tl A.1 s).2.2), nI ((p_fir tp tl A.1 s).2.2), nI (tkE tp tl ((p_fir tp tl A.1 s).2.2)), nu'), S, F) m)) (kf : (p_fir tp tl A.1 s).1 = false → ∀ A' so be nu', Q (some (.int 0)) (gh (H, A', K, kp, (tp, nI tl, so, nI (p_fir tp tl A.1 s).2.2, be, nu'), S, F) m)) : SM mn_T_tellFire [.ref 31, .ref 11] (gh (H, A, K, kp, (tp, nI tl, sor tp tl (s), nI (s), nI (tkE tp tl (s)), nu), S, F) m) Q := by
  have r1 := nx_rng (tp := tp) hs
  unfold p_fir at kt kf
  refine c_tf_0 hZ ht hs (fun nu1 hu1 => ?_)
  refine c_tf_4 hZ hu1 (fun h => ?_) (fun h => ?_)
  · rw [cif_t h] at kt
    rw [hu1 h.1]
    refine c_tf_15 hZ ?_
    exact c_tf_23 hZ ht r1.2.1 (kt rfl)
  · rw [cif_f h] at kf
    exact kf rfl _ _ _ _
-- sit
set_option maxRecDepth 100000 in
set_option maxHeartbeats 400000 in
theorem c_ts_0 {SM : zC} {SF : Nat → zQ → zP} (hZ : zZ SM SF) {Q : zQ} {H K : zHl} {kp : Int32} {S : Nat → zSh} {F : Nat → Int32} {m : zMs} {tp : Nat → Int32} {A : zHl} {tl s : Nat} (ht : tl ≤ 120) (hs : s ≤ tl) {so st nu : Int32} (k : ∀ nu', (dg (byt tp tl (nx tp tl s)) → nu' = num tp tl (nx tp tl s)) → SF mn_T_tellSit Q 4 [some (.ref 31), some (.ref 11)] [] (0, 0) (gh (H, A, K, kp, (tp, nI tl, sor tp tl (nx tp tl s), nI (nx tp tl s), nI (tkE tp tl (nx tp tl s)), nu'), S, F) m)) : SM mn_T_tellSit [.ref 31, .ref 11] (gh (H, A, K, kp, (tp, nI tl, so, st, nI (tkE tp tl s), nu), S, F) m) Q := by
  refine zin hZ 4 4 rfl rfl rfl ?_
  exact c_adv hZ ht hs k
set_option maxRecDepth 100000 in
set_option maxHeartbeats 400000 in
theorem c_ts_4 {SM : zC} {SF : Nat → zQ → zP} (hZ : zZ SM SF) {Q : zQ} {H K : zHl} {kp : Int32} {S : Nat → zSh} {F : Nat → Int32} {m : zMs} {tp : Nat → Int32} {A : zHl} {tl s : Nat} {nu : Int32} (hn : dg (byt tp tl s) → nu = num tp tl s) (k1 : isn tp tl s (A.1 8 2 - 1) → SF mn_T_tellSit Q 19 [some (.ref 31), some (.ref 11)] [] (0, 0) (gh (H, A, K, kp, (tp, nI tl, sor tp tl (s), nI (s), nI (tkE tp tl (s)), nu), S, F) m)) (k0 : ¬ isn tp tl s (A.1 8 2 - 1) → Q (some (.int 0)) (gh (H, A, K, kp, (tp, nI tl, sor tp tl (s), nI (s), nI (tkE tp tl (s)), nu), S, F) m)) : SF mn_T_tellSit Q 4 [some (.ref 31), some (.ref 11)] [] (0, 0) (gh (H, A, K, kp, (tp, nI tl, sor tp tl (s), nI (s), nI (tkE tp tl (s)), nu), S, F) m) := by
  refine zgo hZ 19 12 rfl ?_
  exact c_isNumberTo hZ hn (fun z => ⟨fun _ => k1 z, nt⟩) (fun z => ⟨nf, fun _ => ⟨Or.inl rfl, k0 z⟩⟩)
set_option maxRecDepth 100000 in
set_option maxHeartbeats 400000 in
theorem c_ts_19 {SM : zC} {SF : Nat → zQ → zP} (hZ : zZ SM SF) {Q : zQ} {H K : zHl} {kp : Int32} {S : Nat → zSh} {F : Nat → Int32} {m : zMs} {tp : Nat → Int32} {A : zHl} {a so st be : Int32} {n : Nat} (hn : n < 8) (k : SF mn_T_tellSit Q 29 [some (.ref 31), some (.ref 11)] [] (0, 0) (gh (H, (s2 A.1 2 n 1, A.2), K, kp, (tp, a, so, st, be, nI n), S, F) m)) : SF mn_T_tellSit Q 19 [some (.ref 31), some (.ref 11)] [] (0, 0) (gh (H, A, K, kp, (tp, a, so, st, be, nI n), S, F) m) := by
  refine zgo hZ 29 8 rfl ?_
  exact ⟨n, hn, rfl, k⟩
set_option maxRecDepth 100000 in
set_option maxHeartbeats 400000 in
theorem c_ts_29 {SM : zC} {SF : Nat → zQ → zP} (hZ : zZ SM SF) {Q : zQ} {H K : zHl} {kp : Int32} {S : Nat → zSh} {F : Nat → Int32} {m : zMs} {tp : Nat → Int32} {A : zHl} {tl s : Nat} (ht : tl ≤ 120) (hs : s ≤ tl) {so st nu : Int32} (k : ∀ nu', (dg (byt tp tl (nx tp tl s)) → nu' = num tp tl (nx tp tl s)) → Q (some (.int 1)) (gh (H, A, K, kp, (tp, nI tl, sor tp tl (nx tp tl s), nI (nx tp tl s), nI (tkE tp tl (nx tp tl s)), nu'), S, F) m)) : SF mn_T_tellSit Q 29 [some (.ref 31), some (.ref 11)] [] (0, 0) (gh (H, A, K, kp, (tp, nI tl, so, st, nI (tkE tp tl s), nu), S, F) m) := by
  refine zgo hZ 999 6 rfl ?_
  exact c_adv hZ ht hs (fun nu' z => ⟨Or.inr rfl, k nu' z⟩)
theorem c_tellSit {SM : zC} {SF : Nat → zQ → zP} (hZ : zZ SM SF) {Q : zQ} {H K : zHl} {kp : Int32} {S : Nat → zSh} {F : Nat → Int32} {m : zMs} {tp : Nat → Int32} {A : zHl} {tl s : Nat} {nu : Int32} {D : Nat} (hw : wf D A.1) (ht : tl ≤ 120) (hs : s ≤ tl) (kt : (p_sit tp tl A.1 s).1 = true → ∀ nu', (dg (byt tp tl (p_sit tp tl A.1 s).2.2) → nu' = num tp tl (p_sit tp tl A.1 s).2.2) → Q (some (.int 1)) (gh (H, ((p_sit tp tl A.1 s).2.1, A.2), K, kp, (tp, nI tl, sor tp tl ((p_sit tp tl A.1 s).2.2), nI ((p_sit tp tl A.1 s).2.2), nI (tkE tp tl ((p_sit tp tl A.1 s).2.2)), nu'), S, F) m)) (kf : (p_sit tp tl A.1 s).1 = false → ∀ A' so be nu', Q (some (.int 0)) (gh (H, A', K, kp, (tp, nI tl, so, nI (p_sit tp tl A.1 s).2.2, be, nu'), S, F) m)) : SM mn_T_tellSit [.ref 31, .ref 11] (gh (H, A, K, kp, (tp, nI tl, sor tp tl (s), nI (s), nI (tkE tp tl (s)), nu), S, F) m) Q := by
  have i8 := hw.2.2.2.1.2
  have r1 := nx_rng (tp := tp) hs
  unfold p_sit at kt kf
  refine c_ts_0 hZ ht hs (fun nu1 hu1 => ?_)
  refine c_ts_4 hZ hu1 (fun h => ?_) (fun h => ?_)
  · rw [cif_t h] at kt
    obtain ⟨n, hn1, hn2, hn3⟩ := num_nI i8 (by rw [hw.2.2.2.1.1]) h
    rw [hn3] at kt
    rw [hu1 h.1, hn2]
    refine c_ts_19 hZ (by omega) ?_
    exact c_ts_29 hZ ht r1.2.1 (kt rfl)
  · rw [cif_f h] at kf
    exact kf rfl _ _ _ _
