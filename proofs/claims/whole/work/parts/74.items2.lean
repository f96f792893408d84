/-! THE REFERENCE'S ITEMS, second part: a couple, fire, sit; an item -/
-- a couple
set_option maxRecDepth 100000 in
set_option maxHeartbeats 400000 in
theorem t_cpl_0 {SM : zC} {SF : Nat → zQ → zP} (hZ : zZ SM SF) {Q : zQ} {x : zXs} {as g F ks ot : Nat → Int32} {kp : Int32} {S : Nat → zSh} {mv : Nat → Int64} {tl : Nat} {tp : Nat → Int32} {σ : zS} {v : Int32} (ht : tl ≤ 120) {s : Nat} (hs : s ≤ tl) {n : Nat} (hn : σ 8 3 = nI n) (h8 : n < 8) (k : SF mn_M_coupleItem Q 20 [some (.ref 43), none] [] (0, 0) (gh x (ec σ, as, g, F, mq ks ot kp tp (nI tl, nI (nx tp tl s), nI (tkE tp tl (nx tp tl s)), v, 0) S mv))) : SM mn_M_coupleItem [.ref 43] (gh x (ec σ, as, g, F, mq ks ot kp tp (nI tl, nI s, nI (tkE tp tl s), v, 0) S mv)) Q := by
  have e : (ec σ 3 : Int32) = nI n := by rw [ec_c (by decide), hn]
  refine zin hZ 20 12 rfl rfl rfl ?_
  refine ⟨3, by decide, rfl, fun h => ?_, fun _ => ?_⟩
  · have := (ile (a := 8) (m := 8) rfl e (by omega) (by omega)).mp h
    omega
  · exact t_must1 hZ ht hs k
set_option maxRecDepth 100000 in
set_option maxHeartbeats 400000 in
theorem t_cpl_27w {SM : zC} {SF : Nat → zQ → zP} (hZ : zZ SM SF) {Q : zQ} {x : zXs} {as g F ks ot : Nat → Int32} {kp : Int32} {S : Nat → zSh} {mv : Nat → Int64} {tp : Nat → Int32} {r : Nat → Int32} {a f e v : Int32} {o : Option Value} (k : Q none (gh x (r, as, g, F, mq ks ot kp tp (a, f, e, v, 1) S mv))) : SF mn_M_coupleItem Q 27 [some (.ref 43), o] [] (0, 0) (gh x (r, as, g, F, mq ks ot kp tp (a, f, e, v, 1) S mv)) := by
  refine zgo hZ 999 6 rfl ?_
  exact ⟨nt, fun _ => k⟩
set_option maxRecDepth 100000 in
set_option maxHeartbeats 400000 in
theorem t_cpl_20w {SM : zC} {SF : Nat → zQ → zP} (hZ : zZ SM SF) {Q : zQ} {x : zXs} {as g F ks ot : Nat → Int32} {kp : Int32} {S : Nat → zSh} {mv : Nat → Int64} {tp : Nat → Int32} {r : Nat → Int32} {a f e v : Int32} {o : Option Value} (k : SF mn_M_coupleItem Q 27 [some (.ref 43), o] [] (0, 0) (gh x (r, as, g, F, mq ks ot kp tp (a, f, e, v, 1) S mv))) : SF mn_M_coupleItem Q 20 [some (.ref 43), o] [] (0, 0) (gh x (r, as, g, F, mq ks ot kp tp (a, f, e, v, 1) S mv)) := by
  refine zgo hZ 27 6 rfl ?_
  exact t_num_w hZ k
set_option maxRecDepth 100000 in
set_option maxHeartbeats 400000 in
theorem t_cpl_0f {SM : zC} {SF : Nat → zQ → zP} (hZ : zZ SM SF) {Q : zQ} {x : zXs} {as g F ks ot : Nat → Int32} {kp : Int32} {S : Nat → zSh} {mv : Nat → Int64} {tp : Nat → Int32} {σ : zS} {a f e' v : Int32} {n : Nat} (hn : σ 8 3 = nI n) (h8 : n = 8) (k : SF mn_M_coupleItem Q 20 [some (.ref 43), none] [] (0, 0) (gh x (ec σ, as, g, F, mq ks ot kp tp (a, f, e', v, 1) S mv))) : SM mn_M_coupleItem [.ref 43] (gh x (ec σ, as, g, F, mq ks ot kp tp (a, f, e', v, 0) S mv)) Q := by
  have e : (ec σ 3 : Int32) = nI n := by rw [ec_c (by decide), hn]
  refine zin hZ 20 12 rfl rfl rfl ?_
  refine ⟨3, by decide, rfl, fun _ => ?_, fun h => absurd ((ile (a := 8) (m := 8) rfl e (by omega) (by omega)).mpr (by omega)) h⟩
  exact t_must0 hZ k
set_option maxRecDepth 100000 in
set_option maxHeartbeats 400000 in
theorem t_cpl_20 {SM : zC} {SF : Nat → zQ → zP} (hZ : zZ SM SF) {Q : zQ} {x : zXs} {as g F ks ot : Nat → Int32} {kp : Int32} {S : Nat → zSh} {mv : Nat → Int64} {tl : Nat} {tp : Nat → Int32} {r : Nat → Int32} {v : Int32} (ht : tl ≤ 120) {s : Nat} (hs : s ≤ tl) {o : Option Value} (kt : isn tp tl s 9 → SF mn_M_coupleItem Q 27 [some (.ref 43), o] [] (0, 0) (gh x (r, as, g, F, mq ks ot kp tp (nI tl, nI (nx tp tl s), nI (tkE tp tl (nx tp tl s)), num tp tl s, 0) S mv))) (kf : ¬ isn tp tl s 9 → ∀ u, SF mn_M_coupleItem Q 27 [some (.ref 43), o] [] (0, 0) (gh x (r, as, g, F, mq ks ot kp tp (nI tl, nI s, nI (tkE tp tl s), u, 1) S mv))) : SF mn_M_coupleItem Q 20 [some (.ref 43), o] [] (0, 0) (gh x (r, as, g, F, mq ks ot kp tp (nI tl, nI s, nI (tkE tp tl s), v, 0) S mv)) := by
  refine zgo hZ 27 6 rfl ?_
  exact t_num hZ ht hs (by decide) kt kf
set_option maxRecDepth 100000 in
set_option maxHeartbeats 400000 in
theorem t_cpl_27 {SM : zC} {SF : Nat → zQ → zP} (hZ : zZ SM SF) {Q : zQ} {x : zXs} {as g F ks ot : Nat → Int32} {kp : Int32} {S : Nat → zSh} {mv : Nat → Int64} {tp : Nat → Int32} {σ : zS} {a f e' v : Int32} {o : Option Value} (hn : σ 8 3 = nI (nc σ)) (h8 : nc σ < 8) (k : SF mn_M_coupleItem Q 44 [some (.ref 43), some (.int (nI (nc σ)))] [] (0, 0) (gh x (ec (addC σ v), as, g, F, mq ks ot kp tp (a, f, e', v, 0) S mv))) : SF mn_M_coupleItem Q 27 [some (.ref 43), o] [] (0, 0) (gh x (ec σ, as, g, F, mq ks ot kp tp (a, f, e', v, 0) S mv)) := by
  refine zgo hZ 44 12 rfl ?_
  refine ⟨fun _ => ?_, nf⟩
  exact t_addsCouple hZ hn h8 k
set_option maxRecDepth 100000 in
set_option maxHeartbeats 400000 in
theorem t_cpl_44 {SM : zC} {SF : Nat → zQ → zP} (hZ : zZ SM SF) {Q : zQ} {x : zXs} {as g F ks ot : Nat → Int32} {kp : Int32} {S : Nat → zSh} {mv : Nat → Int64} {tl : Nat} {tp : Nat → Int32} {r : Nat → Int32} {v : Int32} (ht : tl ≤ 120) {s : Nat} (hs : s ≤ tl) {o1 : Option Value} (k1 : isw tp tl s (zm_tx.getD 11 []) → SF mn_M_coupleItem Q 55 [some (.ref 43), o1] [] (0, 0) (gh x (r, as, g, F, mq ks ot kp tp (nI tl, nI s, nI (tkE tp tl s), v, 0) S mv))) (k0 : ¬ isw tp tl s (zm_tx.getD 11 []) → Q none (gh x (r, as, g, F, mq ks ot kp tp (nI tl, nI s, nI (tkE tp tl s), v, 0) S mv))) : SF mn_M_coupleItem Q 44 [some (.ref 43), o1] [] (0, 0) (gh x (r, as, g, F, mq ks ot kp tp (nI tl, nI s, nI (tkE tp tl s), v, 0) S mv)) := by
  have key : SF mn_M_coupleItem Q 48 [some (.ref 43), o1] [.long (wd tp tl s)] (0, 0) (gh x (r, as, g, F, mq ks ot kp tp (nI tl, nI s, nI (tkE tp tl s), v, 0) S mv)) := by
    rw [← wd_11 hs] at k1 k0
    by_cases h : wd tp tl s = 8228
    · have k2 := k1 h
      refine zgo hZ 55 4 rfl ?_
      exact ⟨fun z => absurd ((lcmp_eq _ _).mpr h) z, fun _ => k2⟩
    · have k2 := k0 h
      refine zgo hZ 999 5 rfl ?_
      exact ⟨fun _ => k2, fun z => absurd ((lcmp_eq _ _).mp z) h⟩
  refine zgo hZ 48 4 rfl ?_
  exact t_word hZ ht hs key
set_option maxRecDepth 100000 in
set_option maxHeartbeats 400000 in
theorem t_cpl_55 {SM : zC} {SF : Nat → zQ → zP} (hZ : zZ SM SF) {Q : zQ} {x : zXs} {as g F ks ot : Nat → Int32} {kp : Int32} {S : Nat → zSh} {mv : Nat → Int64} {tl : Nat} {tp : Nat → Int32} {r : Nat → Int32} {v : Int32} (ht : tl ≤ 120) {s : Nat} (hs : s ≤ tl) {o1 : Option Value} (k : SF mn_M_coupleItem Q 60 [some (.ref 43), o1] [] (0, 0) (gh x (r, as, g, F, mq ks ot kp tp (nI tl, nI (nx tp tl s), nI (tkE tp tl (nx tp tl s)), v, 0) S mv))) : SF mn_M_coupleItem Q 55 [some (.ref 43), o1] [] (0, 0) (gh x (r, as, g, F, mq ks ot kp tp (nI tl, nI s, nI (tkE tp tl s), v, 0) S mv)) := by
  refine zgo hZ 60 5 rfl ?_
  exact t_must1 hZ ht hs k
set_option maxRecDepth 100000 in
set_option maxHeartbeats 400000 in
theorem t_cpl_60 {SM : zC} {SF : Nat → zQ → zP} (hZ : zZ SM SF) {Q : zQ} {x : zXs} {as g F ks ot : Nat → Int32} {kp : Int32} {S : Nat → zSh} {mv : Nat → Int64} {tl : Nat} {tp : Nat → Int32} {σ : zS} {v : Int32} (ht : tl ≤ 120) {s : Nat} (hs : s ≤ tl) {o1 : Option Value} {h : Int32} (hh : σ 8 2 - 1 = h) (h9 : h.toInt ≤ 999) (kt : isn tp tl s h → SF mn_M_coupleItem Q 73 [some (.ref 43), o1] [] (0, 0) (gh x (ec σ, as, g, F, mq ks ot kp tp (nI tl, nI (nx tp tl s), nI (tkE tp tl (nx tp tl s)), num tp tl s, 0) S mv))) (kf : ¬ isn tp tl s h → ∀ u, SF mn_M_coupleItem Q 73 [some (.ref 43), o1] [] (0, 0) (gh x (ec σ, as, g, F, mq ks ot kp tp (nI tl, nI s, nI (tkE tp tl s), u, 1) S mv))) : SF mn_M_coupleItem Q 60 [some (.ref 43), o1] [] (0, 0) (gh x (ec σ, as, g, F, mq ks ot kp tp (nI tl, nI s, nI (tkE tp tl s), v, 0) S mv)) := by
  have e : (ec σ 2 : Int32) - 1 = h := by rw [ec_c (by decide), hh]
  subst e
  refine zgo hZ 73 10 rfl ?_
  refine ⟨2, by decide, rfl, ?_⟩
  exact t_num hZ ht hs h9 kt kf
set_option maxRecDepth 100000 in
set_option maxHeartbeats 400000 in
theorem t_cpl_73 {SM : zC} {SF : Nat → zQ → zP} (hZ : zZ SM SF) {Q : zQ} {x : zXs} {as g F ks ot : Nat → Int32} {kp : Int32} {S : Nat → zSh} {mv : Nat → Int64} {tp : Nat → Int32} {r : Nat → Int32} {a f e v w : Int32} {n : Nat} (hn : n < 8) (k : Q none (gh x (upd r (44 + 3 * n + 2) v, as, g, F, mq ks ot kp tp (a, f, e, v, w) S mv))) : SF mn_M_coupleItem Q 73 [some (.ref 43), some (.int (nI n))] [] (0, 0) (gh x (r, as, g, F, mq ks ot kp tp (a, f, e, v, w) S mv)) := by
  refine zgo hZ 999 12 rfl ?_
  refine t_cspot hZ (w := 2) ?_
  exact ⟨44 + 3 * n + 2, by omega, rfl, k⟩
theorem addC_82 (σ : zS) (ld : Int32) : addC σ ld 8 2 = σ 8 2 := rfl
theorem t_cpl {SM : zC} {SF : Nat → zQ → zP} (hZ : zZ SM SF) {Q : zQ} {x : zXs} {as g F ks ot : Nat → Int32} {kp : Int32} {S : Nat → zSh} {mv : Nat → Int64} {tl : Nat} {tp : Nat → Int32} {σ : zS} {v : Int32} {D : Nat} (hw : wf D σ) (ht : tl ≤ 120) {s : Nat} (hs : s ≤ tl) (kt : (p_cpl tp tl σ s).1 = true → ∀ u, Q none (gh x (ec (p_cpl tp tl σ s).2.1, as, g, F, mq ks ot kp tp (nI tl, nI (p_cpl tp tl σ s).2.2, nI (tkE tp tl (p_cpl tp tl σ s).2.2), u, 0) S mv))) (kf : (p_cpl tp tl σ s).1 = false → ∀ r u, Q none (gh x (r, as, g, F, mq ks ot kp tp (nI tl, nI (p_cpl tp tl σ s).2.2, nI (tkE tp tl (p_cpl tp tl σ s).2.2), u, 1) S mv))) : SM mn_M_coupleItem [.ref 43] (gh x (ec σ, as, g, F, mq ks ot kp tp (nI tl, nI s, nI (tkE tp tl s), v, 0) S mv)) Q := by
  have hn := hw.2.2.2.2.1
  have h8 := hw.2.2.2.2.2
  have i8 := hw.2.2.2.1.2
  have i9 : (σ 8 2 - 1).toInt ≤ 999 := by rw [hw.2.2.2.1.1, n1_toInt i8]; omega
  have r1 := nx_rng (tp := tp) hs
  have r2 := nx_rng (tp := tp) r1.2.1
  have r3 := nx_rng (tp := tp) r2.2.1
  have r4 := nx_rng (tp := tp) r3.2.1
  unfold p_cpl at kt kf
  by_cases h : nc σ = 8
  · rw [if_pos h] at kf
    refine t_cpl_0f hZ hn h ?_
    refine t_cpl_20w hZ ?_
    exact t_cpl_27w hZ (kf rfl _ _)
  · have hn8 : nc σ < 8 := by omega
    rw [if_neg h] at kt kf
    refine t_cpl_0 hZ ht hs hn hn8 ?_
    refine t_cpl_20 hZ ht r1.2.1 (fun h1 => ?_) (fun h1 u => ?_)
    · rw [cif_t h1] at kt kf
      refine t_cpl_27 hZ hn hn8 ?_
      refine t_cpl_44 hZ ht r2.2.1 (fun h2 => ?_) (fun h2 => ?_)
      · rw [cif_t h2] at kt kf
        refine t_cpl_55 hZ ht r2.2.1 ?_
        refine t_cpl_60 hZ ht r3.2.1 (addC_82 σ _ ▸ rfl) i9 (fun h3 => ?_) (fun h3 u => ?_)
        · rw [cif_t h3] at kt
          refine t_cpl_73 hZ hn8 ?_
          rw [ec_up _ (w := 2) (by decide)]
          exact kt rfl _
        · rw [cif_f h3] at kf
          refine t_cpl_73 hZ hn8 ?_
          exact kf rfl _ _
      · rw [cif_f h2] at kt
        exact kt rfl _
    · rw [cif_f h1] at kf
      exact t_cpl_27w hZ (kf rfl _ _)
-- fire
set_option maxRecDepth 100000 in
set_option maxHeartbeats 400000 in
theorem t_fir_0 {SM : zC} {SF : Nat → zQ → zP} (hZ : zZ SM SF) {Q : zQ} {x : zXs} {as g F ks ot : Nat → Int32} {kp : Int32} {S : Nat → zSh} {mv : Nat → Int64} {tl : Nat} {tp : Nat → Int32} {r : Nat → Int32} {v : Int32} (ht : tl ≤ 120) {s : Nat} (hs : s ≤ tl) (k : SF mn_M_fireItem Q 5 [some (.ref 43)] [] (0, 0) (gh x (r, as, g, F, mq ks ot kp tp (nI tl, nI (nx tp tl s), nI (tkE tp tl (nx tp tl s)), v, 0) S mv))) : SM mn_M_fireItem [.ref 43] (gh x (r, as, g, F, mq ks ot kp tp (nI tl, nI s, nI (tkE tp tl s), v, 0) S mv)) Q := by
  refine zin hZ 5 5 rfl rfl rfl ?_
  exact t_must1 hZ ht hs k
set_option maxRecDepth 100000 in
set_option maxHeartbeats 400000 in
theorem t_fir_5 {SM : zC} {SF : Nat → zQ → zP} (hZ : zZ SM SF) {Q : zQ} {x : zXs} {as g F ks ot : Nat → Int32} {kp : Int32} {S : Nat → zSh} {mv : Nat → Int64} {tl : Nat} {tp : Nat → Int32} {r : Nat → Int32} {v : Int32} (ht : tl ≤ 120) {s : Nat} (hs : s ≤ tl) (kt : isn tp tl s 20 → SF mn_M_fireItem Q 12 [some (.ref 43)] [] (0, 0) (gh x (r, as, g, F, mq ks ot kp tp (nI tl, nI (nx tp tl s), nI (tkE tp tl (nx tp tl s)), num tp tl s, 0) S mv))) (kf : ¬ isn tp tl s 20 → ∀ u, SF mn_M_fireItem Q 12 [some (.ref 43)] [] (0, 0) (gh x (r, as, g, F, mq ks ot kp tp (nI tl, nI s, nI (tkE tp tl s), u, 1) S mv))) : SF mn_M_fireItem Q 5 [some (.ref 43)] [] (0, 0) (gh x (r, as, g, F, mq ks ot kp tp (nI tl, nI s, nI (tkE tp tl s), v, 0) S mv)) := by
  refine zgo hZ 12 6 rfl ?_
  exact t_num hZ ht hs (by decide) kt kf
set_option maxRecDepth 100000 in
set_option maxHeartbeats 400000 in
theorem t_fir_12 {SM : zC} {SF : Nat → zQ → zP} (hZ : zZ SM SF) {Q : zQ} {x : zXs} {as g F ks ot : Nat → Int32} {kp : Int32} {S : Nat → zSh} {mv : Nat → Int64} {tp : Nat → Int32} {σ : zS} {a f e v : Int32} (k : Q none (gh x (ec (s2 σ 8 1 v), as, g, F, mq ks ot kp tp (a, f, e, v, 0) S mv))) : SF mn_M_fireItem Q 12 [some (.ref 43)] [] (0, 0) (gh x (ec σ, as, g, F, mq ks ot kp tp (a, f, e, v, 0) S mv)) := by
  rw [← ec_uc σ (k := 1) (by decide)] at k
  refine zgo hZ 999 12 rfl ?_
  exact ⟨fun _ => ⟨1, by decide, rfl, k⟩, nf⟩
set_option maxRecDepth 100000 in
set_option maxHeartbeats 400000 in
theorem t_fir_12w {SM : zC} {SF : Nat → zQ → zP} (hZ : zZ SM SF) {Q : zQ} {x : zXs} {as g F ks ot : Nat → Int32} {kp : Int32} {S : Nat → zSh} {mv : Nat → Int64} {tp : Nat → Int32} {r : Nat → Int32} {a f e v : Int32} (k : ∀ r, Q none (gh x (r, as, g, F, mq ks ot kp tp (a, f, e, v, 1) S mv))) : SF mn_M_fireItem Q 12 [some (.ref 43)] [] (0, 0) (gh x (r, as, g, F, mq ks ot kp tp (a, f, e, v, 1) S mv)) := by
  refine zgo hZ 999 14 rfl ?_
  exact ⟨nt, fun _ => ⟨1, by decide, rfl, 1, by decide, rfl, k (upd r 1 (r 1))⟩⟩
theorem t_fir {SM : zC} {SF : Nat → zQ → zP} (hZ : zZ SM SF) {Q : zQ} {x : zXs} {as g F ks ot : Nat → Int32} {kp : Int32} {S : Nat → zSh} {mv : Nat → Int64} {tl : Nat} {tp : Nat → Int32} {σ : zS} {v : Int32} (ht : tl ≤ 120) {s : Nat} (hs : s ≤ tl) (kt : (p_fir tp tl σ s).1 = true → ∀ u, Q none (gh x (ec (p_fir tp tl σ s).2.1, as, g, F, mq ks ot kp tp (nI tl, nI (p_fir tp tl σ s).2.2, nI (tkE tp tl (p_fir tp tl σ s).2.2), u, 0) S mv))) (kf : (p_fir tp tl σ s).1 = false → ∀ r u, Q none (gh x (r, as, g, F, mq ks ot kp tp (nI tl, nI (p_fir tp tl σ s).2.2, nI (tkE tp tl (p_fir tp tl σ s).2.2), u, 1) S mv))) : SM mn_M_fireItem [.ref 43] (gh x (ec σ, as, g, F, mq ks ot kp tp (nI tl, nI s, nI (tkE tp tl s), v, 0) S mv)) Q := by
  have r1 := nx_rng (tp := tp) hs
  unfold p_fir at kt kf
  refine t_fir_0 hZ ht hs ?_
  refine t_fir_5 hZ ht r1.2.1 (fun h => ?_) (fun h u => ?_)
  · rw [cif_t h] at kt
    exact t_fir_12 hZ (kt rfl _)
  · rw [cif_f h] at kf
    exact t_fir_12w hZ (fun r => kf rfl r u)
-- sit
set_option maxRecDepth 100000 in
set_option maxHeartbeats 400000 in
theorem t_sit_0 {SM : zC} {SF : Nat → zQ → zP} (hZ : zZ SM SF) {Q : zQ} {x : zXs} {as g F ks ot : Nat → Int32} {kp : Int32} {S : Nat → zSh} {mv : Nat → Int64} {tl : Nat} {tp : Nat → Int32} {r : Nat → Int32} {v : Int32} (ht : tl ≤ 120) {s : Nat} (hs : s ≤ tl) (k : SF mn_M_sitItem Q 5 [some (.ref 43)] [] (0, 0) (gh x (r, as, g, F, mq ks ot kp tp (nI tl, nI (nx tp tl s), nI (tkE tp tl (nx tp tl s)), v, 0) S mv))) : SM mn_M_sitItem [.ref 43] (gh x (r, as, g, F, mq ks ot kp tp (nI tl, nI s, nI (tkE tp tl s), v, 0) S mv)) Q := by
  refine zin hZ 5 5 rfl rfl rfl ?_
  exact t_must1 hZ ht hs k
set_option maxRecDepth 100000 in
set_option maxHeartbeats 400000 in
theorem t_sit_5 {SM : zC} {SF : Nat → zQ → zP} (hZ : zZ SM SF) {Q : zQ} {x : zXs} {as g F ks ot : Nat → Int32} {kp : Int32} {S : Nat → zSh} {mv : Nat → Int64} {tl : Nat} {tp : Nat → Int32} {σ : zS} {v : Int32} (ht : tl ≤ 120) {s : Nat} (hs : s ≤ tl) {h : Int32} (hh : σ 8 2 - 1 = h) (h9 : h.toInt ≤ 999) (kt : isn tp tl s h → SF mn_M_sitItem Q 18 [some (.ref 43)] [] (0, 0) (gh x (ec σ, as, g, F, mq ks ot kp tp (nI tl, nI (nx tp tl s), nI (tkE tp tl (nx tp tl s)), num tp tl s, 0) S mv))) (kf : ¬ isn tp tl s h → ∀ u, SF mn_M_sitItem Q 18 [some (.ref 43)] [] (0, 0) (gh x (ec σ, as, g, F, mq ks ot kp tp (nI tl, nI s, nI (tkE tp tl s), u, 1) S mv))) : SF mn_M_sitItem Q 5 [some (.ref 43)] [] (0, 0) (gh x (ec σ, as, g, F, mq ks ot kp tp (nI tl, nI s, nI (tkE tp tl s), v, 0) S mv)) := by
  have e : (ec σ 2 : Int32) - 1 = h := by rw [ec_c (by decide), hh]
  subst e
  refine zgo hZ 18 10 rfl ?_
  refine ⟨2, by decide, rfl, ?_⟩
  exact t_num hZ ht hs h9 kt kf
set_option maxRecDepth 100000 in
set_option maxHeartbeats 400000 in
theorem t_sit_18 {SM : zC} {SF : Nat → zQ → zP} (hZ : zZ SM SF) {Q : zQ} {x : zXs} {as g F ks ot : Nat → Int32} {kp : Int32} {S : Nat → zSh} {mv : Nat → Int64} {tp : Nat → Int32} {σ : zS} {a f e : Int32} {n : Nat} (hn : n < 8) (k : Q none (gh x (ec (s2 σ 2 n 1), as, g, F, mq ks ot kp tp (a, f, e, nI n, 0) S mv))) : SF mn_M_sitItem Q 18 [some (.ref 43)] [] (0, 0) (gh x (ec σ, as, g, F, mq ks ot kp tp (a, f, e, nI n, 0) S mv)) := by
  rw [← ec_ui σ hn (w := 2) (by decide)] at k
  refine zgo hZ 999 14 rfl ?_
  refine ⟨nf, fun _ => ?_⟩
  refine t_spot hZ (w := 2) ?_
  exact ⟨4 + 5 * n + 2, by omega, rfl, k⟩
set_option maxRecDepth 100000 in
set_option maxHeartbeats 400000 in
theorem t_sit_18w {SM : zC} {SF : Nat → zQ → zP} (hZ : zZ SM SF) {Q : zQ} {x : zXs} {as g F ks ot : Nat → Int32} {kp : Int32} {S : Nat → zSh} {mv : Nat → Int64} {tp : Nat → Int32} {r : Nat → Int32} {a f e v : Int32} (k : Q none (gh x (r, as, g, F, mq ks ot kp tp (a, f, e, v, 1) S mv))) : SF mn_M_sitItem Q 18 [some (.ref 43)] [] (0, 0) (gh x (r, as, g, F, mq ks ot kp tp (a, f, e, v, 1) S mv)) := by
  refine zgo hZ 999 6 rfl ?_
  exact ⟨fun _ => k, nt⟩
theorem num_nI {tp : Nat → Int32} {tl s n : Nat} (hn : n ≤ 8) {h : Int32} (hh : h = nI n - 1) (z : isn tp tl s h) : ∃ v, v < n ∧ num tp tl s = nI v ∧ ix (num tp tl s) = v := by
  obtain ⟨z1, z2⟩ := num_rng z
  rw [hh, n1_toInt hn] at z2
  obtain ⟨v, hv, e⟩ := nI_of (x := num tp tl s) (by rw [zlt, show (0 : Int32).toInt = 0 by decide]; omega)
  rw [e, nI_toInt hv] at z2
  exact ⟨v, by omega, e, by rw [e]; exact ix_nI (by omega)⟩
theorem t_sit {SM : zC} {SF : Nat → zQ → zP} (hZ : zZ SM SF) {Q : zQ} {x : zXs} {as g F ks ot : Nat → Int32} {kp : Int32} {S : Nat → zSh} {mv : Nat → Int64} {tl : Nat} {tp : Nat → Int32} {σ : zS} {v : Int32} {D : Nat} (hw : wf D σ) (ht : tl ≤ 120) {s : Nat} (hs : s ≤ tl) (kt : (p_sit tp tl σ s).1 = true → ∀ u, Q none (gh x (ec (p_sit tp tl σ s).2.1, as, g, F, mq ks ot kp tp (nI tl, nI (p_sit tp tl σ s).2.2, nI (tkE tp tl (p_sit tp tl σ s).2.2), u, 0) S mv))) (kf : (p_sit tp tl σ s).1 = false → ∀ r u, Q none (gh x (r, as, g, F, mq ks ot kp tp (nI tl, nI (p_sit tp tl σ s).2.2, nI (tkE tp tl (p_sit tp tl σ s).2.2), u, 1) S mv))) : SM mn_M_sitItem [.ref 43] (gh x (ec σ, as, g, F, mq ks ot kp tp (nI tl, nI s, nI (tkE tp tl s), v, 0) S mv)) Q := by
  have i8 := hw.2.2.2.1.2
  have i9 : (σ 8 2 - 1).toInt ≤ 999 := by rw [hw.2.2.2.1.1, n1_toInt i8]; omega
  have r1 := nx_rng (tp := tp) hs
  unfold p_sit at kt kf
  refine t_sit_0 hZ ht hs ?_
  refine t_sit_5 hZ ht r1.2.1 rfl i9 (fun h => ?_) (fun h u => ?_)
  · rw [cif_t h] at kt
    obtain ⟨n, hn1, hn2, hn3⟩ := num_nI i8 (by rw [hw.2.2.2.1.1]) h
    rw [hn3] at kt
    rw [hn2]
    exact t_sit_18 hZ (by omega) (kt rfl _)
  · rw [cif_f h] at kf
    exact t_sit_18w hZ (kf rfl _ _)
-- an item
set_option maxRecDepth 100000 in
set_option maxHeartbeats 400000 in
theorem t_item_5 {SM : zC} {SF : Nat → zQ → zP} (hZ : zZ SM SF) {Q : zQ} {x : zXs} {as g F ks ot : Nat → Int32} {kp : Int32} {S : Nat → zSh} {mv : Nat → Int64} {tl : Nat} {tp : Nat → Int32} {r : Nat → Int32} {v K : Int32} (ht : tl ≤ 120) {s : Nat} (hs : s ≤ tl) (k : SF mn_M_item Q 10 [some (.ref 43), some (.int K), some (.long (wd tp tl s)), none] [] (0, 0) (gh x (r, as, g, F, mq ks ot kp tp (nI tl, nI s, nI (tkE tp tl s), v, 0) S mv))) : SF mn_M_item Q 5 [some (.ref 43), some (.int K), none, none] [] (0, 0) (gh x (r, as, g, F, mq ks ot kp tp (nI tl, nI s, nI (tkE tp tl s), v, 0) S mv)) := by
  refine zgo hZ 10 6 rfl ?_
  exact t_word hZ ht hs k
set_option maxRecDepth 100000 in
set_option maxHeartbeats 400000 in
theorem t_item_4 {SM : zC} {SF : Nat → zQ → zP} (hZ : zZ SM SF) {Q : zQ} {x : zXs} {as g F ks ot : Nat → Int32} {kp : Int32} {S : Nat → zSh} {mv : Nat → Int64} {tl : Nat} {tp : Nat → Int32} {r : Nat → Int32} {v : Int32} (ht : tl ≤ 120) {s : Nat} (hs : s ≤ tl) (k : ∀ (Q' : zQ) , (∀ K, SF mn_M_item Q 5 [some (.ref 43), some (.int K), none, none] [] (0, 0) (gh x (r, as, g, F, mq ks ot kp tp (nI tl, nI s, nI (tkE tp tl s), v, 0) S mv)) → Q' (some (.int K)) (gh x (r, as, g, F, mq ks ot kp tp (nI tl, nI s, nI (tkE tp tl s), v, 0) S mv))) → SM mn_M_kindHere [.ref 43] (gh x (r, as, g, F, mq ks ot kp tp (nI tl, nI s, nI (tkE tp tl s), v, 0) S mv)) Q') : SM mn_M_item [.ref 43] (gh x (r, as, g, F, mq ks ot kp tp (nI tl, nI s, nI (tkE tp tl s), v, 0) S mv)) Q := by
  refine zin hZ 5 6 rfl rfl rfl ?_
  exact k _ (fun K h => h)
set_option maxRecDepth 100000 in
set_option maxHeartbeats 400000 in
theorem t_item_10i {SM : zC} {SF : Nat → zQ → zP} (hZ : zZ SM SF) {Q : zQ} {x : zXs} {as g F ks ot : Nat → Int32} {kp : Int32} {S : Nat → zSh} {mv : Nat → Int64} {tp : Nat → Int32} {r : Nat → Int32} {R : zR} {K : Int32} {W : Int64} (hK : ¬ K < 0) (k : ∀ (Q' : zQ), (∀ h', Q none h' → Q' none h') → SM mn_M_inlawItem [.ref 43, .int K] (gh x (r, as, g, F, mq ks ot kp tp (R) S mv)) Q') : SF mn_M_item Q 10 [some (.ref 43), some (.int K), some (.long W), none] [] (0, 0) (gh x (r, as, g, F, mq ks ot kp tp (R) S mv)) := by
  refine zgo hZ 999 8 rfl ?_
  refine ⟨fun z => absurd z hK, fun _ => ?_⟩
  exact k _ (fun h' q => q)
theorem t_item_10n {SM : zC} {SF : Nat → zQ → zP} (hZ : zZ SM SF) {Q : zQ} {h : zH} {W : Int64} (k : SF mn_M_item Q 22 [some (.ref 43), some (.int (-1)), some (.long W), none] [] (0, 0) h) : SF mn_M_item Q 10 [some (.ref 43), some (.int (-1)), some (.long W), none] [] (0, 0) h := by
  refine zgo hZ 22 4 rfl ?_
  exact ⟨fun _ => k, fun z => absurd (show (-1 : Int32) < 0 by decide) z⟩
set_option maxRecDepth 100000 in
set_option maxHeartbeats 400000 in
theorem t_item_22 {SM : zC} {SF : Nat → zQ → zP} (hZ : zZ SM SF) {Q : zQ} {x : zXs} {as g F ks ot : Nat → Int32} {kp : Int32} {S : Nat → zSh} {mv : Nat → Int64} {tp : Nat → Int32} {r : Nat → Int32} {R : zR} {K : Int32} {W : Int64} (k1 : W = 117096837 → ∀ (Q' : zQ), (∀ h', Q none h' → Q' none h') → SM mn_M_coupleItem [.ref 43] (gh x (r, as, g, F, mq ks ot kp tp (R) S mv)) Q') (k0 : ¬ W = 117096837 → SF mn_M_item Q 37 [some (.ref 43), some (.int K), some (.long W), none] [] (0, 0) (gh x (r, as, g, F, mq ks ot kp tp (R) S mv))) : SF mn_M_item Q 22 [some (.ref 43), some (.int K), some (.long W), none] [] (0, 0) (gh x (r, as, g, F, mq ks ot kp tp (R) S mv)) := by
  refine zgo hZ 37 10 rfl ?_
  exact ⟨fun z => k0 (fun y => z ((lcmp_eq _ _).mpr y)), fun z => k1 ((lcmp_eq _ _).mp z) _ (fun h' q => q)⟩
set_option maxRecDepth 100000 in
set_option maxHeartbeats 400000 in
theorem t_item_37 {SM : zC} {SF : Nat → zQ → zP} (hZ : zZ SM SF) {Q : zQ} {x : zXs} {as g F ks ot : Nat → Int32} {kp : Int32} {S : Nat → zSh} {mv : Nat → Int64} {tp : Nat → Int32} {r : Nat → Int32} {R : zR} {K : Int32} {W : Int64} (k1 : W = 206405 → ∀ (Q' : zQ), (∀ h', Q none h' → Q' none h') → SM mn_M_fireItem [.ref 43] (gh x (r, as, g, F, mq ks ot kp tp (R) S mv)) Q') (k0 : ¬ W = 206405 → SF mn_M_item Q 52 [some (.ref 43), some (.int K), some (.long W), none] [] (0, 0) (gh x (r, as, g, F, mq ks ot kp tp (R) S mv))) : SF mn_M_item Q 37 [some (.ref 43), some (.int K), some (.long W), none] [] (0, 0) (gh x (r, as, g, F, mq ks ot kp tp (R) S mv)) := by
  refine zgo hZ 52 10 rfl ?_
  exact ⟨fun z => k0 (fun y => z ((lcmp_eq _ _).mpr y)), fun z => k1 ((lcmp_eq _ _).mp z) _ (fun h' q => q)⟩
set_option maxRecDepth 100000 in
set_option maxHeartbeats 400000 in
theorem t_item_52 {SM : zC} {SF : Nat → zQ → zP} (hZ : zZ SM SF) {Q : zQ} {x : zXs} {as g F ks ot : Nat → Int32} {kp : Int32} {S : Nat → zSh} {mv : Nat → Int64} {tp : Nat → Int32} {r : Nat → Int32} {R : zR} {K : Int32} {W : Int64} (k1 : W = 19764 → ∀ (Q' : zQ), (∀ h', Q none h' → Q' none h') → SM mn_M_sitItem [.ref 43] (gh x (r, as, g, F, mq ks ot kp tp (R) S mv)) Q') (k0 : ¬ W = 19764 → SF mn_M_item Q 67 [some (.ref 43), some (.int K), some (.long W), none] [] (0, 0) (gh x (r, as, g, F, mq ks ot kp tp (R) S mv))) : SF mn_M_item Q 52 [some (.ref 43), some (.int K), some (.long W), none] [] (0, 0) (gh x (r, as, g, F, mq ks ot kp tp (R) S mv)) := by
  refine zgo hZ 67 10 rfl ?_
  exact ⟨fun z => k0 (fun y => z ((lcmp_eq _ _).mpr y)), fun z => k1 ((lcmp_eq _ _).mp z) _ (fun h' q => q)⟩
set_option maxRecDepth 100000 in
set_option maxHeartbeats 400000 in
theorem t_item_67 {SM : zC} {SF : Nat → zQ → zP} (hZ : zZ SM SF) {Q : zQ} {x : zXs} {as g F ks ot : Nat → Int32} {kp : Int32} {S : Nat → zSh} {mv : Nat → Int64} {tp : Nat → Int32} {r : Nat → Int32} {a f e v : Int32} {L : zL} (k : Q none (gh x (r, as, g, F, mq ks ot kp tp (a, f, e, v, 1) S mv))) : SF mn_M_item Q 67 (some (.ref 43) :: L) [] (0, 0) (gh x (r, as, g, F, mq ks ot kp tp (a, f, e, v, 0) S mv)) := by
  refine zgo hZ 999 6 rfl ?_
  exact t_must0 hZ k
theorem t_item {SM : zC} {SF : Nat → zQ → zP} (hZ : zZ SM SF) {Q : zQ} {x : zXs} {as g F ks ot : Nat → Int32} {kp : Int32} {S : Nat → zSh} {mv : Nat → Int64} {tl : Nat} {tp : Nat → Int32} {σ : zS} {v : Int32} {D : Nat} (hw : wf D σ) (ht : tl ≤ 120) {s : Nat} (hs : s ≤ tl) (kt : (p_item tp tl σ s).1 = true → ∀ u, Q none (gh x (ec (p_item tp tl σ s).2.1, as, g, F, mq ks ot kp tp (nI tl, nI (p_item tp tl σ s).2.2, nI (tkE tp tl (p_item tp tl σ s).2.2), u, 0) S mv))) (kf : (p_item tp tl σ s).1 = false → ∀ r u, Q none (gh x (r, as, g, F, mq ks ot kp tp (nI tl, nI (p_item tp tl σ s).2.2, nI (tkE tp tl (p_item tp tl σ s).2.2), u, 1) S mv))) : SM mn_M_item [.ref 43] (gh x (ec σ, as, g, F, mq ks ot kp tp (nI tl, nI s, nI (tkE tp tl s), v, 0) S mv)) Q := by
  unfold p_item at kt kf
  refine t_item_4 hZ ht hs (fun Q' hQ' => ?_)
  refine t_kind_0 hZ ht hs ?_
  refine t_kind_4 hZ (fun h => ?_) (fun h => ?_) (fun h => ?_) (fun h => ?_) (fun h => ?_) (fun h => ?_) (fun n0 n1 n2 n3 n4 n5 => ?_)
  · rw [cif_t ((wd_0 hs).mp h)] at kt kf
    refine hQ' _ (t_item_5 hZ ht hs (t_item_10i hZ (by decide) (fun Q2 hQ2 => ?_)))
    exact t_inl hZ hw ht hs (fun z u => hQ2 _ (kt z u)) (fun z r u => hQ2 _ (kf z r u))
  · have n0 : ¬ isw tp tl s (zm_tx.getD 0 []) := fun z => absurd (((wd_0 hs).mpr z).symm.trans h) (by decide)
    rw [cif_f n0, cif_t ((wd_1 hs).mp h)] at kt kf
    refine hQ' _ (t_item_5 hZ ht hs (t_item_10i hZ (by decide) (fun Q2 hQ2 => ?_)))
    exact t_inl hZ hw ht hs (fun z u => hQ2 _ (kt z u)) (fun z r u => hQ2 _ (kf z r u))
  · have n0 : ¬ isw tp tl s (zm_tx.getD 0 []) := fun z => absurd (((wd_0 hs).mpr z).symm.trans h) (by decide)
    have n1 : ¬ isw tp tl s (zm_tx.getD 1 []) := fun z => absurd (((wd_1 hs).mpr z).symm.trans h) (by decide)
    rw [cif_f n0, cif_f n1, cif_t ((wd_2 hs).mp h)] at kt kf
    refine hQ' _ (t_item_5 hZ ht hs (t_item_10i hZ (by decide) (fun Q2 hQ2 => ?_)))
    exact t_inl hZ hw ht hs (fun z u => hQ2 _ (kt z u)) (fun z r u => hQ2 _ (kf z r u))
  · have n0 : ¬ isw tp tl s (zm_tx.getD 0 []) := fun z => absurd (((wd_0 hs).mpr z).symm.trans h) (by decide)
    have n1 : ¬ isw tp tl s (zm_tx.getD 1 []) := fun z => absurd (((wd_1 hs).mpr z).symm.trans h) (by decide)
    have n2 : ¬ isw tp tl s (zm_tx.getD 2 []) := fun z => absurd (((wd_2 hs).mpr z).symm.trans h) (by decide)
    rw [cif_f n0, cif_f n1, cif_f n2, cif_t ((wd_3 hs).mp h)] at kt kf
    refine hQ' _ (t_item_5 hZ ht hs (t_item_10i hZ (by decide) (fun Q2 hQ2 => ?_)))
    exact t_inl hZ hw ht hs (fun z u => hQ2 _ (kt z u)) (fun z r u => hQ2 _ (kf z r u))
  · have n0 : ¬ isw tp tl s (zm_tx.getD 0 []) := fun z => absurd (((wd_0 hs).mpr z).symm.trans h) (by decide)
    have n1 : ¬ isw tp tl s (zm_tx.getD 1 []) := fun z => absurd (((wd_1 hs).mpr z).symm.trans h) (by decide)
    have n2 : ¬ isw tp tl s (zm_tx.getD 2 []) := fun z => absurd (((wd_2 hs).mpr z).symm.trans h) (by decide)
    have n3 : ¬ isw tp tl s (zm_tx.getD 3 []) := fun z => absurd (((wd_3 hs).mpr z).symm.trans h) (by decide)
    rw [cif_f n0, cif_f n1, cif_f n2, cif_f n3, cif_t ((wd_4 hs).mp h)] at kt kf
    refine hQ' _ (t_item_5 hZ ht hs (t_item_10i hZ (by decide) (fun Q2 hQ2 => ?_)))
    exact t_inl hZ hw ht hs (fun z u => hQ2 _ (kt z u)) (fun z r u => hQ2 _ (kf z r u))
  · have n0 : ¬ isw tp tl s (zm_tx.getD 0 []) := fun z => absurd (((wd_0 hs).mpr z).symm.trans h) (by decide)
    have n1 : ¬ isw tp tl s (zm_tx.getD 1 []) := fun z => absurd (((wd_1 hs).mpr z).symm.trans h) (by decide)
    have n2 : ¬ isw tp tl s (zm_tx.getD 2 []) := fun z => absurd (((wd_2 hs).mpr z).symm.trans h) (by decide)
    have n3 : ¬ isw tp tl s (zm_tx.getD 3 []) := fun z => absurd (((wd_3 hs).mpr z).symm.trans h) (by decide)
    have n4 : ¬ isw tp tl s (zm_tx.getD 4 []) := fun z => absurd (((wd_4 hs).mpr z).symm.trans h) (by decide)
    rw [cif_f n0, cif_f n1, cif_f n2, cif_f n3, cif_f n4, cif_t ((wd_5 hs).mp h)] at kt kf
    refine hQ' _ (t_item_5 hZ ht hs (t_item_10i hZ (by decide) (fun Q2 hQ2 => ?_)))
    exact t_inl hZ hw ht hs (fun z u => hQ2 _ (kt z u)) (fun z r u => hQ2 _ (kf z r u))
  · rw [cif_f (fun z => n0 ((wd_0 hs).mpr z)), cif_f (fun z => n1 ((wd_1 hs).mpr z)), cif_f (fun z => n2 ((wd_2 hs).mpr z)), cif_f (fun z => n3 ((wd_3 hs).mpr z)), cif_f (fun z => n4 ((wd_4 hs).mpr z)), cif_f (fun z => n5 ((wd_5 hs).mpr z))] at kt kf
    refine hQ' _ (t_item_5 hZ ht hs (t_item_10n hZ ?_))
    refine t_item_22 hZ (fun h Q2 hQ2 => ?_) (fun n6 => ?_)
    · rw [cif_t ((wd_6 hs).mp h)] at kt kf
      exact t_cpl hZ hw ht hs (fun z u => hQ2 _ (kt z u)) (fun z r u => hQ2 _ (kf z r u))
    rw [cif_f (fun z => n6 ((wd_6 hs).mpr z))] at kt kf
    refine t_item_37 hZ (fun h Q2 hQ2 => ?_) (fun n7 => ?_)
    · rw [cif_t ((wd_7 hs).mp h)] at kt kf
      exact t_fir hZ ht hs (fun z u => hQ2 _ (kt z u)) (fun z r u => hQ2 _ (kf z r u))
    rw [cif_f (fun z => n7 ((wd_7 hs).mpr z))] at kt kf
    refine t_item_52 hZ (fun h Q2 hQ2 => ?_) (fun n8 => ?_)
    · rw [cif_t ((wd_8 hs).mp h)] at kt kf
      exact t_sit hZ hw ht hs (fun z u => hQ2 _ (kt z u)) (fun z r u => hQ2 _ (kf z r u))
    rw [cif_f (fun z => n8 ((wd_8 hs).mpr z))] at kf
    exact t_item_67 hZ (kf rfl _ _)
