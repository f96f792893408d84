/-! THE TEXT: what an item does; the reference's items -/
noncomputable def cif {α : Type} (P : Prop) (a b : α) : α := @ite α P (Classical.propDecidable P) a b
theorem cif_t {α : Type} {P : Prop} {a b : α} (h : P) : cif P a b = a := by unfold cif; rw [if_pos h]
theorem cif_f {α : Type} {P : Prop} {a b : α} (h : ¬ P) : cif P a b = b := by unfold cif; rw [if_neg h]
/-- could it be read; the institute then; the token in hand -/
abbrev zPr : Type := Bool × zS × Nat
noncomputable def p_sat (tp : Nat → Int32) (tl : Nat) (σ : zS) (n s : Nat) : zPr := cif (isw tp tl s (zm_tx.getD 10 [])) (true, s2 σ 2 n 1, nx tp tl s) (true, σ, s)
noncomputable def p_inl (tp : Nat → Int32) (tl : Nat) (σ : zS) (kd : Int32) (s : Nat) : zPr :=
  if nn σ = 8 then (false, σ, s) else
  cif (isw tp tl (nx tp tl s) (zm_tx.getD 9 []))
    (cif (isn tp tl (nx tp tl (nx tp tl s)) 99) (p_sat tp tl (s2 (addI σ kd) 1 (nn σ) (num tp tl (nx tp tl (nx tp tl s)))) (nn σ) (nx tp tl (nx tp tl (nx tp tl s)))) (false, σ, nx tp tl (nx tp tl s)))
    (p_sat tp tl (addI σ kd) (nn σ) (nx tp tl s))
noncomputable def p_cpl (tp : Nat → Int32) (tl : Nat) (σ : zS) (s : Nat) : zPr :=
  if nc σ = 8 then (false, σ, s) else
  cif (isn tp tl (nx tp tl s) 9)
    (cif (isw tp tl (nx tp tl (nx tp tl s)) (zm_tx.getD 11 []))
      (cif (isn tp tl (nx tp tl (nx tp tl (nx tp tl s))) (σ 8 2 - 1)) (true, s2 (addC σ (num tp tl (nx tp tl s))) 7 (nc σ) (num tp tl (nx tp tl (nx tp tl (nx tp tl s)))), nx tp tl (nx tp tl (nx tp tl (nx tp tl s)))) (false, σ, nx tp tl (nx tp tl (nx tp tl s))))
      (true, addC σ (num tp tl (nx tp tl s)), nx tp tl (nx tp tl s)))
    (false, σ, nx tp tl s)
noncomputable def p_fir (tp : Nat → Int32) (tl : Nat) (σ : zS) (s : Nat) : zPr :=
  cif (isn tp tl (nx tp tl s) 20) (true, s2 σ 8 1 (num tp tl (nx tp tl s)), nx tp tl (nx tp tl s)) (false, σ, nx tp tl s)
noncomputable def p_sit (tp : Nat → Int32) (tl : Nat) (σ : zS) (s : Nat) : zPr :=
  cif (isn tp tl (nx tp tl s) (σ 8 2 - 1)) (true, s2 σ 2 (ix (num tp tl (nx tp tl s))) 1, nx tp tl (nx tp tl s)) (false, σ, nx tp tl s)
noncomputable def p_item (tp : Nat → Int32) (tl : Nat) (σ : zS) (s : Nat) : zPr :=
  cif (isw tp tl s (zm_tx.getD 0 [])) (p_inl tp tl σ 0 s) (cif (isw tp tl s (zm_tx.getD 1 [])) (p_inl tp tl σ 1 s) (cif (isw tp tl s (zm_tx.getD 2 [])) (p_inl tp tl σ 2 s)
  (cif (isw tp tl s (zm_tx.getD 3 [])) (p_inl tp tl σ 3 s) (cif (isw tp tl s (zm_tx.getD 4 [])) (p_inl tp tl σ 4 s) (cif (isw tp tl s (zm_tx.getD 5 [])) (p_inl tp tl σ 5 s)
  (cif (isw tp tl s (zm_tx.getD 6 [])) (p_cpl tp tl σ s) (cif (isw tp tl s (zm_tx.getD 7 [])) (p_fir tp tl σ s) (cif (isw tp tl s (zm_tx.getD 8 [])) (p_sit tp tl σ s) (false, σ, s)))))))))
theorem n1_toInt {n : Nat} (h : n ≤ 8) : (nI n - 1).toInt = (n : Int) - 1 := by
  have e1 : (1 : Int32).toInt = 1 := by decide
  rw [zsub (by rw [nI_toInt (by omega), e1]; omega) (by rw [nI_toInt (by omega), e1]; omega), nI_toInt (by omega), e1]
-- small steps: must, and a word
theorem t_kind_4 {SM : zC} {SF : Nat → zQ → zP} (hZ : zZ SM SF) {Q : zQ} {h : zH} {W : Int64} (k0 : W = 9908279 → Q (some (.int 0)) h) (k1 : W = 452599986 → Q (some (.int 1)) h) (k2 : W = 203038898 → Q (some (.int 2)) h) (k3 : W = 22482309 → Q (some (.int 3)) h) (k4 : W = 672747570 → Q (some (.int 4)) h) (k5 : W = 2556021938 → Q (some (.int 5)) h)
    (kn : ¬ W = 9908279 → ¬ W = 452599986 → ¬ W = 203038898 → ¬ W = 22482309 → ¬ W = 672747570 → ¬ W = 2556021938 → Q (some (.int (-1))) h) : SF mn_M_kindHere Q 4 [some (.ref 43), none, none] [.long W] (0, 0) h := by
  refine zgo hZ 999 40 rfl ?_
  refine ⟨fun h0 => ⟨fun h1 => ⟨fun h2 => ⟨fun h3 => ⟨fun h4 => ⟨fun h5 => ?_, fun h5 => ?_⟩, fun h4 => ?_⟩, fun h3 => ?_⟩, fun h2 => ?_⟩, fun h1 => ?_⟩, fun h0 => ?_⟩
  · exact kn (fun z => h0 ((lcmp_eq _ _).mpr z)) (fun z => h1 ((lcmp_eq _ _).mpr z)) (fun z => h2 ((lcmp_eq _ _).mpr z)) (fun z => h3 ((lcmp_eq _ _).mpr z)) (fun z => h4 ((lcmp_eq _ _).mpr z)) (fun z => h5 ((lcmp_eq _ _).mpr z))
  · exact k5 ((lcmp_eq _ _).mp h5)
  · exact k4 ((lcmp_eq _ _).mp h4)
  · exact k3 ((lcmp_eq _ _).mp h3)
  · exact k2 ((lcmp_eq _ _).mp h2)
  · exact k1 ((lcmp_eq _ _).mp h1)
  · exact k0 ((lcmp_eq _ _).mp h0)
set_option maxRecDepth 100000 in
set_option maxHeartbeats 400000 in
theorem t_kind_0 {SM : zC} {SF : Nat → zQ → zP} (hZ : zZ SM SF) {Q : zQ} {x : zXs} {as g F ks ot : Nat → Int32} {kp : Int32} {S : Nat → zSh} {mv : Nat → Int64} {tl : Nat} {tp : Nat → Int32} {r : Nat → Int32} {v : Int32} (ht : tl ≤ 120) {s : Nat} (hs : s ≤ tl) (k : SF mn_M_kindHere Q 4 [some (.ref 43), none, none] [.long (wd tp tl s)] (0, 0) (gh x (r, as, g, F, mq ks ot kp tp (nI tl, nI s, nI (tkE tp tl s), v, 0) S mv))) : SM mn_M_kindHere [.ref 43] (gh x (r, as, g, F, mq ks ot kp tp (nI tl, nI s, nI (tkE tp tl s), v, 0) S mv)) Q := by
  refine zin hZ 4 4 rfl rfl rfl ?_
  exact t_word hZ ht hs k
-- an in-law
set_option maxRecDepth 100000 in
set_option maxHeartbeats 400000 in
theorem t_inl_0 {SM : zC} {SF : Nat → zQ → zP} (hZ : zZ SM SF) {Q : zQ} {x : zXs} {as g F ks ot : Nat → Int32} {kp : Int32} {S : Nat → zSh} {mv : Nat → Int64} {tl : Nat} {tp : Nat → Int32} {σ : zS} {v kd : Int32} (ht : tl ≤ 120) {s : Nat} (hs : s ≤ tl) {n : Nat} (hn : σ 8 2 = nI n) (h8 : n < 8) (k : SF mn_M_inlawItem Q 20 [some (.ref 43), some (.int kd), none] [] (0, 0) (gh x (ec σ, as, g, F, mq ks ot kp tp (nI tl, nI (nx tp tl s), nI (tkE tp tl (nx tp tl s)), v, 0) S mv))) : SM mn_M_inlawItem [.ref 43, .int kd] (gh x (ec σ, as, g, F, mq ks ot kp tp (nI tl, nI s, nI (tkE tp tl s), v, 0) S mv)) Q := by
  have e : (ec σ 2 : Int32) = nI n := by rw [ec_c (by decide), hn]
  refine zin hZ 20 12 rfl rfl rfl ?_
  refine ⟨2, by decide, rfl, fun h => ?_, fun _ => ?_⟩
  · have := (ile (a := 8) (m := 8) rfl e (by omega) (by omega)).mp h
    omega
  · exact t_must1 hZ ht hs k
set_option maxRecDepth 100000 in
set_option maxHeartbeats 400000 in
theorem t_inl_0f {SM : zC} {SF : Nat → zQ → zP} (hZ : zZ SM SF) {Q : zQ} {x : zXs} {as g F ks ot : Nat → Int32} {kp : Int32} {S : Nat → zSh} {mv : Nat → Int64} {tp : Nat → Int32} {σ : zS} {a f e' v kd : Int32} {n : Nat} (hn : σ 8 2 = nI n) (h8 : n = 8) (k : Q none (gh x (ec σ, as, g, F, mq ks ot kp tp (a, f, e', v, 1) S mv))) : SM mn_M_inlawItem [.ref 43, .int kd] (gh x (ec σ, as, g, F, mq ks ot kp tp (a, f, e', v, 0) S mv)) Q := by
  have e : (ec σ 2 : Int32) = nI n := by rw [ec_c (by decide), hn]
  refine zin hZ 999 16 rfl rfl rfl ?_
  refine ⟨2, by decide, rfl, fun _ => ?_, fun h => absurd ((ile (a := 8) (m := 8) rfl e (by omega) (by omega)).mpr (by omega)) h⟩
  refine t_must0 hZ ?_
  exact ⟨nt, fun _ => k⟩
set_option maxRecDepth 100000 in
set_option maxHeartbeats 400000 in
theorem t_inl_20 {SM : zC} {SF : Nat → zQ → zP} (hZ : zZ SM SF) {Q : zQ} {x : zXs} {as g F ks ot : Nat → Int32} {kp : Int32} {S : Nat → zSh} {mv : Nat → Int64} {tp : Nat → Int32} {σ : zS} {a f e' v kd : Int32} (hn : σ 8 2 = nI (nn σ)) (h8 : nn σ < 8) (k : SF mn_M_inlawItem Q 34 [some (.ref 43), some (.int kd), some (.int (nI (nn σ)))] [] (0, 0) (gh x (ec (addI σ kd), as, g, F, mq ks ot kp tp (a, f, e', v, 0) S mv))) : SF mn_M_inlawItem Q 20 [some (.ref 43), some (.int kd), none] [] (0, 0) (gh x (ec σ, as, g, F, mq ks ot kp tp (a, f, e', v, 0) S mv)) := by
  refine zgo hZ 34 10 rfl ?_
  refine ⟨fun _ => ?_, nf⟩
  exact t_addsInlaw hZ hn h8 k
set_option maxRecDepth 100000 in
set_option maxHeartbeats 400000 in
theorem t_inl_34 {SM : zC} {SF : Nat → zQ → zP} (hZ : zZ SM SF) {Q : zQ} {x : zXs} {as g F ks ot : Nat → Int32} {kp : Int32} {S : Nat → zSh} {mv : Nat → Int64} {tl : Nat} {tp : Nat → Int32} {r : Nat → Int32} {v : Int32} (ht : tl ≤ 120) {s : Nat} (hs : s ≤ tl) {o1 o2 : Option Value} (k1 : isw tp tl s (zm_tx.getD 9 []) → SF mn_M_inlawItem Q 45 [some (.ref 43), o1, o2] [] (0, 0) (gh x (r, as, g, F, mq ks ot kp tp (nI tl, nI s, nI (tkE tp tl s), v, 0) S mv))) (k0 : ¬ isw tp tl s (zm_tx.getD 9 []) → SF mn_M_inlawItem Q 71 [some (.ref 43), o1, o2] [] (0, 0) (gh x (r, as, g, F, mq ks ot kp tp (nI tl, nI s, nI (tkE tp tl s), v, 0) S mv))) : SF mn_M_inlawItem Q 34 [some (.ref 43), o1, o2] [] (0, 0) (gh x (r, as, g, F, mq ks ot kp tp (nI tl, nI s, nI (tkE tp tl s), v, 0) S mv)) := by
  have key : SF mn_M_inlawItem Q 38 [some (.ref 43), o1, o2] [.long (wd tp tl s)] (0, 0) (gh x (r, as, g, F, mq ks ot kp tp (nI tl, nI s, nI (tkE tp tl s), v, 0) S mv)) := by
    rw [← wd_9 hs] at k1 k0
    by_cases h : wd tp tl s = 755277
    · have k2 := k1 h
      refine zgo hZ 45 4 rfl ?_
      exact ⟨fun z => absurd ((lcmp_eq _ _).mpr h) z, fun _ => k2⟩
    · have k2 := k0 h
      refine zgo hZ 71 4 rfl ?_
      exact ⟨fun _ => k2, fun z => absurd ((lcmp_eq _ _).mp z) h⟩
  refine zgo hZ 38 4 rfl ?_
  exact t_word hZ ht hs key
set_option maxRecDepth 100000 in
set_option maxHeartbeats 400000 in
theorem t_inl_45 {SM : zC} {SF : Nat → zQ → zP} (hZ : zZ SM SF) {Q : zQ} {x : zXs} {as g F ks ot : Nat → Int32} {kp : Int32} {S : Nat → zSh} {mv : Nat → Int64} {tl : Nat} {tp : Nat → Int32} {r : Nat → Int32} {v : Int32} (ht : tl ≤ 120) {s : Nat} (hs : s ≤ tl) {o1 o2 : Option Value} (k : SF mn_M_inlawItem Q 50 [some (.ref 43), o1, o2] [] (0, 0) (gh x (r, as, g, F, mq ks ot kp tp (nI tl, nI (nx tp tl s), nI (tkE tp tl (nx tp tl s)), v, 0) S mv))) : SF mn_M_inlawItem Q 45 [some (.ref 43), o1, o2] [] (0, 0) (gh x (r, as, g, F, mq ks ot kp tp (nI tl, nI s, nI (tkE tp tl s), v, 0) S mv)) := by
  refine zgo hZ 50 5 rfl ?_
  exact t_must1 hZ ht hs k
set_option maxRecDepth 100000 in
set_option maxHeartbeats 400000 in
theorem t_inl_50 {SM : zC} {SF : Nat → zQ → zP} (hZ : zZ SM SF) {Q : zQ} {x : zXs} {as g F ks ot : Nat → Int32} {kp : Int32} {S : Nat → zSh} {mv : Nat → Int64} {tl : Nat} {tp : Nat → Int32} {r : Nat → Int32} {v : Int32} (ht : tl ≤ 120) {s : Nat} (hs : s ≤ tl) {o1 o2 : Option Value} (kt : isn tp tl s 99 → SF mn_M_inlawItem Q 57 [some (.ref 43), o1, o2] [] (0, 0) (gh x (r, as, g, F, mq ks ot kp tp (nI tl, nI (nx tp tl s), nI (tkE tp tl (nx tp tl s)), num tp tl s, 0) S mv))) (kf : ¬ isn tp tl s 99 → ∀ u, SF mn_M_inlawItem Q 57 [some (.ref 43), o1, o2] [] (0, 0) (gh x (r, as, g, F, mq ks ot kp tp (nI tl, nI s, nI (tkE tp tl s), u, 1) S mv))) : SF mn_M_inlawItem Q 50 [some (.ref 43), o1, o2] [] (0, 0) (gh x (r, as, g, F, mq ks ot kp tp (nI tl, nI s, nI (tkE tp tl s), v, 0) S mv)) := by
  refine zgo hZ 57 5 rfl ?_
  exact t_num hZ ht hs (by decide) kt kf
set_option maxRecDepth 100000 in
set_option maxHeartbeats 400000 in
theorem t_inl_57 {SM : zC} {SF : Nat → zQ → zP} (hZ : zZ SM SF) {Q : zQ} {x : zXs} {as g F ks ot : Nat → Int32} {kp : Int32} {S : Nat → zSh} {mv : Nat → Int64} {tp : Nat → Int32} {r : Nat → Int32} {a f e v w : Int32} {n : Nat} (hn : n < 8) {o1 : Option Value} (k : SF mn_M_inlawItem Q 71 [some (.ref 43), o1, some (.int (nI n))] [] (0, 0) (gh x (upd r (4 + 5 * n + 1) v, as, g, F, mq ks ot kp tp (a, f, e, v, w) S mv))) : SF mn_M_inlawItem Q 57 [some (.ref 43), o1, some (.int (nI n))] [] (0, 0) (gh x (r, as, g, F, mq ks ot kp tp (a, f, e, v, w) S mv)) := by
  refine zgo hZ 71 10 rfl ?_
  refine t_spot hZ (w := 1) ?_
  exact ⟨4 + 5 * n + 1, by omega, rfl, k⟩
set_option maxRecDepth 100000 in
set_option maxHeartbeats 400000 in
theorem t_inl_71 {SM : zC} {SF : Nat → zQ → zP} (hZ : zZ SM SF) {Q : zQ} {x : zXs} {as g F ks ot : Nat → Int32} {kp : Int32} {S : Nat → zSh} {mv : Nat → Int64} {tl : Nat} {tp : Nat → Int32} {r : Nat → Int32} {v : Int32} (ht : tl ≤ 120) {s : Nat} (hs : s ≤ tl) {o1 o2 : Option Value} (k1 : isw tp tl s (zm_tx.getD 10 []) → SF mn_M_inlawItem Q 82 [some (.ref 43), o1, o2] [] (0, 0) (gh x (r, as, g, F, mq ks ot kp tp (nI tl, nI s, nI (tkE tp tl s), v, 0) S mv))) (k0 : ¬ isw tp tl s (zm_tx.getD 10 []) → Q none (gh x (r, as, g, F, mq ks ot kp tp (nI tl, nI s, nI (tkE tp tl s), v, 0) S mv))) : SF mn_M_inlawItem Q 71 [some (.ref 43), o1, o2] [] (0, 0) (gh x (r, as, g, F, mq ks ot kp tp (nI tl, nI s, nI (tkE tp tl s), v, 0) S mv)) := by
  have key : SF mn_M_inlawItem Q 75 [some (.ref 43), o1, o2] [.long (wd tp tl s)] (0, 0) (gh x (r, as, g, F, mq ks ot kp tp (nI tl, nI s, nI (tkE tp tl s), v, 0) S mv)) := by
    rw [← wd_10 hs] at k1 k0
    by_cases h : wd tp tl s = 19508
    · have k2 := k1 h
      refine zgo hZ 82 4 rfl ?_
      exact ⟨fun z => absurd ((lcmp_eq _ _).mpr h) z, fun _ => k2⟩
    · have k2 := k0 h
      refine zgo hZ 999 5 rfl ?_
      exact ⟨fun _ => k2, fun z => absurd ((lcmp_eq _ _).mp z) h⟩
  refine zgo hZ 75 4 rfl ?_
  exact t_word hZ ht hs key
set_option maxRecDepth 100000 in
set_option maxHeartbeats 400000 in
theorem t_inl_71w {SM : zC} {SF : Nat → zQ → zP} (hZ : zZ SM SF) {Q : zQ} {x : zXs} {as g F ks ot : Nat → Int32} {kp : Int32} {S : Nat → zSh} {mv : Nat → Int64} {tl : Nat} {tp : Nat → Int32} {r : Nat → Int32} {v : Int32} (ht : tl ≤ 120) {s : Nat} (hs : s ≤ tl) {o1 o2 : Option Value} (k : Q none (gh x (r, as, g, F, mq ks ot kp tp (nI tl, nI s, nI (tkE tp tl s), v, 1) S mv))) : SF mn_M_inlawItem Q 71 [some (.ref 43), o1, o2] [] (0, 0) (gh x (r, as, g, F, mq ks ot kp tp (nI tl, nI s, nI (tkE tp tl s), v, 1) S mv)) := by
  refine zgo hZ 999 8 rfl ?_
  refine t_wordw hZ ht hs ?_
  exact ⟨fun _ => k, fun z => absurd ((lcmp_eq _ _).mp z) (by decide)⟩
set_option maxRecDepth 100000 in
set_option maxHeartbeats 400000 in
theorem t_inl_82 {SM : zC} {SF : Nat → zQ → zP} (hZ : zZ SM SF) {Q : zQ} {x : zXs} {as g F ks ot : Nat → Int32} {kp : Int32} {S : Nat → zSh} {mv : Nat → Int64} {tl : Nat} {tp : Nat → Int32} {r : Nat → Int32} {v : Int32} (ht : tl ≤ 120) {s : Nat} (hs : s ≤ tl) {n : Nat} (hn : n < 8) {o1 : Option Value} (k : Q none (gh x (upd r (4 + 5 * n + 2) 1, as, g, F, mq ks ot kp tp (nI tl, nI (nx tp tl s), nI (tkE tp tl (nx tp tl s)), v, 0) S mv))) : SF mn_M_inlawItem Q 82 [some (.ref 43), o1, some (.int (nI n))] [] (0, 0) (gh x (r, as, g, F, mq ks ot kp tp (nI tl, nI s, nI (tkE tp tl s), v, 0) S mv)) := by
  have key : SF mn_M_inlawItem Q 87 [some (.ref 43), o1, some (.int (nI n))] [] (0, 0) (gh x (r, as, g, F, mq ks ot kp tp (nI tl, nI (nx tp tl s), nI (tkE tp tl (nx tp tl s)), v, 0) S mv)) := by
    refine zgo hZ 999 10 rfl ?_
    refine t_spot hZ (w := 2) ?_
    exact ⟨4 + 5 * n + 2, by omega, rfl, k⟩
  refine zgo hZ 87 5 rfl ?_
  exact t_must1 hZ ht hs key
/-- the rest of an in-law: is it sat on -/
theorem t_inl_s {SM : zC} {SF : Nat → zQ → zP} (hZ : zZ SM SF) {Q : zQ} {x : zXs} {as g F ks ot : Nat → Int32} {kp : Int32} {S : Nat → zSh} {mv : Nat → Int64} {tl : Nat} {tp : Nat → Int32} {σ : zS} {v : Int32} (ht : tl ≤ 120) {s n : Nat} (hs : s ≤ tl) (hn : n < 8) {o1 : Option Value} (k : ∀ u, Q none (gh x (ec (p_sat tp tl σ n s).2.1, as, g, F, mq ks ot kp tp (nI tl, nI (p_sat tp tl σ n s).2.2, nI (tkE tp tl (p_sat tp tl σ n s).2.2), u, 0) S mv))) : SF mn_M_inlawItem Q 71 [some (.ref 43), o1, some (.int (nI n))] [] (0, 0) (gh x (ec σ, as, g, F, mq ks ot kp tp (nI tl, nI s, nI (tkE tp tl s), v, 0) S mv)) := by
  unfold p_sat at k
  refine t_inl_71 hZ ht hs (fun h => ?_) (fun h => ?_)
  · rw [cif_t h] at k
    refine t_inl_82 hZ ht hs hn ?_
    rw [ec_ui σ hn (w := 2) (by decide)]
    exact k _
  · rw [cif_f h] at k
    exact k _
theorem p_sat_t (tp : Nat → Int32) (tl : Nat) (σ : zS) (n s : Nat) : (p_sat tp tl σ n s).1 = true := by
  unfold p_sat
  by_cases h : isw tp tl s (zm_tx.getD 10 [])
  · rw [cif_t h]
  · rw [cif_f h]
theorem t_inl {SM : zC} {SF : Nat → zQ → zP} (hZ : zZ SM SF) {Q : zQ} {x : zXs} {as g F ks ot : Nat → Int32} {kp : Int32} {S : Nat → zSh} {mv : Nat → Int64} {tl : Nat} {tp : Nat → Int32} {σ : zS} {v kd : Int32} {D : Nat} (hw : wf D σ) (ht : tl ≤ 120) {s : Nat} (hs : s ≤ tl) (kt : (p_inl tp tl σ kd s).1 = true → ∀ u, Q none (gh x (ec (p_inl tp tl σ kd s).2.1, as, g, F, mq ks ot kp tp (nI tl, nI (p_inl tp tl σ kd s).2.2, nI (tkE tp tl (p_inl tp tl σ kd s).2.2), u, 0) S mv))) (kf : (p_inl tp tl σ kd s).1 = false → ∀ r u, Q none (gh x (r, as, g, F, mq ks ot kp tp (nI tl, nI (p_inl tp tl σ kd s).2.2, nI (tkE tp tl (p_inl tp tl σ kd s).2.2), u, 1) S mv))) : SM mn_M_inlawItem [.ref 43, .int kd] (gh x (ec σ, as, g, F, mq ks ot kp tp (nI tl, nI s, nI (tkE tp tl s), v, 0) S mv)) Q := by
  have hn := hw.2.2.2.1.1
  have h8 := hw.2.2.2.1.2
  have r1 := nx_rng (tp := tp) hs
  have r2 := nx_rng (tp := tp) r1.2.1
  have r3 := nx_rng (tp := tp) r2.2.1
  unfold p_inl at kt kf
  by_cases h : nn σ = 8
  · rw [if_pos h] at kf
    exact t_inl_0f hZ hn h (kf rfl _ _)
  · have hn8 : nn σ < 8 := by omega
    rw [if_neg h] at kt kf
    refine t_inl_0 hZ ht hs hn hn8 ?_
    refine t_inl_20 hZ hn hn8 ?_
    refine t_inl_34 hZ ht r1.2.1 (fun h1 => ?_) (fun h1 => ?_)
    · rw [cif_t h1] at kt kf
      refine t_inl_45 hZ ht r1.2.1 ?_
      refine t_inl_50 hZ ht r2.2.1 (fun h2 => ?_) (fun h2 u => ?_)
      · rw [cif_t h2] at kt
        refine t_inl_57 hZ hn8 ?_
        rw [ec_ui (addI σ kd) hn8 (w := 1) (by decide)]
        exact t_inl_s hZ ht r3.2.1 hn8 (kt (p_sat_t _ _ _ _ _))
      · rw [cif_f h2] at kf
        refine t_inl_57 hZ hn8 ?_
        exact t_inl_71w hZ ht r2.2.1 (kf rfl _ _)
    · rw [cif_f h1] at kt
      exact t_inl_s hZ ht r1.2.1 hn8 (kt (p_sat_t _ _ _ _ _))
