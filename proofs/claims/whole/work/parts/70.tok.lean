/-! TOKENS: the reference -/
theorem nd_t {P : Prop} [Decidable P] (h : P) : ¬ (!decide P) = true := by rw [decide_eq_true h]; decide
theorem nd_f {P : Prop} [Decidable P] (h : ¬ P) : (!decide P) = true := by rw [decide_eq_false h]; rfl
set_option maxRecDepth 100000 in
set_option maxHeartbeats 400000 in
theorem t_token_i {SM : zC} {SF : Nat → zQ → zP} (hZ : zZ SM SF) {Q : zQ} {x : zXs} {as g F ks ot : Nat → Int32} {kp : Int32} {S : Nat → zSh} {mv : Nat → Int64} {tp : Nat → Int32} {s : Nat → Int32} {a f e : Int32} {R : Int32 × Int32} {o1 o2 : Option Value} (k : SF mn_M_token Q 86 [some (.ref 43), o1, o2] [] (0, 0) (gh x (s, as, g, F, mq ks ot kp tp (a, f, e + 1, R) S mv))) : SF mn_M_token Q 122 [some (.ref 43), o1, o2] [] (0, 0) (gh x (s, as, g, F, mq ks ot kp tp (a, f, e, R) S mv)) := by
  refine zgo hZ 86 10 rfl ?_
  exact k
set_option maxRecDepth 100000 in
set_option maxHeartbeats 400000 in
theorem t_token_w1 {SM : zC} {SF : Nat → zQ → zP} (hZ : zZ SM SF) {Q : zQ} {h : zH} {b : Int32} (k1 : lt b → SF mn_M_token Q 122 [some (.ref 43), some (.int 1), some (.int 0)] [] (0, 0) h) (k0 : ¬ lt b → Q none h) : SF mn_M_token Q 98 [some (.ref 43), some (.int 1), some (.int 0)] [.int b] (0, 0) h := by
  refine zgo hZ 122 10 rfl ?_
  exact t_isLetter hZ (fun z => ⟨fun _ => k1 z, nt⟩) (fun z => ⟨nf, fun _ => ⟨fun _ => k0 z, nf⟩⟩)
set_option maxRecDepth 100000 in
set_option maxHeartbeats 400000 in
theorem t_token_w0 {SM : zC} {SF : Nat → zQ → zP} (hZ : zZ SM SF) {Q : zQ} {x : zXs} {as g F ks ot : Nat → Int32} {kp : Int32} {S : Nat → zSh} {mv : Nat → Int64} {tl : Nat} {tp : Nat → Int32} {s : Nat → Int32} {f : Int32} {R : Int32 × Int32} (ht : tl ≤ 120) {j : Nat} (hj : j ≤ tl) {b : Int32} (e : byt tp tl j = b) (k : SF mn_M_token Q 98 [some (.ref 43), some (.int 1), some (.int 0)] [.int b] (0, 0) (gh x (s, as, g, F, mq ks ot kp tp (nI tl, f, nI j, R) S mv))) : SF mn_M_token Q 86 [some (.ref 43), some (.int 1), some (.int 0)] [] (0, 0) (gh x (s, as, g, F, mq ks ot kp tp (nI tl, f, nI j, R) S mv)) := by
  refine zgo hZ 98 10 rfl ?_
  refine ⟨nt, fun _ => ?_⟩
  exact t_byteAt hZ ht (by omega) e k
set_option maxRecDepth 100000 in
set_option maxHeartbeats 400000 in
theorem t_token_n1 {SM : zC} {SF : Nat → zQ → zP} (hZ : zZ SM SF) {Q : zQ} {h : zH} {b : Int32} (k1 : dg b → SF mn_M_token Q 122 [some (.ref 43), some (.int 0), some (.int 1)] [] (0, 0) h) (k0 : ¬ dg b → Q none h) : SF mn_M_token Q 116 [some (.ref 43), some (.int 0), some (.int 1)] [.int b] (0, 0) h := by
  refine zgo hZ 122 10 rfl ?_
  exact t_isDigit hZ (fun z => ⟨nt, fun _ => k1 z⟩) (fun z => ⟨fun _ => k0 z, nf⟩)
set_option maxRecDepth 100000 in
set_option maxHeartbeats 400000 in
theorem t_token_n0 {SM : zC} {SF : Nat → zQ → zP} (hZ : zZ SM SF) {Q : zQ} {x : zXs} {as g F ks ot : Nat → Int32} {kp : Int32} {S : Nat → zSh} {mv : Nat → Int64} {tl : Nat} {tp : Nat → Int32} {s : Nat → Int32} {f : Int32} {R : Int32 × Int32} (ht : tl ≤ 120) {j : Nat} (hj : j ≤ tl) {b : Int32} (e : byt tp tl j = b) (k : SF mn_M_token Q 116 [some (.ref 43), some (.int 0), some (.int 1)] [.int b] (0, 0) (gh x (s, as, g, F, mq ks ot kp tp (nI tl, f, nI j, R) S mv))) : SF mn_M_token Q 86 [some (.ref 43), some (.int 0), some (.int 1)] [] (0, 0) (gh x (s, as, g, F, mq ks ot kp tp (nI tl, f, nI j, R) S mv)) := by
  refine zgo hZ 116 10 rfl ?_
  refine ⟨fun _ => ⟨nt, fun _ => ?_⟩, nf⟩
  exact t_byteAt hZ ht (by omega) e k
theorem t_token_o {SM : zC} {SF : Nat → zQ → zP} (hZ : zZ SM SF) {Q : zQ} {h : zH} (k : Q none h) : SF mn_M_token Q 86 [some (.ref 43), some (.int 0), some (.int 0)] [] (0, 0) h := by
  refine zgo hZ 999 10 rfl ?_
  exact ⟨fun _ => ⟨fun _ => k, nf⟩, nf⟩
theorem t_token_w {SM : zC} {SF : Nat → zQ → zP} (hZ : zZ SM SF) {Q : zQ} {x : zXs} {as g F ks ot : Nat → Int32} {kp : Int32} {S : Nat → zSh} {mv : Nat → Int64} {tl : Nat} {tp : Nat → Int32} {s : Nat → Int32} {f : Int32} {R : Int32 × Int32} (ht : tl ≤ 120) : ∀ d j, j + d = tl → Q none (gh x (s, as, g, F, mq ks ot kp tp (nI tl, f, nI (fst1 (fun l => !decide (lt (tp l))) j d), R) S mv)) → SF mn_M_token Q 86 [some (.ref 43), some (.int 1), some (.int 0)] [] (0, 0) (gh x (s, as, g, F, mq ks ot kp tp (nI tl, f, nI j, R) S mv)) := by
  intro d
  induction d with
  | zero =>
    intro j hj k
    refine t_token_w0 hZ ht (by omega) (b := -1) (by rw [show j = tl by omega]; exact byt_out) ?_
    exact t_token_w1 hZ (fun z => absurd z lt_m1) (fun _ => k)
  | succ d ih =>
    intro j hj k
    rw [fst1_s] at k
    refine t_token_w0 hZ ht (by omega) (byt_in (by omega)) ?_
    refine t_token_w1 hZ (fun z => t_token_i hZ ?_) (fun z => ?_)
    · rw [if_neg (nd_t z)] at k
      rw [nI_1]
      exact ih (j + 1) (by omega) k
    · rw [if_pos (nd_f z)] at k
      exact k
theorem t_token_n {SM : zC} {SF : Nat → zQ → zP} (hZ : zZ SM SF) {Q : zQ} {x : zXs} {as g F ks ot : Nat → Int32} {kp : Int32} {S : Nat → zSh} {mv : Nat → Int64} {tl : Nat} {tp : Nat → Int32} {s : Nat → Int32} {f : Int32} {R : Int32 × Int32} (ht : tl ≤ 120) : ∀ d j, j + d = tl → Q none (gh x (s, as, g, F, mq ks ot kp tp (nI tl, f, nI (fst1 (fun l => !decide (dg (tp l))) j d), R) S mv)) → SF mn_M_token Q 86 [some (.ref 43), some (.int 0), some (.int 1)] [] (0, 0) (gh x (s, as, g, F, mq ks ot kp tp (nI tl, f, nI j, R) S mv)) := by
  intro d
  induction d with
  | zero =>
    intro j hj k
    refine t_token_n0 hZ ht (by omega) (b := -1) (by rw [show j = tl by omega]; exact byt_out) ?_
    exact t_token_n1 hZ (fun z => absurd z dg_m1) (fun _ => k)
  | succ d ih =>
    intro j hj k
    rw [fst1_s] at k
    refine t_token_n0 hZ ht (by omega) (byt_in (by omega)) ?_
    refine t_token_n1 hZ (fun z => t_token_i hZ ?_) (fun z => ?_)
    · rw [if_neg (nd_t z)] at k
      rw [nI_1]
      exact ih (j + 1) (by omega) k
    · rw [if_pos (nd_f z)] at k
      exact k
theorem lt_dg {b : Int32} (h : lt b) : ¬ dg b := fun z => by
  have h1 := h.1
  have h2 := z.2
  rw [zle] at h1 h2
  have e1 : (97 : Int32).toInt = 97 := by decide
  have e2 : (57 : Int32).toInt = 57 := by decide
  omega
set_option maxRecDepth 100000 in
set_option maxHeartbeats 400000 in
theorem t_token_A {SM : zC} {SF : Nat → zQ → zP} (hZ : zZ SM SF) {Q : zQ} {x : zXs} {as g F ks ot : Nat → Int32} {kp : Int32} {S : Nat → zSh} {mv : Nat → Int64} {tl : Nat} {tp : Nat → Int32} {s : Nat → Int32} {R : Int32 × Int32 × Int32} (ht : tl ≤ 120) {j : Nat} (hj : j ≤ tl) {b : Int32} (e : byt tp tl j = b) {o1 o2 : Option Value} (k : SF mn_M_token Q 42 [some (.ref 43), o1, o2] [.int b] (0, 0) (gh x (s, as, g, F, mq ks ot kp tp (nI tl, nI j, R) S mv))) : SF mn_M_token Q 34 [some (.ref 43), o1, o2] [] (0, 0) (gh x (s, as, g, F, mq ks ot kp tp (nI tl, nI j, R) S mv)) := by
  refine zgo hZ 42 10 rfl ?_
  exact t_byteAt hZ ht (by omega) e k
set_option maxRecDepth 100000 in
set_option maxHeartbeats 400000 in
theorem t_token_C {SM : zC} {SF : Nat → zQ → zP} (hZ : zZ SM SF) {Q : zQ} {x : zXs} {as g F ks ot : Nat → Int32} {kp : Int32} {S : Nat → zSh} {mv : Nat → Int64} {tl : Nat} {tp : Nat → Int32} {s : Nat → Int32} {R : Int32 × Int32 × Int32} (ht : tl ≤ 120) {j : Nat} (hj : j ≤ tl) {b : Int32} (e : byt tp tl j = b) {o1 o2 : Option Value} (k : SF mn_M_token Q 54 [some (.ref 43), o1, o2] [.int b] (0, 0) (gh x (s, as, g, F, mq ks ot kp tp (nI tl, nI j, R) S mv))) : SF mn_M_token Q 46 [some (.ref 43), o1, o2] [] (0, 0) (gh x (s, as, g, F, mq ks ot kp tp (nI tl, nI j, R) S mv)) := by
  refine zgo hZ 54 10 rfl ?_
  exact t_byteAt hZ ht (by omega) e k
theorem t_token_B {SM : zC} {SF : Nat → zQ → zP} (hZ : zZ SM SF) {Q : zQ} {h : zH} {b : Int32} (k1 : lt b → SF mn_M_token Q 46 [some (.ref 43), some (.int 1), none] [] (0, 0) h) (k0 : ¬ lt b → SF mn_M_token Q 46 [some (.ref 43), some (.int 0), none] [] (0, 0) h) : SF mn_M_token Q 42 [some (.ref 43), none, none] [.int b] (0, 0) h := by
  refine zgo hZ 46 10 rfl ?_
  exact t_isLetter hZ (fun z => k1 z) (fun z => k0 z)
theorem t_token_D {SM : zC} {SF : Nat → zQ → zP} (hZ : zZ SM SF) {Q : zQ} {h : zH} {b v : Int32} (k1 : dg b → SF mn_M_token Q 58 [some (.ref 43), some (.int v), some (.int 1)] [] (0, 0) h) (k0 : ¬ dg b → SF mn_M_token Q 58 [some (.ref 43), some (.int v), some (.int 0)] [] (0, 0) h) : SF mn_M_token Q 54 [some (.ref 43), some (.int v), none] [.int b] (0, 0) h := by
  refine zgo hZ 58 10 rfl ?_
  exact t_isDigit hZ (fun z => k1 z) (fun z => k0 z)
set_option maxRecDepth 100000 in
set_option maxHeartbeats 400000 in
theorem t_token_E {SM : zC} {SF : Nat → zQ → zP} (hZ : zZ SM SF) {Q : zQ} {x : zXs} {as g F ks ot : Nat → Int32} {kp : Int32} {S : Nat → zSh} {mv : Nat → Int64} {tl : Nat} {tp : Nat → Int32} {s : Nat → Int32} {e : Int32} {R : Int32 × Int32} (ht : tl ≤ 120) {j : Nat} (hj : j ≤ tl) {o1 o2 : Option Value} (k : SF mn_M_token Q 86 [some (.ref 43), o1, o2] [] (0, 0) (gh x (s, as, g, F, mq ks ot kp tp (nI tl, nI j, nI (if j < tl then j + 1 else j), R) S mv))) : SF mn_M_token Q 58 [some (.ref 43), o1, o2] [] (0, 0) (gh x (s, as, g, F, mq ks ot kp tp (nI tl, nI j, e, R) S mv)) := by
  have ee : nI tl ≤ nI j ↔ tl ≤ j := ile rfl rfl (by omega) (by omega)
  refine zgo hZ 86 20 rfl ?_
  refine ⟨fun h => ?_, fun h => ?_⟩
  · have h := ee.mp h
    rw [if_neg (by omega)] at k
    exact k
  · have h : ¬ tl ≤ j := fun z => h (ee.mpr z)
    rw [if_pos (by omega), ← nI_1 j] at k
    exact k
theorem t_token_1 {SM : zC} {SF : Nat → zQ → zP} (hZ : zZ SM SF) {Q : zQ} {x : zXs} {as g F ks ot : Nat → Int32} {kp : Int32} {S : Nat → zSh} {mv : Nat → Int64} {tl : Nat} {tp : Nat → Int32} {s : Nat → Int32} {e : Int32} {R : Int32 × Int32} (ht : tl ≤ 120) {j : Nat} (hj : j ≤ tl) (k : Q none (gh x (s, as, g, F, mq ks ot kp tp (nI tl, nI j, nI (tkE tp tl j), R) S mv))) : SF mn_M_token Q 34 [some (.ref 43), none, none] [] (0, 0) (gh x (s, as, g, F, mq ks ot kp tp (nI tl, nI j, e, R) S mv)) := by
  unfold tkE at k
  refine t_token_A hZ ht hj rfl ?_
  by_cases hl : j < tl
  · rw [if_pos hl] at k
    refine t_token_B hZ (fun h1 => ?_) (fun h1 => ?_)
    · refine t_token_C hZ ht hj rfl ?_
      refine t_token_D hZ (fun z => absurd z (lt_dg h1)) (fun _ => ?_)
      rw [byt_in hl] at h1
      rw [if_pos h1] at k
      refine t_token_E hZ ht hj ?_
      rw [if_pos hl]
      exact t_token_w hZ ht (tl - (j + 1)) (j + 1) (by omega) k
    · refine t_token_C hZ ht hj rfl ?_
      rw [byt_in hl] at h1
      rw [if_neg h1] at k
      refine t_token_D hZ (fun h3 => ?_) (fun h3 => ?_)
      · rw [byt_in hl] at h3
        rw [if_pos h3] at k
        refine t_token_E hZ ht hj ?_
        rw [if_pos hl]
        exact t_token_n hZ ht (tl - (j + 1)) (j + 1) (by omega) k
      · rw [byt_in hl] at h3
        rw [if_neg h3] at k
        refine t_token_E hZ ht hj ?_
        rw [if_pos hl]
        exact t_token_o hZ k
  · have : j = tl := by omega
    subst this
    rw [if_neg hl] at k
    rw [byt_out]
    refine t_token_B hZ (fun h1 => absurd h1 lt_m1) (fun _ => ?_)
    refine t_token_C hZ ht hj byt_out ?_
    refine t_token_D hZ (fun h1 => absurd h1 dg_m1) (fun _ => ?_)
    refine t_token_E hZ ht hj ?_
    rw [if_neg hl]
    exact t_token_o hZ k
theorem tkS_rng {tp : Nat → Int32} {tl p : Nat} (h : p ≤ tl) : p ≤ tkS tp tl p ∧ tkS tp tl p ≤ tl := by
  unfold tkS
  have := fst1_rng (fun l => !decide (tp l = 32)) (tl - p) p
  omega
theorem tkE_rng {tp : Nat → Int32} {tl s : Nat} (h : s ≤ tl) : s ≤ tkE tp tl s ∧ tkE tp tl s ≤ tl ∧ (s < tl → s < tkE tp tl s) := by
  unfold tkE
  have h1 := fst1_rng (fun l => !decide (lt (tp l))) (tl - (s + 1)) (s + 1)
  have h2 := fst1_rng (fun l => !decide (dg (tp l))) (tl - (s + 1)) (s + 1)
  by_cases hs : s < tl
  · rw [if_pos hs]
    by_cases a : lt (tp s)
    · rw [if_pos a]; omega
    · rw [if_neg a]
      by_cases b : dg (tp s)
      · rw [if_pos b]; omega
      · rw [if_neg b]; omega
  · rw [if_neg hs]; omega
set_option maxRecDepth 100000 in
set_option maxHeartbeats 400000 in
theorem t_token {SM : zC} {SF : Nat → zQ → zP} (hZ : zZ SM SF) {Q : zQ} {x : zXs} {as g F ks ot : Nat → Int32} {kp : Int32} {S : Nat → zSh} {mv : Nat → Int64} {tl : Nat} {tp : Nat → Int32} {s : Nat → Int32} {f : Int32} {R : Int32 × Int32} (ht : tl ≤ 120) {p : Nat} (hp : p ≤ tl) (k : Q none (gh x (s, as, g, F, mq ks ot kp tp (nI tl, nI (tkS tp tl p), nI (tkE tp tl (tkS tp tl p)), R) S mv))) : SM mn_M_token [.ref 43] (gh x (s, as, g, F, mq ks ot kp tp (nI tl, f, nI p, R) S mv)) Q := by
  refine zin hZ 8 10 rfl rfl rfl ?_
  exact t_token_s (R := (nI p, R)) hZ ht (tl - p) p (by omega) (t_token_1 hZ ht (tkS_rng hp).2 k)
/-- the next token -/
def nx (tp : Nat → Int32) (tl s : Nat) : Nat := tkS tp tl (tkE tp tl s)
theorem nx_rng {tp : Nat → Int32} {tl s : Nat} (h : s ≤ tl) : s ≤ nx tp tl s ∧ nx tp tl s ≤ tl ∧ (s < tl → s < nx tp tl s) := by
  obtain ⟨h1, h2, h3⟩ := tkE_rng (tp := tp) h
  obtain ⟨h4, h5⟩ := tkS_rng (tp := tp) h2
  unfold nx
  refine ⟨by omega, h5, fun z => ?_⟩
  have := h3 z
  omega
set_option maxRecDepth 100000 in
set_option maxHeartbeats 400000 in
theorem t_must1 {SM : zC} {SF : Nat → zQ → zP} (hZ : zZ SM SF) {Q : zQ} {x : zXs} {as g F ks ot : Nat → Int32} {kp : Int32} {S : Nat → zSh} {mv : Nat → Int64} {tl : Nat} {tp : Nat → Int32} {s : Nat → Int32} {f v : Int32} (ht : tl ≤ 120) {p : Nat} (hp : p ≤ tl) (k : Q none (gh x (s, as, g, F, mq ks ot kp tp (nI tl, nI (nx tp tl p), nI (tkE tp tl (nx tp tl p)), v, 0) S mv))) : SM mn_M_must [.ref 43, .int 1] (gh x (s, as, g, F, mq ks ot kp tp (nI tl, f, nI (tkE tp tl p), v, 0) S mv)) Q := by
  refine zin hZ 999 60 rfl rfl rfl ?_
  refine ⟨nf, fun _ => ⟨fun _ => ⟨Or.inl rfl, ⟨nf, fun _ => ?_⟩⟩, nt⟩⟩
  exact t_token hZ ht (tkE_rng hp).2.1 k
set_option maxRecDepth 100000 in
set_option maxHeartbeats 400000 in
theorem t_must0 {SM : zC} {SF : Nat → zQ → zP} (hZ : zZ SM SF) {Q : zQ} {x : zXs} {as g F ks ot : Nat → Int32} {kp : Int32} {S : Nat → zSh} {mv : Nat → Int64} {tp : Nat → Int32} {s : Nat → Int32} {a f e v : Int32} (k : Q none (gh x (s, as, g, F, mq ks ot kp tp (a, f, e, v, 1) S mv))) : SM mn_M_must [.ref 43, .int 0] (gh x (s, as, g, F, mq ks ot kp tp (a, f, e, v, 0) S mv)) Q := by
  refine zin hZ 999 60 rfl rfl rfl ?_
  exact ⟨nf, fun _ => ⟨nf, fun _ => ⟨Or.inr rfl, ⟨fun _ => k, nt⟩⟩⟩⟩
set_option maxRecDepth 100000 in
set_option maxHeartbeats 400000 in
theorem t_mustw {SM : zC} {SF : Nat → zQ → zP} (hZ : zZ SM SF) {Q : zQ} {x : zXs} {as g F ks ot : Nat → Int32} {kp : Int32} {S : Nat → zSh} {mv : Nat → Int64} {tp : Nat → Int32} {s : Nat → Int32} {a f e v i : Int32} (k : Q none (gh x (s, as, g, F, mq ks ot kp tp (a, f, e, v, 1) S mv))) : SM mn_M_must [.ref 43, .int i] (gh x (s, as, g, F, mq ks ot kp tp (a, f, e, v, 1) S mv)) Q := by
  refine zin hZ 999 60 rfl rfl rfl ?_
  exact ⟨fun _ => ⟨Or.inr rfl, ⟨fun _ => k, nt⟩⟩, nt⟩
