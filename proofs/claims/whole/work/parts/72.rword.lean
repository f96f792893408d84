/-! THE REFERENCE: words and numbers -/
set_option maxRecDepth 100000 in
set_option maxHeartbeats 400000 in
theorem t_word_l {SM : zC} {SF : Nat → zQ → zP} (hZ : zZ SM SF) {Q : zQ} {x : zXs} {as g F ks ot : Nat → Int32} {kp : Int32} {S : Nat → zSh} {mv : Nat → Int64} {tl : Nat} {tp : Nat → Int32} {r : Nat → Int32} {v w : Int32} (ht : tl ≤ 120) {s e : Nat} (he : e ≤ tl) (k : SF mn_M_word Q 50 [some (.ref 43), some (.long (wv tp s (e - s))), none, some (.int (nI e))] [] (0, 0) (gh x (r, as, g, F, mq ks ot kp tp (nI tl, nI s, nI e, v, w) S mv))) : ∀ d j, s + j + d = e → SF mn_M_word Q 7 [some (.ref 43), some (.long (wv tp s j)), none, some (.int (nI (s + j)))] [] (0, 0) (gh x (r, as, g, F, mq ks ot kp tp (nI tl, nI s, nI e, v, w) S mv)) := by
  intro d
  induction d with
  | zero =>
    intro j hj
    have hj : s + j = e := by omega
    refine zgo hZ 50 10 rfl ?_
    refine ⟨fun _ => ?_, fun h => absurd ((ile rfl rfl (by omega) (by omega)).mpr (by omega)) h⟩
    rw [show e - s = j by omega] at k
    rw [hj]
    exact k
  | succ d ih =>
    intro j hj
    have h1 := ih (j + 1) (by omega)
    rw [show s + (j + 1) = (s + j) + 1 by omega, ← nI_1 (s + j), show wv tp s (j + 1) = if 36028797018963967 < wv tp s j then wv tp s j else 32 * wv tp s j + (tp (s + j) - 96).toInt64 from rfl] at h1
    generalize wv tp s j = W at h1
    refine zgo hZ 7 30 rfl ?_
    refine ⟨fun h => ?_, fun _ => ⟨fun h2 => ⟨s + j, by omega, rfl, ?_⟩, fun h2 => ?_⟩⟩
    · have := (ile rfl rfl (by omega) (by omega)).mp h
      omega
    · rw [if_neg (fun z => nlt_of h2 ((lcmp_gt _ _).mpr z))] at h1
      exact h1
    · rw [if_pos ((lcmp_gt _ _).mp (lt_of h2))] at h1
      exact h1
theorem t_word_3 {SM : zC} {SF : Nat → zQ → zP} (hZ : zZ SM SF) {Q : zQ} {h : zH} {b : Int32} {V : Int64} {o : Option Value} (k1 : lt b → Q (some (.long V)) h) (k0 : ¬ lt b → Q (some (.long 0)) h) : SF mn_M_word Q 65 [some (.ref 43), some (.long V), none, o] [.int b] (0, 0) h := by
  refine zgo hZ 999 10 rfl ?_
  exact t_isLetter hZ (fun z => ⟨fun _ => k1 z, nt⟩) (fun z => ⟨nf, fun _ => k0 z⟩)
set_option maxRecDepth 100000 in
set_option maxHeartbeats 400000 in
theorem t_word_2 {SM : zC} {SF : Nat → zQ → zP} (hZ : zZ SM SF) {Q : zQ} {x : zXs} {as g F ks ot : Nat → Int32} {kp : Int32} {S : Nat → zSh} {mv : Nat → Int64} {tl : Nat} {tp : Nat → Int32} {r : Nat → Int32} {v e : Int32} (ht : tl ≤ 120) {s : Nat} (hs : s ≤ tl) {V : Int64} {o : Option Value} (k : SF mn_M_word Q 65 [some (.ref 43), some (.long V), none, o] [.int (byt tp tl s)] (0, 0) (gh x (r, as, g, F, mq ks ot kp tp (nI tl, nI s, e, v, 0) S mv))) : SF mn_M_word Q 50 [some (.ref 43), some (.long V), none, o] [] (0, 0) (gh x (r, as, g, F, mq ks ot kp tp (nI tl, nI s, e, v, 0) S mv)) := by
  refine zgo hZ 65 10 rfl ?_
  refine ⟨nf, fun _ => ?_⟩
  exact t_byteAt hZ ht (by omega) rfl k
set_option maxRecDepth 100000 in
set_option maxHeartbeats 400000 in
theorem t_word_w {SM : zC} {SF : Nat → zQ → zP} (hZ : zZ SM SF) {Q : zQ} {x : zXs} {as g F ks ot : Nat → Int32} {kp : Int32} {S : Nat → zSh} {mv : Nat → Int64} {tp : Nat → Int32} {r : Nat → Int32} {a f e v : Int32} {V : Int64} {o : Option Value} (k : Q (some (.long 0)) (gh x (r, as, g, F, mq ks ot kp tp (a, f, e, v, 1) S mv))) : SF mn_M_word Q 50 [some (.ref 43), some (.long V), none, o] [] (0, 0) (gh x (r, as, g, F, mq ks ot kp tp (a, f, e, v, 1) S mv)) := by
  refine zgo hZ 999 10 rfl ?_
  exact ⟨fun _ => k, nt⟩
set_option maxRecDepth 100000 in
set_option maxHeartbeats 400000 in
theorem t_word_0 {SM : zC} {SF : Nat → zQ → zP} (hZ : zZ SM SF) {Q : zQ} {x : zXs} {as g F ks ot : Nat → Int32} {kp : Int32} {S : Nat → zSh} {mv : Nat → Int64} {tl : Nat} {tp : Nat → Int32} {r : Nat → Int32} {s : Nat} {e : Int32} {R : Int32 × Int32} (k : SF mn_M_word Q 7 [some (.ref 43), some (.long 0), none, some (.int (nI s))] [] (0, 0) (gh x (r, as, g, F, mq ks ot kp tp (nI tl, nI s, e, R) S mv))) : SM mn_M_word [.ref 43] (gh x (r, as, g, F, mq ks ot kp tp (nI tl, nI s, e, R) S mv)) Q := by
  refine zin hZ 7 10 rfl rfl rfl ?_
  exact k
theorem t_word {SM : zC} {SF : Nat → zQ → zP} (hZ : zZ SM SF) {Q : zQ} {x : zXs} {as g F ks ot : Nat → Int32} {kp : Int32} {S : Nat → zSh} {mv : Nat → Int64} {tl : Nat} {tp : Nat → Int32} {r : Nat → Int32} {v : Int32} (ht : tl ≤ 120) {s : Nat} (hs : s ≤ tl) (k : Q (some (.long (wd tp tl s))) (gh x (r, as, g, F, mq ks ot kp tp (nI tl, nI s, nI (tkE tp tl s), v, 0) S mv))) : SM mn_M_word [.ref 43] (gh x (r, as, g, F, mq ks ot kp tp (nI tl, nI s, nI (tkE tp tl s), v, 0) S mv)) Q := by
  obtain ⟨h1, h2, h3⟩ := tkE_rng (tp := tp) hs
  unfold wd at k
  refine t_word_0 hZ ?_
  refine t_word_l hZ ht h2 ?_ (tkE tp tl s - s) 0 (by omega)
  refine t_word_2 hZ ht hs ?_
  refine t_word_3 hZ (fun z => ?_) (fun z => ?_)
  · rw [if_pos z] at k; exact k
  · rw [if_neg z] at k; exact k
theorem t_wordw {SM : zC} {SF : Nat → zQ → zP} (hZ : zZ SM SF) {Q : zQ} {x : zXs} {as g F ks ot : Nat → Int32} {kp : Int32} {S : Nat → zSh} {mv : Nat → Int64} {tl : Nat} {tp : Nat → Int32} {r : Nat → Int32} {v : Int32} (ht : tl ≤ 120) {s : Nat} (hs : s ≤ tl) (k : Q (some (.long 0)) (gh x (r, as, g, F, mq ks ot kp tp (nI tl, nI s, nI (tkE tp tl s), v, 1) S mv))) : SM mn_M_word [.ref 43] (gh x (r, as, g, F, mq ks ot kp tp (nI tl, nI s, nI (tkE tp tl s), v, 1) S mv)) Q := by
  obtain ⟨h1, h2, h3⟩ := tkE_rng (tp := tp) hs
  refine t_word_0 hZ ?_
  refine t_word_l hZ ht h2 ?_ (tkE tp tl s - s) 0 (by omega)
  exact t_word_w hZ k
-- number
set_option maxRecDepth 100000 in
set_option maxHeartbeats 400000 in
theorem t_num_w {SM : zC} {SF : Nat → zQ → zP} (hZ : zZ SM SF) {Q : zQ} {x : zXs} {as g F ks ot : Nat → Int32} {kp : Int32} {S : Nat → zSh} {mv : Nat → Int64} {tp : Nat → Int32} {r : Nat → Int32} {a f e v lo hi : Int32} (k : Q none (gh x (r, as, g, F, mq ks ot kp tp (a, f, e, v, 1) S mv))) : SM mn_M_number [.ref 43, .int lo, .int hi] (gh x (r, as, g, F, mq ks ot kp tp (a, f, e, v, 1) S mv)) Q := by
  refine zin hZ 999 10 rfl rfl rfl ?_
  exact ⟨nt, fun _ => k⟩
set_option maxRecDepth 100000 in
set_option maxHeartbeats 400000 in
theorem t_num_1 {SM : zC} {SF : Nat → zQ → zP} (hZ : zZ SM SF) {Q : zQ} {x : zXs} {as g F ks ot : Nat → Int32} {kp : Int32} {S : Nat → zSh} {mv : Nat → Int64} {tl : Nat} {tp : Nat → Int32} {r : Nat → Int32} {e v lo hi : Int32} (ht : tl ≤ 120) {s : Nat} (hs : s ≤ tl) (k : SF mn_M_number Q 16 [some (.ref 43), some (.int lo), some (.int hi), none, none, none] [.int (byt tp tl s)] (0, 0) (gh x (r, as, g, F, mq ks ot kp tp (nI tl, nI s, e, v, 0) S mv))) : SM mn_M_number [.ref 43, .int lo, .int hi] (gh x (r, as, g, F, mq ks ot kp tp (nI tl, nI s, e, v, 0) S mv)) Q := by
  refine zin hZ 16 10 rfl rfl rfl ?_
  refine ⟨fun _ => ?_, nf⟩
  exact t_byteAt hZ ht (by omega) rfl k
set_option maxRecDepth 100000 in
set_option maxHeartbeats 400000 in
theorem t_num_2 {SM : zC} {SF : Nat → zQ → zP} (hZ : zZ SM SF) {Q : zQ} {x : zXs} {as g F ks ot : Nat → Int32} {kp : Int32} {S : Nat → zSh} {mv : Nat → Int64} {tp : Nat → Int32} {r : Nat → Int32} {a f e v w lo hi b : Int32} (k1 : dg b → SF mn_M_number Q 29 [some (.ref 43), some (.int lo), some (.int hi), some (.int 1), some (.int 0), some (.int f)] [] (0, 0) (gh x (r, as, g, F, mq ks ot kp tp (a, f, e, v, w) S mv))) (k0 : ¬ dg b → SF mn_M_number Q 29 [some (.ref 43), some (.int lo), some (.int hi), some (.int 0), some (.int 0), some (.int f)] [] (0, 0) (gh x (r, as, g, F, mq ks ot kp tp (a, f, e, v, w) S mv))) : SF mn_M_number Q 16 [some (.ref 43), some (.int lo), some (.int hi), none, none, none] [.int b] (0, 0) (gh x (r, as, g, F, mq ks ot kp tp (a, f, e, v, w) S mv)) := by
  refine zgo hZ 29 12 rfl ?_
  exact t_isDigit hZ (fun z => k1 z) (fun z => k0 z)
set_option maxRecDepth 100000 in
set_option maxHeartbeats 400000 in
theorem t_num_l {SM : zC} {SF : Nat → zQ → zP} (hZ : zZ SM SF) {Q : zQ} {x : zXs} {as g F ks ot : Nat → Int32} {kp : Int32} {S : Nat → zSh} {mv : Nat → Int64} {tl : Nat} {tp : Nat → Int32} {r : Nat → Int32} {v w lo hi : Int32} (ht : tl ≤ 120) {s e : Nat} (he : e ≤ tl) (k : SF mn_M_number Q 79 [some (.ref 43), some (.int lo), some (.int hi), some (.int 1), some (.int (nv tp s (e - s))), some (.int (nI e))] [] (0, 0) (gh x (r, as, g, F, mq ks ot kp tp (nI tl, nI s, nI e, v, w) S mv))) : ∀ d j, s + j + d = e → SF mn_M_number Q 29 [some (.ref 43), some (.int lo), some (.int hi), some (.int 1), some (.int (nv tp s j)), some (.int (nI (s + j)))] [] (0, 0) (gh x (r, as, g, F, mq ks ot kp tp (nI tl, nI s, nI e, v, w) S mv)) := by
  intro d
  induction d with
  | zero =>
    intro j hj
    have hj : s + j = e := by omega
    refine zgo hZ 79 10 rfl ?_
    refine ⟨fun _ => ?_, fun h => absurd ((ile rfl rfl (by omega) (by omega)).mpr (by omega)) h⟩
    rw [show e - s = j by omega] at k
    rw [hj]
    exact k
  | succ d ih =>
    intro j hj
    have h1 := ih (j + 1) (by omega)
    rw [show s + (j + 1) = (s + j) + 1 by omega, ← nI_1 (s + j), show nv tp s (j + 1) = if nv tp s j ≤ 999 then 10 * nv tp s j + tp (s + j) - 48 else nv tp s j from rfl] at h1
    generalize nv tp s j = W at h1
    refine zgo hZ 29 30 rfl ?_
    refine ⟨fun h => ?_, fun _ => ⟨nt, fun _ => ⟨fun h2 => ⟨s + j, by omega, rfl, ?_⟩, fun h2 => ?_⟩⟩⟩
    · have := (ile rfl rfl (by omega) (by omega)).mp h
      omega
    · rw [if_pos (show W ≤ 999 from h2)] at h1
      exact h1
    · rw [if_neg (show ¬ W ≤ 999 from h2)] at h1
      exact h1
set_option maxRecDepth 100000 in
set_option maxHeartbeats 400000 in
theorem t_num_0 {SM : zC} {SF : Nat → zQ → zP} (hZ : zZ SM SF) {Q : zQ} {a f e v w lo hi : Int32} {x : zXs} {as g F ks ot r : Nat → Int32} {kp : Int32} {S : Nat → zSh} {mv : Nat → Int64} {tp : Nat → Int32} (k : SF mn_M_number Q 79 [some (.ref 43), some (.int lo), some (.int hi), some (.int 0), some (.int 0), some (.int f)] [] (0, 0) (gh x (r, as, g, F, mq ks ot kp tp (a, f, e, v, w) S mv))) : SF mn_M_number Q 29 [some (.ref 43), some (.int lo), some (.int hi), some (.int 0), some (.int 0), some (.int f)] [] (0, 0) (gh x (r, as, g, F, mq ks ot kp tp (a, f, e, v, w) S mv)) := by
  refine zgo hZ 79 10 rfl ?_
  exact ⟨fun _ => k, fun _ => ⟨fun _ => k, nf⟩⟩
set_option maxRecDepth 100000 in
set_option maxHeartbeats 400000 in
theorem t_num_79 {SM : zC} {SF : Nat → zQ → zP} (hZ : zZ SM SF) {Q : zQ} {x : zXs} {as g F ks ot : Nat → Int32} {kp : Int32} {S : Nat → zSh} {mv : Nat → Int64} {tp : Nat → Int32} {r : Nat → Int32} {a f e v w lo hi u : Int32} {o o5 : Option Value} (k : SF mn_M_number Q 85 [some (.ref 43), some (.int lo), some (.int hi), o, some (.int u), o5] [] (0, 0) (gh x (r, as, g, F, mq ks ot kp tp (a, f, e, u, w) S mv))) : SF mn_M_number Q 79 [some (.ref 43), some (.int lo), some (.int hi), o, some (.int u), o5] [] (0, 0) (gh x (r, as, g, F, mq ks ot kp tp (a, f, e, v, w) S mv)) := by
  refine zgo hZ 85 6 rfl ?_
  exact k
theorem t_num_85_0 {SM : zC} {SF : Nat → zQ → zP} (hZ : zZ SM SF) {Q : zQ} {h : zH} {lo hi u : Int32} {o5 : Option Value} (k : SF mn_M_number Q 108 [some (.ref 43), some (.int lo), some (.int hi), some (.int 0), some (.int u), o5] [.int 0, .ref 43] (0, 0) h) : SF mn_M_number Q 85 [some (.ref 43), some (.int lo), some (.int hi), some (.int 0), some (.int u), o5] [] (0, 0) h := by
  refine zgo hZ 108 10 rfl ?_
  exact ⟨fun _ => k, nf⟩
set_option maxRecDepth 100000 in
set_option maxHeartbeats 400000 in
theorem t_num_85_1 {SM : zC} {SF : Nat → zQ → zP} (hZ : zZ SM SF) {Q : zQ} {h : zH} {lo hi u : Int32} {o5 : Option Value} (k1 : lo ≤ u → u ≤ hi → SF mn_M_number Q 108 [some (.ref 43), some (.int lo), some (.int hi), some (.int 1), some (.int u), o5] [.int 1, .ref 43] (0, 0) h) (k0 : ¬ (lo ≤ u ∧ u ≤ hi) → SF mn_M_number Q 108 [some (.ref 43), some (.int lo), some (.int hi), some (.int 1), some (.int u), o5] [.int 0, .ref 43] (0, 0) h) : SF mn_M_number Q 85 [some (.ref 43), some (.int lo), some (.int hi), some (.int 1), some (.int u), o5] [] (0, 0) h := by
  refine zgo hZ 108 20 rfl ?_
  refine ⟨nt, fun _ => ?_⟩
  exact t_inI hZ u lo hi rfl rfl rfl (fun h1 h2 => ⟨nt, fun _ => k1 h1 h2⟩) (fun h1 => ⟨fun _ => k0 h1, nf⟩)
set_option maxRecDepth 100000 in
set_option maxHeartbeats 400000 in
theorem t_num_108_1 {SM : zC} {SF : Nat → zQ → zP} (hZ : zZ SM SF) {Q : zQ} {x : zXs} {as g F ks ot : Nat → Int32} {kp : Int32} {S : Nat → zSh} {mv : Nat → Int64} {tl : Nat} {tp : Nat → Int32} {r : Nat → Int32} {v : Int32} {s : Nat} (ht : tl ≤ 120) (hs : s ≤ tl) {L : zL} (k : Q none (gh x (r, as, g, F, mq ks ot kp tp (nI tl, nI (nx tp tl s), nI (tkE tp tl (nx tp tl s)), v, 0) S mv))) : SF mn_M_number Q 108 L [.int 1, .ref 43] (0, 0) (gh x (r, as, g, F, mq ks ot kp tp (nI tl, nI s, nI (tkE tp tl s), v, 0) S mv)) := by
  refine zgo hZ 999 4 rfl ?_
  exact t_must1 hZ ht hs k
set_option maxRecDepth 100000 in
set_option maxHeartbeats 400000 in
theorem t_num_108_0 {SM : zC} {SF : Nat → zQ → zP} (hZ : zZ SM SF) {Q : zQ} {x : zXs} {as g F ks ot : Nat → Int32} {kp : Int32} {S : Nat → zSh} {mv : Nat → Int64} {tp : Nat → Int32} {r : Nat → Int32} {a f e v : Int32} {L : zL} (k : Q none (gh x (r, as, g, F, mq ks ot kp tp (a, f, e, v, 1) S mv))) : SF mn_M_number Q 108 L [.int 0, .ref 43] (0, 0) (gh x (r, as, g, F, mq ks ot kp tp (a, f, e, v, 0) S mv)) := by
  refine zgo hZ 999 4 rfl ?_
  exact t_must0 hZ k
theorem t_num {SM : zC} {SF : Nat → zQ → zP} (hZ : zZ SM SF) {Q : zQ} {x : zXs} {as g F ks ot : Nat → Int32} {kp : Int32} {S : Nat → zSh} {mv : Nat → Int64} {tl : Nat} {tp : Nat → Int32} {r : Nat → Int32} {v hi : Int32} (ht : tl ≤ 120) {s : Nat} (hs : s ≤ tl) (h9 : hi.toInt ≤ 999) (kt : isn tp tl s hi → Q none (gh x (r, as, g, F, mq ks ot kp tp (nI tl, nI (nx tp tl s), nI (tkE tp tl (nx tp tl s)), num tp tl s, 0) S mv))) (kf : ¬ isn tp tl s hi → ∀ u, Q none (gh x (r, as, g, F, mq ks ot kp tp (nI tl, nI s, nI (tkE tp tl s), u, 1) S mv))) : SM mn_M_number [.ref 43, .int 0, .int hi] (gh x (r, as, g, F, mq ks ot kp tp (nI tl, nI s, nI (tkE tp tl s), v, 0) S mv)) Q := by
  obtain ⟨h1, h2, h3⟩ := tkE_rng (tp := tp) hs
  refine t_num_1 hZ ht hs ?_
  refine t_num_2 hZ (fun z => ?_) (fun z => ?_)
  · obtain ⟨n1, n2⟩ := nv_isn z h9
    refine t_num_l hZ ht h2 ?_ (tkE tp tl s - s) 0 (by omega)
    refine t_num_79 hZ ?_
    refine t_num_85_1 hZ (fun a1 a2 => ?_) (fun a1 => ?_)
    · by_cases hi : isn tp tl s hi
      · rw [(n1 hi).2]
        exact t_num_108_1 hZ ht hs (kt hi)
      · exact absurd ⟨a1, a2⟩ (n2 hi)
    · by_cases hi : isn tp tl s hi
      · exact absurd (n1 hi).1 a1
      · exact t_num_108_0 hZ (kf hi _)
  · refine t_num_0 hZ ?_
    refine t_num_79 hZ ?_
    refine t_num_85_0 hZ ?_
    exact t_num_108_0 hZ (kf (fun y => z y.1) _)
