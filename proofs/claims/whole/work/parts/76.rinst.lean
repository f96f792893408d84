/-! THE REFERENCE'S institute -/
set_option maxRecDepth 100000 in
set_option maxHeartbeats 400000 in
theorem t_ins_97 {SM : zC} {SF : Nat → zQ → zP} (hZ : zZ SM SF) {Q : zQ} {x : zXs} {as g F ks ot : Nat → Int32} {kp : Int32} {S : Nat → zSh} {mv : Nat → Int64} {tp : Nat → Int32} {r : Nat → Int32} {a f e v n : Int32} (k : Q (some (.int n)) (gh x (r, as, g, F, mq ks ot kp tp (0, f, e, v, 0) S mv))) : SF mn_M_institute Q 97 [some (.ref 43), some (.int n)] [] (0, 0) (gh x (r, as, g, F, mq ks ot kp tp (a, f, e, v, 0) S mv)) := by
  refine zgo hZ 999 12 rfl ?_
  exact ⟨fun _ => k, nf⟩
set_option maxRecDepth 100000 in
set_option maxHeartbeats 400000 in
theorem t_ins_97w {SM : zC} {SF : Nat → zQ → zP} (hZ : zZ SM SF) {Q : zQ} {x : zXs} {as g F ks ot : Nat → Int32} {kp : Int32} {S : Nat → zSh} {mv : Nat → Int64} {tp : Nat → Int32} {r : Nat → Int32} {a f e v n : Int32} (k : Q (some (.int (-1 - f))) (gh x (r, as, g, F, mq ks ot kp tp (0, f, e, v, 1) S mv))) : SF mn_M_institute Q 97 [some (.ref 43), some (.int n)] [] (0, 0) (gh x (r, as, g, F, mq ks ot kp tp (a, f, e, v, 1) S mv)) := by
  refine zgo hZ 999 16 rfl ?_
  exact ⟨nt, fun _ => k⟩
set_option maxRecDepth 100000 in
set_option maxHeartbeats 400000 in
theorem t_ins_86 {SM : zC} {SF : Nat → zQ → zP} (hZ : zZ SM SF) {Q : zQ} {x : zXs} {as g F ks ot : Nat → Int32} {kp : Int32} {S : Nat → zSh} {mv : Nat → Int64} {tp : Nat → Int32} {r : Nat → Int32} {a f e v n : Int32} (k : SF mn_M_institute Q 97 [some (.ref 43), some (.int n)] [] (0, 0) (gh x (r, as, g, F, mq ks ot kp tp (a, f, e, v, 0) S mv))) : SF mn_M_institute Q 86 [some (.ref 43), some (.int n)] [] (0, 0) (gh x (r, as, g, F, mq ks ot kp tp (a, f, e, v, 0) S mv)) := by
  refine zgo hZ 97 5 rfl ?_
  exact ⟨fun _ => k, nf⟩
set_option maxRecDepth 100000 in
set_option maxHeartbeats 400000 in
theorem t_ins_86w {SM : zC} {SF : Nat → zQ → zP} (hZ : zZ SM SF) {Q : zQ} {x : zXs} {as g F ks ot : Nat → Int32} {kp : Int32} {S : Nat → zSh} {mv : Nat → Int64} {tp : Nat → Int32} {r : Nat → Int32} {a f e v n : Int32} (k : SF mn_M_institute Q 97 [some (.ref 43), some (.int n)] [] (0, 0) (gh x (ot, as, g, F, mq ks ot kp tp (a, f, e, v, 1) S mv))) : SF mn_M_institute Q 86 [some (.ref 43), some (.int n)] [] (0, 0) (gh x (r, as, g, F, mq ks ot kp tp (a, f, e, v, 1) S mv)) := by
  refine zgo hZ 97 7 rfl ?_
  refine ⟨nt, fun _ => ?_⟩
  exact t_putsBack (s := r) (ot := ot) (ks := ks) (as := as) (g := g) (F := F) (q := (mq ks ot kp tp (a, f, e, v, 1) S mv).2.2) hZ k
set_option maxRecDepth 100000 in
set_option maxHeartbeats 400000 in
theorem t_ins_59w {SM : zC} {SF : Nat → zQ → zP} (hZ : zZ SM SF) {Q : zQ} {x : zXs} {as g F ks ot : Nat → Int32} {kp : Int32} {S : Nat → zSh} {mv : Nat → Int64} {tp : Nat → Int32} {r : Nat → Int32} {a f e v n : Int32} (k : SF mn_M_institute Q 86 [some (.ref 43), some (.int n)] [] (0, 0) (gh x (r, as, g, F, mq ks ot kp tp (a, f, e, v, 1) S mv))) : SF mn_M_institute Q 59 [some (.ref 43), some (.int n)] [] (0, 0) (gh x (r, as, g, F, mq ks ot kp tp (a, f, e, v, 1) S mv)) := by
  refine zgo hZ 86 8 rfl ?_
  exact ⟨fun _ => ⟨Or.inr rfl, k⟩, nt⟩
set_option maxRecDepth 100000 in
set_option maxHeartbeats 400000 in
theorem t_ins_59 {SM : zC} {SF : Nat → zQ → zP} (hZ : zZ SM SF) {Q : zQ} {x : zXs} {as g F ks ot : Nat → Int32} {kp : Int32} {S : Nat → zSh} {mv : Nat → Int64} {tp : Nat → Int32} {r : Nat → Int32} {tl s : Nat} (ht : tl ≤ 120) (hs : s ≤ tl) {e v n : Int32} (k1 : s < tl → SF mn_M_institute Q 86 [some (.ref 43), some (.int n)] [] (0, 0) (gh x (r, as, g, F, mq ks ot kp tp (nI tl, nI s, e, v, 1) S mv))) (k0 : ¬ s < tl → SF mn_M_institute Q 86 [some (.ref 43), some (.int n)] [] (0, 0) (gh x (r, as, g, F, mq ks ot kp tp (nI tl, nI s, e, v, 0) S mv))) : SF mn_M_institute Q 59 [some (.ref 43), some (.int n)] [] (0, 0) (gh x (r, as, g, F, mq ks ot kp tp (nI tl, nI s, e, v, 0) S mv)) := by
  refine zgo hZ 86 14 rfl ?_
  refine ⟨nf, fun _ => ⟨fun h => ⟨Or.inl rfl, k0 ?_⟩, fun h => ⟨Or.inr rfl, k1 ?_⟩⟩⟩
  · have := (ile rfl rfl (by omega) (by omega)).mp h
    omega
  · have h : ¬ tl ≤ s := fun z => h ((ile rfl rfl (by omega) (by omega)).mpr z)
    omega
set_option maxRecDepth 100000 in
set_option maxHeartbeats 400000 in
theorem t_ins_24w {SM : zC} {SF : Nat → zQ → zP} (hZ : zZ SM SF) {Q : zQ} {x : zXs} {as g F ks ot : Nat → Int32} {kp : Int32} {S : Nat → zSh} {mv : Nat → Int64} {tp : Nat → Int32} {r : Nat → Int32} {a f e v n : Int32} (k : SF mn_M_institute Q 59 [some (.ref 43), some (.int n)] [] (0, 0) (gh x (r, as, g, F, mq ks ot kp tp (a, f, e, v, 1) S mv))) : SF mn_M_institute Q 24 [some (.ref 43), some (.int n)] [] (0, 0) (gh x (r, as, g, F, mq ks ot kp tp (a, f, e, v, 1) S mv)) := by
  refine zgo hZ 59 4 rfl ?_
  exact ⟨fun _ => k, nt⟩
set_option maxRecDepth 100000 in
set_option maxHeartbeats 400000 in
theorem t_ins_24 {SM : zC} {SF : Nat → zQ → zP} (hZ : zZ SM SF) {Q : zQ} {x : zXs} {as g F ks ot : Nat → Int32} {kp : Int32} {S : Nat → zSh} {mv : Nat → Int64} {tl : Nat} {tp : Nat → Int32} {r : Nat → Int32} {v n e : Int32} (ht : tl ≤ 120) {s : Nat} (hs : s ≤ tl) {b : Int32} (eb : byt tp tl s = b) (k : SF mn_M_institute Q 39 [some (.ref 43), some (.int n)] [.int b] (0, 0) (gh x (r, as, g, F, mq ks ot kp tp (nI tl, nI s, e, v, 0) S mv))) : SF mn_M_institute Q 24 [some (.ref 43), some (.int n)] [] (0, 0) (gh x (r, as, g, F, mq ks ot kp tp (nI tl, nI s, e, v, 0) S mv)) := by
  refine zgo hZ 39 8 rfl ?_
  refine ⟨nf, fun _ => ?_⟩
  exact t_byteAt hZ ht (by omega) eb k
theorem t_ins_39 {SM : zC} {SF : Nat → zQ → zP} (hZ : zZ SM SF) {Q : zQ} {h : zH} {n b : Int32} (k1 : b = 59 → SF mn_M_institute Q 44 [some (.ref 43), some (.int n)] [] (0, 0) h) (k0 : ¬ b = 59 → SF mn_M_institute Q 59 [some (.ref 43), some (.int n)] [] (0, 0) h) : SF mn_M_institute Q 39 [some (.ref 43), some (.int n)] [.int b] (0, 0) h := by
  by_cases hb : b = 59
  · have k := k1 hb
    refine zgo hZ 44 4 rfl ?_
    exact ⟨fun z => absurd hb z, fun _ => k⟩
  · have k := k0 hb
    refine zgo hZ 59 4 rfl ?_
    exact ⟨fun _ => k, fun z => absurd z hb⟩
set_option maxRecDepth 100000 in
set_option maxHeartbeats 400000 in
theorem t_ins_44 {SM : zC} {SF : Nat → zQ → zP} (hZ : zZ SM SF) {Q : zQ} {x : zXs} {as g F ks ot : Nat → Int32} {kp : Int32} {S : Nat → zSh} {mv : Nat → Int64} {tl : Nat} {tp : Nat → Int32} {r : Nat → Int32} {v n : Int32} (ht : tl ≤ 120) {s : Nat} (hs : s ≤ tl) (k : SF mn_M_institute Q 49 [some (.ref 43), some (.int n)] [] (0, 0) (gh x (r, as, g, F, mq ks ot kp tp (nI tl, nI (nx tp tl s), nI (tkE tp tl (nx tp tl s)), v, 0) S mv))) : SF mn_M_institute Q 44 [some (.ref 43), some (.int n)] [] (0, 0) (gh x (r, as, g, F, mq ks ot kp tp (nI tl, nI s, nI (tkE tp tl s), v, 0) S mv)) := by
  refine zgo hZ 49 5 rfl ?_
  exact t_must1 hZ ht hs k
set_option maxRecDepth 100000 in
set_option maxHeartbeats 400000 in
theorem t_ins_49 {SM : zC} {SF : Nat → zQ → zP} (hZ : zZ SM SF) {Q : zQ} {x : zXs} {as g F ks ot : Nat → Int32} {kp : Int32} {S : Nat → zSh} {mv : Nat → Int64} {tp : Nat → Int32} {r : Nat → Int32} {R : zR} {n : Int32} (k : ∀ (Q' : zQ), (∀ h', SF mn_M_institute Q 24 [some (.ref 43), some (.int (n + 1))] [] (0, 0) h' → Q' none h') → SM mn_M_item [.ref 43] (gh x (r, as, g, F, mq ks ot kp tp (R) S mv)) Q') : SF mn_M_institute Q 49 [some (.ref 43), some (.int n)] [] (0, 0) (gh x (r, as, g, F, mq ks ot kp tp (R) S mv)) := by
  refine zgo hZ 24 6 rfl ?_
  exact k _ (fun h' q => q)
set_option maxRecDepth 100000 in
set_option maxHeartbeats 400000 in
theorem t_ins_20 {SM : zC} {SF : Nat → zQ → zP} (hZ : zZ SM SF) {Q : zQ} {x : zXs} {as g F ks ot : Nat → Int32} {kp : Int32} {S : Nat → zSh} {mv : Nat → Int64} {tp : Nat → Int32} {r : Nat → Int32} {R : zR} {n : Int32} (k : ∀ (Q' : zQ), (∀ h', SF mn_M_institute Q 24 [some (.ref 43), some (.int n)] [] (0, 0) h' → Q' none h') → SM mn_M_item [.ref 43] (gh x (r, as, g, F, mq ks ot kp tp (R) S mv)) Q') : SF mn_M_institute Q 20 [some (.ref 43), some (.int n)] [] (0, 0) (gh x (r, as, g, F, mq ks ot kp tp (R) S mv)) := by
  refine zgo hZ 24 4 rfl ?_
  exact k _ (fun h' q => q)
theorem t_ins_w {SM : zC} {SF : Nat → zQ → zP} (hZ : zZ SM SF) {Q : zQ} {x : zXs} {as g F ks ot : Nat → Int32} {kp : Int32} {S : Nat → zSh} {mv : Nat → Int64} {tp : Nat → Int32} {r : Nat → Int32} {a f e v n : Int32} (k : Q (some (.int (-1 - f))) (gh x (ot, as, g, F, mq ks ot kp tp (0, f, e, v, 1) S mv))) : SF mn_M_institute Q 24 [some (.ref 43), some (.int n)] [] (0, 0) (gh x (r, as, g, F, mq ks ot kp tp (a, f, e, v, 1) S mv)) :=
  t_ins_24w hZ (t_ins_59w hZ (t_ins_86w hZ (t_ins_97w hZ k)))
theorem t_ins_l {SM : zC} {SF : Nat → zQ → zP} (hZ : zZ SM SF) {Q : zQ} {x : zXs} {as g F ks ot : Nat → Int32} {kp : Int32} {S : Nat → zSh} {mv : Nat → Int64} {tl : Nat} {tp : Nat → Int32} {D : Nat} (ht : tl ≤ 120) : ∀ d σ s n v, n + d = 121 → 2 * n ≤ s + 1 → s ≤ tl → wf D σ → ((p_aft tp tl d σ s n).1 = true → ∀ R, Q (some (.int (nI (p_aft tp tl d σ s n).2.2))) (gh x (ec (p_aft tp tl d σ s n).2.1, as, g, F, mq ks ot kp tp (0, R) S mv))) → ((p_aft tp tl d σ s n).1 = false → ∀ R, Q (some (.int (-1 - nI (p_aft tp tl d σ s n).2.2))) (gh x (ot, as, g, F, mq ks ot kp tp (0, R) S mv))) → SF mn_M_institute Q 24 [some (.ref 43), some (.int (nI n))] [] (0, 0) (gh x (ec σ, as, g, F, mq ks ot kp tp (nI tl, nI s, nI (tkE tp tl s), v, 0) S mv)) := by
  intro d
  induction d with
  | zero =>
    intro σ s n v h1 h2 hs hw kt kf
    omega
  | succ d ih =>
    intro σ s n v h1 h2 hs hw kt kf
    have e : p_aft tp tl (d + 1) σ s n = if s < tl then (if tp s = 59 then (if (p_item tp tl σ (nx tp tl s)).1 = true then p_aft tp tl d (p_item tp tl σ (nx tp tl s)).2.1 (p_item tp tl σ (nx tp tl s)).2.2 (n + 1) else (false, σ, (p_item tp tl σ (nx tp tl s)).2.2)) else (false, σ, s)) else (true, σ, n) := rfl
    rw [e] at kt kf
    have r1 := nx_rng (tp := tp) hs
    by_cases hl : s < tl
    · rw [if_pos hl] at kt kf
      refine t_ins_24 hZ ht hs (byt_in hl) ?_
      refine t_ins_39 hZ (fun hb => ?_) (fun hb => ?_)
      · rw [if_pos hb] at kt kf
        refine t_ins_44 hZ ht hs ?_
        refine t_ins_49 hZ (fun Q' hQ' => ?_)
        obtain ⟨a1, a2⟩ := p_item_ok (tp := tp) hw r1.2.1
        have r1' := r1.2.2 hl
        refine t_item hZ hw ht r1.2.1 (fun hi u => hQ' _ ?_) (fun hi r u => hQ' _ ?_)
        · rw [if_pos hi] at kt kf
          obtain ⟨b1, b2⟩ := a2 hi
          rw [nI_1]
          exact ih _ _ (n + 1) u (by omega) (by omega) a1.2 b2 kt kf
        · rw [if_neg (by rw [hi]; decide)] at kf
          exact t_ins_w hZ (kf rfl _)
      · rw [if_neg hb] at kf
        refine t_ins_59 hZ ht hs (fun _ => ?_) (fun z => absurd hl z)
        exact t_ins_86w hZ (t_ins_97w hZ (kf rfl _))
    · rw [if_neg hl] at kt
      refine t_ins_24 hZ ht hs (b := -1) (by rw [show s = tl by omega]; exact byt_out) ?_
      refine t_ins_39 hZ (fun hb => absurd hb (by decide)) (fun _ => ?_)
      refine t_ins_59 hZ ht hs (fun z => absurd z hl) (fun _ => ?_)
      exact t_ins_86 hZ (t_ins_97 hZ (kt rfl _))
set_option maxRecDepth 100000 in
set_option maxHeartbeats 400000 in
theorem t_ins_0 {SM : zC} {SF : Nat → zQ → zP} (hZ : zZ SM SF) {Q : zQ} {x : zXs} {as g F ks ot : Nat → Int32} {kp : Int32} {S : Nat → zSh} {mv : Nat → Int64} {tl : Nat} {tp : Nat → Int32} {s : Nat → Int32} {R : Int32 × Int32 × Int32 × Int32} (k : SF mn_M_institute Q 14 [some (.ref 43), none] [] (0, 0) (gh x (s, as, g, F, mq ks s kp tp (nI tl, R.1, 0, R.2.2.1, 0) S mv))) : SM mn_M_institute [.ref 43] (gh x (s, as, g, F, mq ks ot kp tp (nI tl, R) S mv)) Q := by
  refine zin hZ 14 12 rfl rfl rfl ?_
  refine t_saves (s := s) (ot := ot) (ks := ks) (as := as) (g := g) (F := F) (q := (mq ks ot kp tp (nI tl, R) S mv).2.2) hZ ?_
  exact ⟨Or.inl rfl, k⟩
set_option maxRecDepth 100000 in
set_option maxHeartbeats 400000 in
theorem t_ins_14 {SM : zC} {SF : Nat → zQ → zP} (hZ : zZ SM SF) {Q : zQ} {x : zXs} {as g F ks ot : Nat → Int32} {kp : Int32} {S : Nat → zSh} {mv : Nat → Int64} {tl : Nat} {tp : Nat → Int32} {r : Nat → Int32} {f v : Int32} (ht : tl ≤ 120) (k : SF mn_M_institute Q 20 [some (.ref 43), some (.int (nI 1))] [] (0, 0) (gh x (r, as, g, F, mq ks ot kp tp (nI tl, nI (tkS tp tl 0), nI (tkE tp tl (tkS tp tl 0)), v, 0) S mv))) : SF mn_M_institute Q 14 [some (.ref 43), none] [] (0, 0) (gh x (r, as, g, F, mq ks ot kp tp (nI tl, f, nI 0, v, 0) S mv)) := by
  refine zgo hZ 20 6 rfl ?_
  exact t_token hZ ht (Nat.zero_le _) k
theorem m_institute {SM : zC} {SF : Nat → zQ → zP} (hZ : zZ SM SF) {Q : zQ} {x : zXs} {as g F ks ot : Nat → Int32} {kp : Int32} {S : Nat → zSh} {mv : Nat → Int64} {tl : Nat} {tp : Nat → Int32} {σ : zS} {R : Int32 × Int32 × Int32 × Int32} {D : Nat} (hw : wf D σ) (ht : tl ≤ 120) (k : ∀ R', Q (some (.int (sp_inst tp tl σ).1)) (gh x (ec (sp_inst tp tl σ).2, as, g, F, mq ks (ec σ) kp tp (0, R') S mv))) : SM mn_M_institute [.ref 43] (gh x (ec σ, as, g, F, mq ks ot kp tp (nI tl, R) S mv)) Q := by
  have hs := tkS_rng (tp := tp) (Nat.zero_le tl)
  obtain ⟨a1, a2⟩ := p_item_ok (tp := tp) hw hs.2
  unfold sp_inst p_txt at k
  refine t_ins_0 hZ ?_
  refine t_ins_14 hZ ht ?_
  refine t_ins_20 hZ (fun Q' hQ' => ?_)
  refine t_item hZ hw ht hs.2 (fun hi u => hQ' _ ?_) (fun hi r u => hQ' _ ?_)
  · rw [if_pos hi] at k
    obtain ⟨b1, b2⟩ := a2 hi
    refine t_ins_l hZ ht 120 _ _ 1 u (by omega) (by omega) a1.2 b2 (fun z R => ?_) (fun z R => ?_)
    · rw [if_pos z] at k
      exact k R
    · rw [if_neg (by rw [z]; decide)] at k
      exact k R
  · rw [if_neg (show ¬ (p_item tp tl σ (tkS tp tl 0)).1 = true by rw [hi]; decide)] at k
    rw [if_neg (fun z => ft z)] at k
    exact t_ins_w hZ (k _)
