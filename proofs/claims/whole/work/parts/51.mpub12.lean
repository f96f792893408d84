/-! THE REFERENCE'S CALLS, twelfth part: feed; tokens -/
/-- so many bytes of b onto a tape -/
def fd (b : Int32) : Nat → Nat → (Nat → Int32) → (Nat → Int32)
  | 0, _, tp => tp
  | d + 1, tl, tp => fd b d (tl + 1) (upd tp tl (b >>> ((8 * nI d) &&& 31) &&& 255))
abbrev zA6 : Type := Int32 × (Nat → Int32) × Nat × (Nat → Int32)
def sp_feed (tp : Nat → Int32) (tl : Nat) (F : Nat → Int32) (b m : Int32) : zA6 :=
  if 1 ≤ m ∧ m ≤ 4 then (if 120 < tl + ix m then (-1000000002, tp, tl, upd F 1 (F 1 + 1)) else (nI (tl + ix m), fd b (ix m) tl tp, tl + ix m, F)) else (-1000000001, tp, tl, upd F 0 (F 0 + 1))
set_option maxRecDepth 100000 in
set_option maxHeartbeats 400000 in
theorem m_feed_l {SM : zC} {SF : Nat → zQ → zP} (hZ : zZ SM SF) {Q : zQ} {x : zXs} {s as g F ks ot : Nat → Int32} {kp : Int32} {R : Int32 × Int32 × Int32 × Int32} {S : Nat → zSh} {mv : Nat → Int64} {b m : Int32} : ∀ d tl tp, tl + d ≤ 120 → d ≤ 4 → Q (some (.int (nI (tl + d)))) (gh x (s, as, g, F, mq ks ot kp (fd b d tl tp) (nI (tl + d), R) S mv)) → SF mn_M_feed Q 41 [some (.ref 43), some (.int b), some (.int m), some (.int (nI d - 1))] [] (0, 0) (gh x (s, as, g, F, mq ks ot kp tp (nI tl, R) S mv)) := by
  intro d
  induction d with
  | zero =>
    intro tl tp h1 h2 k
    refine zgo hZ 41 99 rfl ?_
    exact ⟨fun _ => k, fun h => absurd (show nI 0 - 1 < 0 by decide) h⟩
  | succ d ih =>
    intro tl tp h1 h2 k
    have e1 : nI (d + 1) - 1 = nI d := by rw [← nI_1]; exact Int32.add_sub_cancel _ _
    rw [e1]
    have h := ih (tl + 1) (upd tp tl (b >>> ((8 * nI d) &&& 31) &&& 255)) (by omega) (by omega) (by rw [show tl + 1 + d = tl + (d + 1) by omega]; exact k)
    refine zgo hZ 41 99 rfl ?_
    refine ⟨fun h3 => ?_, fun _ => ?_⟩
    · have h3 : nI d < 0 := h3
      rw [zlt, nI_toInt (by omega), show (0 : Int32).toInt = 0 by decide] at h3
      omega
    refine ⟨tl, by omega, rfl, ?_⟩
    rw [← nI_1 tl, show nI d - 1 = nI d + -1 by rw [Int32.sub_eq_add_neg]] at h
    exact h
set_option maxRecDepth 100000 in
set_option maxHeartbeats 400000 in
theorem m_feed {SM : zC} {SF : Nat → zQ → zP} (hZ : zZ SM SF) {Q : zQ} {x : zXs} {s as g F ks ot : Nat → Int32} {kp : Int32} {R : Int32 × Int32 × Int32 × Int32} {S : Nat → zSh} {mv : Nat → Int64} {b m : Int32} {tl : Nat} {tp : Nat → Int32} (ht : tl ≤ 120) (k : Q (some (.int (sp_feed tp tl F b m).1)) (gh x (s, as, g, (sp_feed tp tl F b m).2.2.2, mq ks ot kp (sp_feed tp tl F b m).2.1 (nI (sp_feed tp tl F b m).2.2.1, R) S mv))) : SM mn_M_feed [.ref 43, .int b, .int m] (gh x (s, as, g, F, mq ks ot kp tp (nI tl, R) S mv)) Q := by
  unfold sp_feed at k
  refine zin hZ 41 99 rfl rfl rfl ?_
  refine t_inI hZ m 1 4 rfl (by decide) (by decide) (fun h1 h2 => ⟨fun _ => ?_, nt⟩) (fun h1 => ⟨nf, fun _ => ?_⟩)
  · rw [if_pos ⟨h1, h2⟩] at k
    obtain ⟨v, hv1, hv2, rfl, hv3⟩ := rng_get (w := m) (a := 1) (b := 4) (by omega) h1 h2 (by omega)
    rw [hv3] at k
    have e : nI tl + nI v ≤ 120 ↔ tl + v ≤ 120 := ile (n := 120) (nI_add tl v) rfl (by omega) (by omega)
    refine ⟨fun h3 => ?_, fun h3 => ?_⟩
    · have h3 := e.mp h3
      rw [if_neg (by omega)] at k
      exact m_feed_l hZ v tl tp h3 hv2 k
    · have h3 : ¬ tl + v ≤ 120 := fun z => h3 (e.mpr z)
      rw [if_pos (by omega)] at k
      exact t_finds hZ 1 (by decide) rfl k
  · rw [if_neg h1] at k
    exact t_finds hZ 0 (by decide) rfl k
/-- letters, digits; the byte at a place, -1 behind the last -/
abbrev lt (b : Int32) : Prop := 97 ≤ b ∧ b ≤ 122
abbrev dg (b : Int32) : Prop := 48 ≤ b ∧ b ≤ 57
def byt (tp : Nat → Int32) (tl j : Nat) : Int32 := if j < tl then tp j else -1
theorem t_isLetter {SM : zC} {SF : Nat → zQ → zP} (hZ : zZ SM SF) {Q : zQ} {h : zH} {b : Int32} (kt : lt b → Q (some (.int 1)) h) (kf : ¬ lt b → Q (some (.int 0)) h) : SM mn_M_isLetter [.int b] h Q := by
  refine zin hZ 999 50 rfl rfl rfl ?_
  exact t_inI hZ b 97 122 rfl (by decide) (by decide) (fun h1 h2 => ⟨Or.inr rfl, kt ⟨h1, h2⟩⟩) (fun h1 => ⟨Or.inl rfl, kf h1⟩)
theorem t_isDigit {SM : zC} {SF : Nat → zQ → zP} (hZ : zZ SM SF) {Q : zQ} {h : zH} {b : Int32} (kt : dg b → Q (some (.int 1)) h) (kf : ¬ dg b → Q (some (.int 0)) h) : SM mn_M_isDigit [.int b] h Q := by
  refine zin hZ 999 50 rfl rfl rfl ?_
  exact t_inI hZ b 48 57 rfl (by decide) (by decide) (fun h1 h2 => ⟨Or.inr rfl, kt ⟨h1, h2⟩⟩) (fun h1 => ⟨Or.inl rfl, kf h1⟩)
theorem t_byteAt {SM : zC} {SF : Nat → zQ → zP} (hZ : zZ SM SF) {Q : zQ} {x : zXs} {s as g F ks ot : Nat → Int32} {kp : Int32} {R : Int32 × Int32 × Int32 × Int32} {S : Nat → zSh} {mv : Nat → Int64} {tl : Nat} {tp : Nat → Int32} (ht : tl ≤ 120) {j : Nat} (hj : j ≤ 120) {b : Int32} (e0 : byt tp tl j = b) (k : Q (some (.int b)) (gh x (s, as, g, F, mq ks ot kp tp (nI tl, R) S mv))) : SM mn_M_byteAt [.ref 43, .int (nI j)] (gh x (s, as, g, F, mq ks ot kp tp (nI tl, R) S mv)) Q := by
  subst e0
  unfold byt at k
  refine zin hZ 999 50 rfl rfl rfl ?_
  have e : nI tl ≤ nI j ↔ tl ≤ j := ile rfl rfl (by omega) (by omega)
  refine ⟨fun h => ?_, fun h => ?_⟩
  · have h := e.mp h
    rw [if_neg (by omega)] at k
    exact k
  · have h : ¬ tl ≤ j := fun z => h (e.mpr z)
    rw [if_pos (by omega)] at k
    exact ⟨j, by omega, rfl, k⟩
theorem fst1_0 {p : Nat → Bool} {a : Nat} : fst1 p a 0 = a := rfl
/-- where a token begins, from a place on; where it ends -/
def tkS (tp : Nat → Int32) (tl p : Nat) : Nat := fst1 (fun l => !decide (tp l = 32)) p (tl - p)
def tkE (tp : Nat → Int32) (tl s : Nat) : Nat :=
  if s < tl then (if lt (tp s) then fst1 (fun l => !decide (lt (tp l))) (s + 1) (tl - (s + 1)) else if dg (tp s) then fst1 (fun l => !decide (dg (tp l))) (s + 1) (tl - (s + 1)) else s + 1) else s
theorem byt_in {tp : Nat → Int32} {tl j : Nat} (h : j < tl) : byt tp tl j = tp j := by unfold byt; rw [if_pos h]
theorem byt_out {tp : Nat → Int32} {tl : Nat} : byt tp tl tl = -1 := by unfold byt; rw [if_neg (by omega)]
theorem lt_m1 : ¬ lt (-1) := by decide
theorem dg_m1 : ¬ dg (-1) := by decide
set_option maxRecDepth 100000 in
set_option maxHeartbeats 400000 in
theorem t_token_s {SM : zC} {SF : Nat → zQ → zP} (hZ : zZ SM SF) {Q : zQ} {x : zXs} {s as g F ks ot : Nat → Int32} {kp : Int32} {R : Int32 × Int32 × Int32} {S : Nat → zSh} {mv : Nat → Int64} {tl : Nat} {tp : Nat → Int32} (ht : tl ≤ 120) : ∀ d j, j + d = tl → SF mn_M_token Q 34 [some (.ref 43), none, none] [] (0, 0) (gh x (s, as, g, F, mq ks ot kp tp (nI tl, nI (fst1 (fun l => !decide (tp l = 32)) j d), R) S mv)) → SF mn_M_token Q 8 [some (.ref 43), none, none] [] (0, 0) (gh x (s, as, g, F, mq ks ot kp tp (nI tl, nI j, R) S mv)) := by
  intro d
  induction d with
  | zero =>
    intro j hj k
    refine zgo hZ 34 60 rfl ?_
    refine t_byteAt hZ ht (by omega) (b := -1) (by rw [show j = tl by omega]; exact byt_out) ?_
    rw [fst1_0] at k
    exact ⟨fun _ => k, fun h => absurd h (by decide)⟩
  | succ d ih =>
    intro j hj k
    rw [fst1_s] at k
    refine zgo hZ 999 5 rfl ?_
    refine t_byteAt hZ ht (by omega) (byt_in (by omega)) ?_
    refine ⟨fun h => ?_, fun h => ?_⟩
    · have h : ¬ tp j = 32 := h
      rw [if_pos (by simp [h])] at k
      exact k
    · have h : tp j = 32 := h
      rw [if_neg (by simp [h])] at k
      have h2 := ih (j + 1) (by omega) k
      rw [← nI_1 j] at h2
      refine zgo hZ 8 60 rfl ?_
      exact h2
