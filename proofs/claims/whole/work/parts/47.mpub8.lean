/-! THE REFERENCE'S CALLS, eighth part: image, undo, tear, wipe, count, status -/
/-- the sheets' numbers in one row -/
def nb (S : Nat → zSh) : Nat → Int64 := fun k => (S (k / 40)).2.2 (k % 40)
/-- the rest of the reference -/
def mq (ks ot : Nat → Int32) (kp : Int32) (tp : Nat → Int32) (R : zR) (S : Nat → zSh) (mv : Nat → Int64) : zMq := (ks, ot, kp, tp, R, fun s => (S s).1, fun s => (S s).2.1, nb S, mv)
theorem m_wipe {SM : zC} {SF : Nat → zQ → zP} (hZ : zZ SM SF) {Q : zQ} {x : zXs} {s as g F ks ot : Nat → Int32} {kp : Int32} {tp : Nat → Int32} {R : zR} {S : Nat → zSh} {mv : Nat → Int64} (k : Q (some (.int R.1)) (gh x (s, as, g, F, mq ks ot kp tp (0, R.2) S mv))) : SM mn_M_wipe [.ref 43] (gh x (s, as, g, F, mq ks ot kp tp R S mv)) Q := by
  refine zin hZ 999 50 rfl rfl rfl ?_
  exact k
theorem m_tear {SM : zC} {SF : Nat → zQ → zP} (hZ : zZ SM SF) {Q : zQ} {x : zXs} {s as g F ks ot : Nat → Int32} {kp : Int32} {tp : Nat → Int32} {R : zR} {S : Nat → zSh} {mv : Nat → Int64} (hk : kp = 0 ∨ kp = 1) (k : Q (some (.int kp)) (gh x (s, as, g, F, mq ks ot 0 tp R S mv))) : SM mn_M_tear [.ref 43] (gh x (s, as, g, F, mq ks ot kp tp R S mv)) Q := by
  refine zin hZ 999 50 rfl rfl rfl ?_
  refine ⟨fun h => ?_, fun h => ?_⟩
  · rw [show kp = 0 from h] at k
    exact ⟨Or.inl rfl, k⟩
  · have h1 : kp = 1 := by
      rcases hk with h2 | h2
      · exact absurd h2 h
      · exact h2
    rw [h1] at k
    exact ⟨Or.inl rfl, k⟩
set_option maxRecDepth 100000 in
set_option maxHeartbeats 400000 in
theorem m_image_l {SM : zC} {SF : Nat → zQ → zP} (hZ : zZ SM SF) {Q : zQ} {x : zXs} {s as g F ks ot : Nat → Int32} {kp : Int32} {tp : Nat → Int32} {R : zR} {S : Nat → zSh} {mv : Nat → Int64} (k : Q (some (.int 1)) (gh x (s, as, g, F, mq s ot 1 tp R S mv))) : ∀ d j, j + d = 68 → SF mn_M_image Q 2 [some (.ref 43), some (.int (nI j))] [] (0, 0) (gh x (s, as, g, F, mq (cpf s ks j) ot kp tp R S mv)) := by
  intro d
  induction d with
  | zero =>
    intro j hj
    have hj : j = 68 := by omega
    subst hj
    refine zsame hZ (gh x (s, as, g, F, mq s ot kp tp R S mv)) (eH_M (q := mq ks ot kp tp R S mv) (fun j hj => rfl) (fun j hj => rfl) (fun j hj => cpf_in hj) (fun j hj => rfl)) ?_
    refine zgo hZ 2 60 rfl ?_
    refine ⟨fun hc => ?_, fun hc => ?_⟩
    · exact ⟨Or.inr rfl, k⟩
    · exact absurd (show (68 : Int32) ≤ nI 68 by decide) hc
  | succ d ih =>
    intro j hj
    have h1 := ih (j + 1) (by omega)
    rw [← cpf_s, ← nI_1] at h1
    refine zgo hZ 2 60 rfl ?_
    refine ⟨fun hc => ?_, fun hc => ?_⟩
    · have := (ile (a := 68) (m := 68) rfl rfl (by omega) (by omega)).mp hc
      omega
    · refine ⟨j, by omega, rfl, j, by omega, rfl, ?_⟩
      exact h1
theorem m_image {SM : zC} {SF : Nat → zQ → zP} (hZ : zZ SM SF) {Q : zQ} {x : zXs} {s as g F ks ot : Nat → Int32} {kp : Int32} {tp : Nat → Int32} {R : zR} {S : Nat → zSh} {mv : Nat → Int64} (k : Q (some (.int 1)) (gh x (s, as, g, F, mq s ot 1 tp R S mv))) : SM mn_M_image [.ref 43] (gh x (s, as, g, F, mq ks ot kp tp R S mv)) Q := by
  refine zin hZ 2 60 rfl rfl rfl ?_
  have h := m_image_l (s := s) (ks := ks) (kp := kp) hZ k 68 0 (by omega)
  rw [cpf_0] at h
  exact h
set_option maxRecDepth 100000 in
set_option maxHeartbeats 400000 in
theorem m_undo_l {SM : zC} {SF : Nat → zQ → zP} (hZ : zZ SM SF) {Q : zQ} {x : zXs} {s as g F ks ot : Nat → Int32} {kp : Int32} {tp : Nat → Int32} {R : zR} {S : Nat → zSh} {mv : Nat → Int64} (k : Q (some (.int (ks 2))) (gh x (ks, as, g, F, mq ks ot kp tp R S mv))) : ∀ d j, j + d = 68 → SF mn_M_undo Q 16 [some (.ref 43), some (.int (nI j))] [] (0, 0) (gh x (cpf ks s j, as, g, F, mq ks ot kp tp R S mv)) := by
  intro d
  induction d with
  | zero =>
    intro j hj
    have hj : j = 68 := by omega
    subst hj
    refine zsame hZ (gh x (ks, as, g, F, mq ks ot kp tp R S mv)) (eH_M (q := mq ks ot kp tp R S mv) (fun j hj => cpf_in hj) (fun j hj => rfl) (fun j hj => rfl) (fun j hj => rfl)) ?_
    refine zgo hZ 16 60 rfl ?_
    refine ⟨fun hc => ?_, fun hc => ?_⟩
    · exact ⟨2, by decide, rfl, k⟩
    · exact absurd (show (68 : Int32) ≤ nI 68 by decide) hc
  | succ d ih =>
    intro j hj
    have h1 := ih (j + 1) (by omega)
    rw [← cpf_s, ← nI_1] at h1
    refine zgo hZ 16 60 rfl ?_
    refine ⟨fun hc => ?_, fun hc => ?_⟩
    · have := (ile (a := 68) (m := 68) rfl rfl (by omega) (by omega)).mp hc
      omega
    · refine ⟨j, by omega, rfl, j, by omega, rfl, ?_⟩
      exact h1
/-- nothing is kept -/
theorem m_undo0 {SM : zC} {SF : Nat → zQ → zP} (hZ : zZ SM SF) {Q : zQ} {x : zXs} {s as g F ks ot : Nat → Int32} {tp : Nat → Int32} {R : zR} {S : Nat → zSh} {mv : Nat → Int64} (k : Q (some (.int (-1000000004))) (gh x (s, as, g, upd F 3 (F 3 + 1), mq ks ot 0 tp R S mv))) : SM mn_M_undo [.ref 43] (gh x (s, as, g, F, mq ks ot 0 tp R S mv)) Q := by
  refine zin hZ 16 60 rfl rfl rfl ?_
  refine ⟨fun h => absurd rfl h, fun _ => ?_⟩
  exact t_finds hZ 3 (by decide) rfl k
theorem m_undo1 {SM : zC} {SF : Nat → zQ → zP} (hZ : zZ SM SF) {Q : zQ} {x : zXs} {s as g F ks ot : Nat → Int32} {tp : Nat → Int32} {R : zR} {S : Nat → zSh} {mv : Nat → Int64} (k : Q (some (.int (ks 2))) (gh x (ks, as, g, F, mq ks ot 1 tp R S mv))) : SM mn_M_undo [.ref 43] (gh x (s, as, g, F, mq ks ot 1 tp R S mv)) Q := by
  refine zin hZ 16 60 rfl rfl rfl ?_
  refine ⟨fun _ => ?_, fun h => nt h⟩
  have h := m_undo_l (s := s) (ks := ks) (kp := 1) hZ k 68 0 (by omega)
  rw [cpf_0] at h
  exact h
def sp_count (σ : zS) (F : Nat → Int32) (tl w : Int32) : zA3 := if w = 0 then (σ 8 2, σ, F) else if w = 1 then (σ 8 3, σ, F) else if w = 2 then (tl, σ, F) else if w = 3 then (zsum (σ 4) (nn σ), σ, F) else bey σ F
set_option maxRecDepth 100000 in
set_option maxHeartbeats 400000 in
theorem m_count {SM : zC} {SF : Nat → zQ → zP} (hZ : zZ SM SF) {Q : zQ} {x : zXs} {σ : zS} {as g F ks ot : Nat → Int32} {kp : Int32} {tp : Nat → Int32} {R : zR} {S : Nat → zSh} {mv : Nat → Int64} {D : Nat} (hw : wf D σ) {w : Int32} (k : Q (some (.int (sp_count σ F R.1 w).1)) (gh x (ec (sp_count σ F R.1 w).2.1, as, g, (sp_count σ F R.1 w).2.2, mq ks ot kp tp R S mv))) : SM mn_M_count [.ref 43, .int w] (gh x (ec σ, as, g, F, mq ks ot kp tp R S mv)) Q := by
  unfold sp_count at k
  refine zin hZ 999 60 rfl rfl rfl ?_
  refine ⟨fun h0 => ?_, fun h0 => ⟨fun h1 => ?_, fun h1 => ⟨fun h2 => ?_, fun h2 => ⟨fun h3 => ?_, fun h3 => ?_⟩⟩⟩⟩
  · rw [if_pos (show w = 0 from h0), show (σ 8 2 : Int32) = ec σ 2 from (ec_c (by decide)).symm] at k
    exact ⟨2, by decide, rfl, k⟩
  · rw [if_neg (show ¬ w = 0 from h0), if_pos (show w = 1 from h1), show (σ 8 3 : Int32) = ec σ 3 from (ec_c (by decide)).symm] at k
    exact ⟨3, by decide, rfl, k⟩
  · rw [if_neg (show ¬ w = 0 from h0), if_neg (show ¬ w = 1 from h1), if_pos (show w = 2 from h2)] at k
    exact k
  · rw [if_neg (show ¬ w = 0 from h0), if_neg (show ¬ w = 1 from h1), if_neg (show ¬ w = 2 from h2), if_pos (show w = 3 from h3)] at k
    exact t_together hZ (w := 4) hw.2.2.2.1.1 hw.2.2.2.1.2 (by decide) k
  · rw [if_neg (show ¬ w = 0 from h0), if_neg (show ¬ w = 1 from h1), if_neg (show ¬ w = 2 from h2), if_neg (show ¬ w = 3 from h3)] at k
    exact t_finds hZ 0 (by decide) rfl k
def stf (F : Nat → Int32) (w : Int32) : Nat → Int32 := fun j => if w < 0 ∨ nI j = w then F j else 0
def sp_status (σ : zS) (F : Nat → Int32) (w : Int32) : zA3 := if -1 ≤ w ∧ w ≤ 6 then (zsum (stf F w) 7, σ, F) else bey σ F
set_option maxRecDepth 100000 in
set_option maxHeartbeats 400000 in
theorem m_status_l {SM : zC} {SF : Nat → zQ → zP} (hZ : zZ SM SF) {Q : zQ} {x : zXs} {s as g F : Nat → Int32} {q : zMq} {w : Int32} (k : Q (some (.int (zsum (stf F w) 7))) (gh x (s, as, g, F, q))) : ∀ d j, j + d = 7 → SF mn_M_status Q 25 [some (.ref 43), some (.int w), some (.int (zsum (stf F w) j)), some (.int (nI j))] [] (0, 0) (gh x (s, as, g, F, q)) := by
  intro d
  induction d with
  | zero =>
    intro j hj
    have hj : j = 7 := by omega
    subst hj
    refine zgo hZ 25 60 rfl ?_
    refine ⟨fun hc => ?_, fun hc => ?_⟩
    · exact k
    · exact absurd (show (7 : Int32) ≤ nI 7 by decide) hc
  | succ d ih =>
    intro j hj
    have h1 := ih (j + 1) (by omega)
    rw [← nI_1] at h1
    refine zgo hZ 25 60 rfl ?_
    refine ⟨fun hc => ?_, fun hc => ?_⟩
    · have := (ile (a := 7) (m := 7) rfl rfl (by omega) (by omega)).mp hc
      omega
    · refine ⟨fun h2 => ?_, fun h2 => ⟨fun h3 => ?_, fun h3 => ?_⟩⟩
      · refine ⟨j, by omega, rfl, ?_⟩
        rw [show zsum (stf F w) (j + 1) = zsum (stf F w) j + F j by show zsum (stf F w) j + stf F w j = _; rw [show stf F w j = F j from if_pos (Or.inl h2)]] at h1
        exact h1
      · rw [show zsum (stf F w) (j + 1) = zsum (stf F w) j + 0 by show zsum (stf F w) j + stf F w j = _; rw [show stf F w j = 0 from if_neg (fun z => z.elim h2 h3)]] at h1
        exact h1
      · refine ⟨j, by omega, rfl, ?_⟩
        rw [show zsum (stf F w) (j + 1) = zsum (stf F w) j + F j by show zsum (stf F w) j + stf F w j = _; rw [show stf F w j = F j from if_pos (Or.inr h3)]] at h1
        exact h1
theorem m_status {SM : zC} {SF : Nat → zQ → zP} (hZ : zZ SM SF) {Q : zQ} {x : zXs} {σ : zS} {as g F : Nat → Int32} {q : zMq} {w : Int32} (k : Q (some (.int (sp_status σ F w).1)) (gh x (ec (sp_status σ F w).2.1, as, g, (sp_status σ F w).2.2, q))) : SM mn_M_status [.ref 43, .int w] (gh x (ec σ, as, g, F, q)) Q := by
  unfold sp_status at k
  refine zin hZ 25 60 rfl rfl rfl ?_
  refine t_inI hZ w (-1) 6 rfl (by decide) (by decide) (fun h1 h2 => ⟨fun _ => ?_, nt⟩) (fun h1 => ⟨nf, fun _ => ?_⟩)
  · rw [if_pos ⟨h1, h2⟩] at k
    exact m_status_l hZ k 7 0 (by omega)
  · rw [if_neg h1] at k
    exact t_finds hZ 0 (by decide) rfl k
