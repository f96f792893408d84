/-! THE CLASS'S CALLS, fifth part: copy, lays, book, read -/
def cp1 (S : Nat → zSh) (F : Nat → Int32) (s : Nat) (a : Int32) (t : Nat) (p n : Int32) : zA4 :=
    (if (S s).1 = 0 ∨ (S t).1 = 0 then (-1000000006, S, upd F 5 (F 5 + 1))
     else if (S s).1 = (S t).1 then
       (if (0 ≤ a ∧ 0 ≤ p ∧ 0 ≤ n) ∧ n.toInt ≤ (sz S s : Int) - a.toInt ∧ n.toInt ≤ (sz S t : Int) - p.toInt then
          (n, cpS S t (fun l => (S s).2.2 (ix a + l)) (ix p) (ix n), F)
        else (-1000000001, S, upd F 0 (F 0 + 1)))
     else (-1000000003, S, upd F 2 (F 2 + 1)))
theorem sp_copy_y {S : Nat → zSh} {F : Nat → Int32} {s t : Nat} {a p n : Int32} (hs : s < 4) (ht : t < 4) : sp_copy S F (nI s) a (nI t) p n = cp1 S F s a t p n := by
  have e1 : ix (nI s) = s := ix_nI (by omega)
  have e2 : ix (nI t) = t := ix_nI (by omega)
  unfold sp_copy cp1
  rw [if_pos ⟨zIn4.mp ⟨s, hs, rfl⟩, zIn4.mp ⟨t, ht, rfl⟩⟩, e1, e2]
set_option maxRecDepth 100000 in
set_option maxHeartbeats 400000 in
theorem c_copy00 {SM : zC} {SF : Nat → zQ → zP} (hZ : zZ SM SF) {Q : zQ} {H A K : zHl} {kp : Int32} {T : zTp} {S : Nat → zSh} {F : Nat → Int32} {m : zMs} (hS : wS S) {a p n : Int32} (k : Q (some (.int (sp_copy S F (nI 0) a (nI 0) p n).1)) (gh (H, A, K, kp, T, (sp_copy S F (nI 0) a (nI 0) p n).2.1, (sp_copy S F (nI 0) a (nI 0) p n).2.2) m)) : SF mn_X_copy Q 37 [some (.ref 0), some (.int (nI 0)), some (.int a), some (.int (nI 0)), some (.int p), some (.int n), some (.ref 34), some (.ref 34)] [] (0, 0) (gh (H, A, K, kp, T, S, F) m) := by
  obtain ⟨hc1, hc2⟩ := hS 0 (by decide)
  obtain ⟨ht1, ht2⟩ := hS 0 (by decide)
  have e0 : (0 : Int32).toInt = 0 := by decide
  rw [sp_copy_y (show 0 < 4 by decide) (show 0 < 4 by decide)] at k
  unfold cp1 at k
  refine zgo hZ 999 70 rfl ?_
  refine c_isMissing0 hZ (fun h1 => ⟨fun _ => ?_, nt⟩) (fun h1 => ⟨nf, fun _ => ?_⟩)
  · rw [if_pos (Or.inl h1)] at k
    exact c_tell hZ 5 (by decide) rfl k
  · refine c_isMissing0 hZ (fun h2 => ⟨nt, fun _ => ?_⟩) (fun h2 => ⟨fun _ => ?_, nf⟩)
    · rw [if_pos (Or.inr h2)] at k
      exact c_tell hZ 5 (by decide) rfl k
    · rw [if_neg (fun z => z.elim h1 h2)] at k
      refine ⟨fun h3 => ?_, fun h3 => ?_⟩
      · rw [if_pos (show (S 0).1 = (S 0).1 from h3)] at k
        refine c_hasRun0 hZ hc1 hc2 (fun a1 a2 a3 => ⟨nt, fun _ => ?_⟩) (fun a1 => ⟨fun _ => ?_, nf⟩)
        · refine c_hasRun0 hZ ht1 ht2 (fun b1 b2 b3 => ⟨fun _ => ?_, nt⟩) (fun b1 => ⟨nf, fun _ => ?_⟩)
          · rw [if_pos ⟨⟨a1, b1, a2⟩, a3, b3⟩] at k
            obtain ⟨a, ha, rfl⟩ := nI_of (x := a) (by rw [zle] at a1; rw [zlt]; omega)
            obtain ⟨p, hp, rfl⟩ := nI_of (x := p) (by rw [zle] at b1; rw [zlt]; omega)
            obtain ⟨n, hn, rfl⟩ := nI_of (x := n) (by rw [zle] at a2; rw [zlt]; omega)
            rw [nI_toInt ha, nI_toInt hn] at a3
            rw [nI_toInt hp, nI_toInt hn] at b3
            rw [show ix (nI a) = a from ix_nI (by omega), show ix (nI p) = p from ix_nI (by omega), show ix (nI n) = n from ix_nI (by omega)] at k
            exact ⟨n, p, a, rfl, rfl, rfl, by omega, by omega, by decide, by decide, k⟩
          · rw [if_neg (fun z => b1 ⟨z.1.2.1, z.1.2.2, z.2.2⟩)] at k
            exact c_tell hZ 0 (by decide) rfl k
        · rw [if_neg (fun z => a1 ⟨z.1.1, z.1.2.2, z.2.1⟩)] at k
          exact c_tell hZ 0 (by decide) rfl k
      · rw [if_neg (show ¬ (S 0).1 = (S 0).1 from h3)] at k
        exact c_tell hZ 2 (by decide) rfl k
set_option maxRecDepth 100000 in
set_option maxHeartbeats 400000 in
theorem c_copy01 {SM : zC} {SF : Nat → zQ → zP} (hZ : zZ SM SF) {Q : zQ} {H A K : zHl} {kp : Int32} {T : zTp} {S : Nat → zSh} {F : Nat → Int32} {m : zMs} (hS : wS S) {a p n : Int32} (k : Q (some (.int (sp_copy S F (nI 0) a (nI 1) p n).1)) (gh (H, A, K, kp, T, (sp_copy S F (nI 0) a (nI 1) p n).2.1, (sp_copy S F (nI 0) a (nI 1) p n).2.2) m)) : SF mn_X_copy Q 37 [some (.ref 0), some (.int (nI 0)), some (.int a), some (.int (nI 1)), some (.int p), some (.int n), some (.ref 34), some (.ref 36)] [] (0, 0) (gh (H, A, K, kp, T, S, F) m) := by
  obtain ⟨hc1, hc2⟩ := hS 0 (by decide)
  obtain ⟨ht1, ht2⟩ := hS 1 (by decide)
  have e0 : (0 : Int32).toInt = 0 := by decide
  rw [sp_copy_y (show 0 < 4 by decide) (show 1 < 4 by decide)] at k
  unfold cp1 at k
  refine zgo hZ 999 70 rfl ?_
  refine c_isMissing0 hZ (fun h1 => ⟨fun _ => ?_, nt⟩) (fun h1 => ⟨nf, fun _ => ?_⟩)
  · rw [if_pos (Or.inl h1)] at k
    exact c_tell hZ 5 (by decide) rfl k
  · refine c_isMissing1 hZ (fun h2 => ⟨nt, fun _ => ?_⟩) (fun h2 => ⟨fun _ => ?_, nf⟩)
    · rw [if_pos (Or.inr h2)] at k
      exact c_tell hZ 5 (by decide) rfl k
    · rw [if_neg (fun z => z.elim h1 h2)] at k
      refine ⟨fun h3 => ?_, fun h3 => ?_⟩
      · rw [if_pos (show (S 0).1 = (S 1).1 from h3)] at k
        refine c_hasRun0 hZ hc1 hc2 (fun a1 a2 a3 => ⟨nt, fun _ => ?_⟩) (fun a1 => ⟨fun _ => ?_, nf⟩)
        · refine c_hasRun1 hZ ht1 ht2 (fun b1 b2 b3 => ⟨fun _ => ?_, nt⟩) (fun b1 => ⟨nf, fun _ => ?_⟩)
          · rw [if_pos ⟨⟨a1, b1, a2⟩, a3, b3⟩] at k
            obtain ⟨a, ha, rfl⟩ := nI_of (x := a) (by rw [zle] at a1; rw [zlt]; omega)
            obtain ⟨p, hp, rfl⟩ := nI_of (x := p) (by rw [zle] at b1; rw [zlt]; omega)
            obtain ⟨n, hn, rfl⟩ := nI_of (x := n) (by rw [zle] at a2; rw [zlt]; omega)
            rw [nI_toInt ha, nI_toInt hn] at a3
            rw [nI_toInt hp, nI_toInt hn] at b3
            rw [show ix (nI a) = a from ix_nI (by omega), show ix (nI p) = p from ix_nI (by omega), show ix (nI n) = n from ix_nI (by omega)] at k
            exact ⟨n, p, a, rfl, rfl, rfl, by omega, by omega, by decide, by decide, k⟩
          · rw [if_neg (fun z => b1 ⟨z.1.2.1, z.1.2.2, z.2.2⟩)] at k
            exact c_tell hZ 0 (by decide) rfl k
        · rw [if_neg (fun z => a1 ⟨z.1.1, z.1.2.2, z.2.1⟩)] at k
          exact c_tell hZ 0 (by decide) rfl k
      · rw [if_neg (show ¬ (S 0).1 = (S 1).1 from h3)] at k
        exact c_tell hZ 2 (by decide) rfl k
set_option maxRecDepth 100000 in
set_option maxHeartbeats 400000 in
theorem c_copy02 {SM : zC} {SF : Nat → zQ → zP} (hZ : zZ SM SF) {Q : zQ} {H A K : zHl} {kp : Int32} {T : zTp} {S : Nat → zSh} {F : Nat → Int32} {m : zMs} (hS : wS S) {a p n : Int32} (k : Q (some (.int (sp_copy S F (nI 0) a (nI 2) p n).1)) (gh (H, A, K, kp, T, (sp_copy S F (nI 0) a (nI 2) p n).2.1, (sp_copy S F (nI 0) a (nI 2) p n).2.2) m)) : SF mn_X_copy Q 37 [some (.ref 0), some (.int (nI 0)), some (.int a), some (.int (nI 2)), some (.int p), some (.int n), some (.ref 34), some (.ref 38)] [] (0, 0) (gh (H, A, K, kp, T, S, F) m) := by
  obtain ⟨hc1, hc2⟩ := hS 0 (by decide)
  obtain ⟨ht1, ht2⟩ := hS 2 (by decide)
  have e0 : (0 : Int32).toInt = 0 := by decide
  rw [sp_copy_y (show 0 < 4 by decide) (show 2 < 4 by decide)] at k
  unfold cp1 at k
  refine zgo hZ 999 70 rfl ?_
  refine c_isMissing0 hZ (fun h1 => ⟨fun _ => ?_, nt⟩) (fun h1 => ⟨nf, fun _ => ?_⟩)
  · rw [if_pos (Or.inl h1)] at k
    exact c_tell hZ 5 (by decide) rfl k
  · refine c_isMissing2 hZ (fun h2 => ⟨nt, fun _ => ?_⟩) (fun h2 => ⟨fun _ => ?_, nf⟩)
    · rw [if_pos (Or.inr h2)] at k
      exact c_tell hZ 5 (by decide) rfl k
    · rw [if_neg (fun z => z.elim h1 h2)] at k
      refine ⟨fun h3 => ?_, fun h3 => ?_⟩
      · rw [if_pos (show (S 0).1 = (S 2).1 from h3)] at k
        refine c_hasRun0 hZ hc1 hc2 (fun a1 a2 a3 => ⟨nt, fun _ => ?_⟩) (fun a1 => ⟨fun _ => ?_, nf⟩)
        · refine c_hasRun2 hZ ht1 ht2 (fun b1 b2 b3 => ⟨fun _ => ?_, nt⟩) (fun b1 => ⟨nf, fun _ => ?_⟩)
          · rw [if_pos ⟨⟨a1, b1, a2⟩, a3, b3⟩] at k
            obtain ⟨a, ha, rfl⟩ := nI_of (x := a) (by rw [zle] at a1; rw [zlt]; omega)
            obtain ⟨p, hp, rfl⟩ := nI_of (x := p) (by rw [zle] at b1; rw [zlt]; omega)
            obtain ⟨n, hn, rfl⟩ := nI_of (x := n) (by rw [zle] at a2; rw [zlt]; omega)
            rw [nI_toInt ha, nI_toInt hn] at a3
            rw [nI_toInt hp, nI_toInt hn] at b3
            rw [show ix (nI a) = a from ix_nI (by omega), show ix (nI p) = p from ix_nI (by omega), show ix (nI n) = n from ix_nI (by omega)] at k
            exact ⟨n, p, a, rfl, rfl, rfl, by omega, by omega, by decide, by decide, k⟩
          · rw [if_neg (fun z => b1 ⟨z.1.2.1, z.1.2.2, z.2.2⟩)] at k
            exact c_tell hZ 0 (by decide) rfl k
        · rw [if_neg (fun z => a1 ⟨z.1.1, z.1.2.2, z.2.1⟩)] at k
          exact c_tell hZ 0 (by decide) rfl k
      · rw [if_neg (show ¬ (S 0).1 = (S 2).1 from h3)] at k
        exact c_tell hZ 2 (by decide) rfl k
set_option maxRecDepth 100000 in
set_option maxHeartbeats 400000 in
theorem c_copy03 {SM : zC} {SF : Nat → zQ → zP} (hZ : zZ SM SF) {Q : zQ} {H A K : zHl} {kp : Int32} {T : zTp} {S : Nat → zSh} {F : Nat → Int32} {m : zMs} (hS : wS S) {a p n : Int32} (k : Q (some (.int (sp_copy S F (nI 0) a (nI 3) p n).1)) (gh (H, A, K, kp, T, (sp_copy S F (nI 0) a (nI 3) p n).2.1, (sp_copy S F (nI 0) a (nI 3) p n).2.2) m)) : SF mn_X_copy Q 37 [some (.ref 0), some (.int (nI 0)), some (.int a), some (.int (nI 3)), some (.int p), some (.int n), some (.ref 34), some (.ref 40)] [] (0, 0) (gh (H, A, K, kp, T, S, F) m) := by
  obtain ⟨hc1, hc2⟩ := hS 0 (by decide)
  obtain ⟨ht1, ht2⟩ := hS 3 (by decide)
  have e0 : (0 : Int32).toInt = 0 := by decide
  rw [sp_copy_y (show 0 < 4 by decide) (show 3 < 4 by decide)] at k
  unfold cp1 at k
  refine zgo hZ 999 70 rfl ?_
  refine c_isMissing0 hZ (fun h1 => ⟨fun _ => ?_, nt⟩) (fun h1 => ⟨nf, fun _ => ?_⟩)
  · rw [if_pos (Or.inl h1)] at k
    exact c_tell hZ 5 (by decide) rfl k
  · refine c_isMissing3 hZ (fun h2 => ⟨nt, fun _ => ?_⟩) (fun h2 => ⟨fun _ => ?_, nf⟩)
    · rw [if_pos (Or.inr h2)] at k
      exact c_tell hZ 5 (by decide) rfl k
    · rw [if_neg (fun z => z.elim h1 h2)] at k
      refine ⟨fun h3 => ?_, fun h3 => ?_⟩
      · rw [if_pos (show (S 0).1 = (S 3).1 from h3)] at k
        refine c_hasRun0 hZ hc1 hc2 (fun a1 a2 a3 => ⟨nt, fun _ => ?_⟩) (fun a1 => ⟨fun _ => ?_, nf⟩)
        · refine c_hasRun3 hZ ht1 ht2 (fun b1 b2 b3 => ⟨fun _ => ?_, nt⟩) (fun b1 => ⟨nf, fun _ => ?_⟩)
          · rw [if_pos ⟨⟨a1, b1, a2⟩, a3, b3⟩] at k
            obtain ⟨a, ha, rfl⟩ := nI_of (x := a) (by rw [zle] at a1; rw [zlt]; omega)
            obtain ⟨p, hp, rfl⟩ := nI_of (x := p) (by rw [zle] at b1; rw [zlt]; omega)
            obtain ⟨n, hn, rfl⟩ := nI_of (x := n) (by rw [zle] at a2; rw [zlt]; omega)
            rw [nI_toInt ha, nI_toInt hn] at a3
            rw [nI_toInt hp, nI_toInt hn] at b3
            rw [show ix (nI a) = a from ix_nI (by omega), show ix (nI p) = p from ix_nI (by omega), show ix (nI n) = n from ix_nI (by omega)] at k
            exact ⟨n, p, a, rfl, rfl, rfl, by omega, by omega, by decide, by decide, k⟩
          · rw [if_neg (fun z => b1 ⟨z.1.2.1, z.1.2.2, z.2.2⟩)] at k
            exact c_tell hZ 0 (by decide) rfl k
        · rw [if_neg (fun z => a1 ⟨z.1.1, z.1.2.2, z.2.1⟩)] at k
          exact c_tell hZ 0 (by decide) rfl k
      · rw [if_neg (show ¬ (S 0).1 = (S 3).1 from h3)] at k
        exact c_tell hZ 2 (by decide) rfl k
set_option maxRecDepth 100000 in
set_option maxHeartbeats 400000 in
theorem c_copy10 {SM : zC} {SF : Nat → zQ → zP} (hZ : zZ SM SF) {Q : zQ} {H A K : zHl} {kp : Int32} {T : zTp} {S : Nat → zSh} {F : Nat → Int32} {m : zMs} (hS : wS S) {a p n : Int32} (k : Q (some (.int (sp_copy S F (nI 1) a (nI 0) p n).1)) (gh (H, A, K, kp, T, (sp_copy S F (nI 1) a (nI 0) p n).2.1, (sp_copy S F (nI 1) a (nI 0) p n).2.2) m)) : SF mn_X_copy Q 37 [some (.ref 0), some (.int (nI 1)), some (.int a), some (.int (nI 0)), some (.int p), some (.int n), some (.ref 36), some (.ref 34)] [] (0, 0) (gh (H, A, K, kp, T, S, F) m) := by
  obtain ⟨hc1, hc2⟩ := hS 1 (by decide)
  obtain ⟨ht1, ht2⟩ := hS 0 (by decide)
  have e0 : (0 : Int32).toInt = 0 := by decide
  rw [sp_copy_y (show 1 < 4 by decide) (show 0 < 4 by decide)] at k
  unfold cp1 at k
  refine zgo hZ 999 70 rfl ?_
  refine c_isMissing1 hZ (fun h1 => ⟨fun _ => ?_, nt⟩) (fun h1 => ⟨nf, fun _ => ?_⟩)
  · rw [if_pos (Or.inl h1)] at k
    exact c_tell hZ 5 (by decide) rfl k
  · refine c_isMissing0 hZ (fun h2 => ⟨nt, fun _ => ?_⟩) (fun h2 => ⟨fun _ => ?_, nf⟩)
    · rw [if_pos (Or.inr h2)] at k
      exact c_tell hZ 5 (by decide) rfl k
    · rw [if_neg (fun z => z.elim h1 h2)] at k
      refine ⟨fun h3 => ?_, fun h3 => ?_⟩
      · rw [if_pos (show (S 1).1 = (S 0).1 from h3)] at k
        refine c_hasRun1 hZ hc1 hc2 (fun a1 a2 a3 => ⟨nt, fun _ => ?_⟩) (fun a1 => ⟨fun _ => ?_, nf⟩)
        · refine c_hasRun0 hZ ht1 ht2 (fun b1 b2 b3 => ⟨fun _ => ?_, nt⟩) (fun b1 => ⟨nf, fun _ => ?_⟩)
          · rw [if_pos ⟨⟨a1, b1, a2⟩, a3, b3⟩] at k
            obtain ⟨a, ha, rfl⟩ := nI_of (x := a) (by rw [zle] at a1; rw [zlt]; omega)
            obtain ⟨p, hp, rfl⟩ := nI_of (x := p) (by rw [zle] at b1; rw [zlt]; omega)
            obtain ⟨n, hn, rfl⟩ := nI_of (x := n) (by rw [zle] at a2; rw [zlt]; omega)
            rw [nI_toInt ha, nI_toInt hn] at a3
            rw [nI_toInt hp, nI_toInt hn] at b3
            rw [show ix (nI a) = a from ix_nI (by omega), show ix (nI p) = p from ix_nI (by omega), show ix (nI n) = n from ix_nI (by omega)] at k
            exact ⟨n, p, a, rfl, rfl, rfl, by omega, by omega, by decide, by decide, k⟩
          · rw [if_neg (fun z => b1 ⟨z.1.2.1, z.1.2.2, z.2.2⟩)] at k
            exact c_tell hZ 0 (by decide) rfl k
        · rw [if_neg (fun z => a1 ⟨z.1.1, z.1.2.2, z.2.1⟩)] at k
          exact c_tell hZ 0 (by decide) rfl k
      · rw [if_neg (show ¬ (S 1).1 = (S 0).1 from h3)] at k
        exact c_tell hZ 2 (by decide) rfl k
set_option maxRecDepth 100000 in
set_option maxHeartbeats 400000 in
theorem c_copy11 {SM : zC} {SF : Nat → zQ → zP} (hZ : zZ SM SF) {Q : zQ} {H A K : zHl} {kp : Int32} {T : zTp} {S : Nat → zSh} {F : Nat → Int32} {m : zMs} (hS : wS S) {a p n : Int32} (k : Q (some (.int (sp_copy S F (nI 1) a (nI 1) p n).1)) (gh (H, A, K, kp, T, (sp_copy S F (nI 1) a (nI 1) p n).2.1, (sp_copy S F (nI 1) a (nI 1) p n).2.2) m)) : SF mn_X_copy Q 37 [some (.ref 0), some (.int (nI 1)), some (.int a), some (.int (nI 1)), some (.int p), some (.int n), some (.ref 36), some (.ref 36)] [] (0, 0) (gh (H, A, K, kp, T, S, F) m) := by
  obtain ⟨hc1, hc2⟩ := hS 1 (by decide)
  obtain ⟨ht1, ht2⟩ := hS 1 (by decide)
  have e0 : (0 : Int32).toInt = 0 := by decide
  rw [sp_copy_y (show 1 < 4 by decide) (show 1 < 4 by decide)] at k
  unfold cp1 at k
  refine zgo hZ 999 70 rfl ?_
  refine c_isMissing1 hZ (fun h1 => ⟨fun _ => ?_, nt⟩) (fun h1 => ⟨nf, fun _ => ?_⟩)
  · rw [if_pos (Or.inl h1)] at k
    exact c_tell hZ 5 (by decide) rfl k
  · refine c_isMissing1 hZ (fun h2 => ⟨nt, fun _ => ?_⟩) (fun h2 => ⟨fun _ => ?_, nf⟩)
    · rw [if_pos (Or.inr h2)] at k
      exact c_tell hZ 5 (by decide) rfl k
    · rw [if_neg (fun z => z.elim h1 h2)] at k
      refine ⟨fun h3 => ?_, fun h3 => ?_⟩
      · rw [if_pos (show (S 1).1 = (S 1).1 from h3)] at k
        refine c_hasRun1 hZ hc1 hc2 (fun a1 a2 a3 => ⟨nt, fun _ => ?_⟩) (fun a1 => ⟨fun _ => ?_, nf⟩)
        · refine c_hasRun1 hZ ht1 ht2 (fun b1 b2 b3 => ⟨fun _ => ?_, nt⟩) (fun b1 => ⟨nf, fun _ => ?_⟩)
          · rw [if_pos ⟨⟨a1, b1, a2⟩, a3, b3⟩] at k
            obtain ⟨a, ha, rfl⟩ := nI_of (x := a) (by rw [zle] at a1; rw [zlt]; omega)
            obtain ⟨p, hp, rfl⟩ := nI_of (x := p) (by rw [zle] at b1; rw [zlt]; omega)
            obtain ⟨n, hn, rfl⟩ := nI_of (x := n) (by rw [zle] at a2; rw [zlt]; omega)
            rw [nI_toInt ha, nI_toInt hn] at a3
            rw [nI_toInt hp, nI_toInt hn] at b3
            rw [show ix (nI a) = a from ix_nI (by omega), show ix (nI p) = p from ix_nI (by omega), show ix (nI n) = n from ix_nI (by omega)] at k
            exact ⟨n, p, a, rfl, rfl, rfl, by omega, by omega, by decide, by decide, k⟩
          · rw [if_neg (fun z => b1 ⟨z.1.2.1, z.1.2.2, z.2.2⟩)] at k
            exact c_tell hZ 0 (by decide) rfl k
        · rw [if_neg (fun z => a1 ⟨z.1.1, z.1.2.2, z.2.1⟩)] at k
          exact c_tell hZ 0 (by decide) rfl k
      · rw [if_neg (show ¬ (S 1).1 = (S 1).1 from h3)] at k
        exact c_tell hZ 2 (by decide) rfl k
set_option maxRecDepth 100000 in
set_option maxHeartbeats 400000 in
theorem c_copy12 {SM : zC} {SF : Nat → zQ → zP} (hZ : zZ SM SF) {Q : zQ} {H A K : zHl} {kp : Int32} {T : zTp} {S : Nat → zSh} {F : Nat → Int32} {m : zMs} (hS : wS S) {a p n : Int32} (k : Q (some (.int (sp_copy S F (nI 1) a (nI 2) p n).1)) (gh (H, A, K, kp, T, (sp_copy S F (nI 1) a (nI 2) p n).2.1, (sp_copy S F (nI 1) a (nI 2) p n).2.2) m)) : SF mn_X_copy Q 37 [some (.ref 0), some (.int (nI 1)), some (.int a), some (.int (nI 2)), some (.int p), some (.int n), some (.ref 36), some (.ref 38)] [] (0, 0) (gh (H, A, K, kp, T, S, F) m) := by
  obtain ⟨hc1, hc2⟩ := hS 1 (by decide)
  obtain ⟨ht1, ht2⟩ := hS 2 (by decide)
  have e0 : (0 : Int32).toInt = 0 := by decide
  rw [sp_copy_y (show 1 < 4 by decide) (show 2 < 4 by decide)] at k
  unfold cp1 at k
  refine zgo hZ 999 70 rfl ?_
  refine c_isMissing1 hZ (fun h1 => ⟨fun _ => ?_, nt⟩) (fun h1 => ⟨nf, fun _ => ?_⟩)
  · rw [if_pos (Or.inl h1)] at k
    exact c_tell hZ 5 (by decide) rfl k
  · refine c_isMissing2 hZ (fun h2 => ⟨nt, fun _ => ?_⟩) (fun h2 => ⟨fun _ => ?_, nf⟩)
    · rw [if_pos (Or.inr h2)] at k
      exact c_tell hZ 5 (by decide) rfl k
    · rw [if_neg (fun z => z.elim h1 h2)] at k
      refine ⟨fun h3 => ?_, fun h3 => ?_⟩
      · rw [if_pos (show (S 1).1 = (S 2).1 from h3)] at k
        refine c_hasRun1 hZ hc1 hc2 (fun a1 a2 a3 => ⟨nt, fun _ => ?_⟩) (fun a1 => ⟨fun _ => ?_, nf⟩)
        · refine c_hasRun2 hZ ht1 ht2 (fun b1 b2 b3 => ⟨fun _ => ?_, nt⟩) (fun b1 => ⟨nf, fun _ => ?_⟩)
          · rw [if_pos ⟨⟨a1, b1, a2⟩, a3, b3⟩] at k
            obtain ⟨a, ha, rfl⟩ := nI_of (x := a) (by rw [zle] at a1; rw [zlt]; omega)
            obtain ⟨p, hp, rfl⟩ := nI_of (x := p) (by rw [zle] at b1; rw [zlt]; omega)
            obtain ⟨n, hn, rfl⟩ := nI_of (x := n) (by rw [zle] at a2; rw [zlt]; omega)
            rw [nI_toInt ha, nI_toInt hn] at a3
            rw [nI_toInt hp, nI_toInt hn] at b3
            rw [show ix (nI a) = a from ix_nI (by omega), show ix (nI p) = p from ix_nI (by omega), show ix (nI n) = n from ix_nI (by omega)] at k
            exact ⟨n, p, a, rfl, rfl, rfl, by omega, by omega, by decide, by decide, k⟩
          · rw [if_neg (fun z => b1 ⟨z.1.2.1, z.1.2.2, z.2.2⟩)] at k
            exact c_tell hZ 0 (by decide) rfl k
        · rw [if_neg (fun z => a1 ⟨z.1.1, z.1.2.2, z.2.1⟩)] at k
          exact c_tell hZ 0 (by decide) rfl k
      · rw [if_neg (show ¬ (S 1).1 = (S 2).1 from h3)] at k
        exact c_tell hZ 2 (by decide) rfl k
set_option maxRecDepth 100000 in
set_option maxHeartbeats 400000 in
theorem c_copy13 {SM : zC} {SF : Nat → zQ → zP} (hZ : zZ SM SF) {Q : zQ} {H A K : zHl} {kp : Int32} {T : zTp} {S : Nat → zSh} {F : Nat → Int32} {m : zMs} (hS : wS S) {a p n : Int32} (k : Q (some (.int (sp_copy S F (nI 1) a (nI 3) p n).1)) (gh (H, A, K, kp, T, (sp_copy S F (nI 1) a (nI 3) p n).2.1, (sp_copy S F (nI 1) a (nI 3) p n).2.2) m)) : SF mn_X_copy Q 37 [some (.ref 0), some (.int (nI 1)), some (.int a), some (.int (nI 3)), some (.int p), some (.int n), some (.ref 36), some (.ref 40)] [] (0, 0) (gh (H, A, K, kp, T, S, F) m) := by
  obtain ⟨hc1, hc2⟩ := hS 1 (by decide)
  obtain ⟨ht1, ht2⟩ := hS 3 (by decide)
  have e0 : (0 : Int32).toInt = 0 := by decide
  rw [sp_copy_y (show 1 < 4 by decide) (show 3 < 4 by decide)] at k
  unfold cp1 at k
  refine zgo hZ 999 70 rfl ?_
  refine c_isMissing1 hZ (fun h1 => ⟨fun _ => ?_, nt⟩) (fun h1 => ⟨nf, fun _ => ?_⟩)
  · rw [if_pos (Or.inl h1)] at k
    exact c_tell hZ 5 (by decide) rfl k
  · refine c_isMissing3 hZ (fun h2 => ⟨nt, fun _ => ?_⟩) (fun h2 => ⟨fun _ => ?_, nf⟩)
    · rw [if_pos (Or.inr h2)] at k
      exact c_tell hZ 5 (by decide) rfl k
    · rw [if_neg (fun z => z.elim h1 h2)] at k
      refine ⟨fun h3 => ?_, fun h3 => ?_⟩
      · rw [if_pos (show (S 1).1 = (S 3).1 from h3)] at k
        refine c_hasRun1 hZ hc1 hc2 (fun a1 a2 a3 => ⟨nt, fun _ => ?_⟩) (fun a1 => ⟨fun _ => ?_, nf⟩)
        · refine c_hasRun3 hZ ht1 ht2 (fun b1 b2 b3 => ⟨fun _ => ?_, nt⟩) (fun b1 => ⟨nf, fun _ => ?_⟩)
          · rw [if_pos ⟨⟨a1, b1, a2⟩, a3, b3⟩] at k
            obtain ⟨a, ha, rfl⟩ := nI_of (x := a) (by rw [zle] at a1; rw [zlt]; omega)
            obtain ⟨p, hp, rfl⟩ := nI_of (x := p) (by rw [zle] at b1; rw [zlt]; omega)
            obtain ⟨n, hn, rfl⟩ := nI_of (x := n) (by rw [zle] at a2; rw [zlt]; omega)
            rw [nI_toInt ha, nI_toInt hn] at a3
            rw [nI_toInt hp, nI_toInt hn] at b3
            rw [show ix (nI a) = a from ix_nI (by omega), show ix (nI p) = p from ix_nI (by omega), show ix (nI n) = n from ix_nI (by omega)] at k
            exact ⟨n, p, a, rfl, rfl, rfl, by omega, by omega, by decide, by decide, k⟩
          · rw [if_neg (fun z => b1 ⟨z.1.2.1, z.1.2.2, z.2.2⟩)] at k
            exact c_tell hZ 0 (by decide) rfl k
        · rw [if_neg (fun z => a1 ⟨z.1.1, z.1.2.2, z.2.1⟩)] at k
          exact c_tell hZ 0 (by decide) rfl k
      · rw [if_neg (show ¬ (S 1).1 = (S 3).1 from h3)] at k
        exact c_tell hZ 2 (by decide) rfl k
set_option maxRecDepth 100000 in
set_option maxHeartbeats 400000 in
theorem c_copy20 {SM : zC} {SF : Nat → zQ → zP} (hZ : zZ SM SF) {Q : zQ} {H A K : zHl} {kp : Int32} {T : zTp} {S : Nat → zSh} {F : Nat → Int32} {m : zMs} (hS : wS S) {a p n : Int32} (k : Q (some (.int (sp_copy S F (nI 2) a (nI 0) p n).1)) (gh (H, A, K, kp, T, (sp_copy S F (nI 2) a (nI 0) p n).2.1, (sp_copy S F (nI 2) a (nI 0) p n).2.2) m)) : SF mn_X_copy Q 37 [some (.ref 0), some (.int (nI 2)), some (.int a), some (.int (nI 0)), some (.int p), some (.int n), some (.ref 38), some (.ref 34)] [] (0, 0) (gh (H, A, K, kp, T, S, F) m) := by
  obtain ⟨hc1, hc2⟩ := hS 2 (by decide)
  obtain ⟨ht1, ht2⟩ := hS 0 (by decide)
  have e0 : (0 : Int32).toInt = 0 := by decide
  rw [sp_copy_y (show 2 < 4 by decide) (show 0 < 4 by decide)] at k
  unfold cp1 at k
  refine zgo hZ 999 70 rfl ?_
  refine c_isMissing2 hZ (fun h1 => ⟨fun _ => ?_, nt⟩) (fun h1 => ⟨nf, fun _ => ?_⟩)
  · rw [if_pos (Or.inl h1)] at k
    exact c_tell hZ 5 (by decide) rfl k
  · refine c_isMissing0 hZ (fun h2 => ⟨nt, fun _ => ?_⟩) (fun h2 => ⟨fun _ => ?_, nf⟩)
    · rw [if_pos (Or.inr h2)] at k
      exact c_tell hZ 5 (by decide) rfl k
    · rw [if_neg (fun z => z.elim h1 h2)] at k
      refine ⟨fun h3 => ?_, fun h3 => ?_⟩
      · rw [if_pos (show (S 2).1 = (S 0).1 from h3)] at k
        refine c_hasRun2 hZ hc1 hc2 (fun a1 a2 a3 => ⟨nt, fun _ => ?_⟩) (fun a1 => ⟨fun _ => ?_, nf⟩)
        · refine c_hasRun0 hZ ht1 ht2 (fun b1 b2 b3 => ⟨fun _ => ?_, nt⟩) (fun b1 => ⟨nf, fun _ => ?_⟩)
          · rw [if_pos ⟨⟨a1, b1, a2⟩, a3, b3⟩] at k
            obtain ⟨a, ha, rfl⟩ := nI_of (x := a) (by rw [zle] at a1; rw [zlt]; omega)
            obtain ⟨p, hp, rfl⟩ := nI_of (x := p) (by rw [zle] at b1; rw [zlt]; omega)
            obtain ⟨n, hn, rfl⟩ := nI_of (x := n) (by rw [zle] at a2; rw [zlt]; omega)
            rw [nI_toInt ha, nI_toInt hn] at a3
            rw [nI_toInt hp, nI_toInt hn] at b3
            rw [show ix (nI a) = a from ix_nI (by omega), show ix (nI p) = p from ix_nI (by omega), show ix (nI n) = n from ix_nI (by omega)] at k
            exact ⟨n, p, a, rfl, rfl, rfl, by omega, by omega, by decide, by decide, k⟩
          · rw [if_neg (fun z => b1 ⟨z.1.2.1, z.1.2.2, z.2.2⟩)] at k
            exact c_tell hZ 0 (by decide) rfl k
        · rw [if_neg (fun z => a1 ⟨z.1.1, z.1.2.2, z.2.1⟩)] at k
          exact c_tell hZ 0 (by decide) rfl k
      · rw [if_neg (show ¬ (S 2).1 = (S 0).1 from h3)] at k
        exact c_tell hZ 2 (by decide) rfl k
set_option maxRecDepth 100000 in
set_option maxHeartbeats 400000 in
theorem c_copy21 {SM : zC} {SF : Nat → zQ → zP} (hZ : zZ SM SF) {Q : zQ} {H A K : zHl} {kp : Int32} {T : zTp} {S : Nat → zSh} {F : Nat → Int32} {m : zMs} (hS : wS S) {a p n : Int32} (k : Q (some (.int (sp_copy S F (nI 2) a (nI 1) p n).1)) (gh (H, A, K, kp, T, (sp_copy S F (nI 2) a (nI 1) p n).2.1, (sp_copy S F (nI 2) a (nI 1) p n).2.2) m)) : SF mn_X_copy Q 37 [some (.ref 0), some (.int (nI 2)), some (.int a), some (.int (nI 1)), some (.int p), some (.int n), some (.ref 38), some (.ref 36)] [] (0, 0) (gh (H, A, K, kp, T, S, F) m) := by
  obtain ⟨hc1, hc2⟩ := hS 2 (by decide)
  obtain ⟨ht1, ht2⟩ := hS 1 (by decide)
  have e0 : (0 : Int32).toInt = 0 := by decide
  rw [sp_copy_y (show 2 < 4 by decide) (show 1 < 4 by decide)] at k
  unfold cp1 at k
  refine zgo hZ 999 70 rfl ?_
  refine c_isMissing2 hZ (fun h1 => ⟨fun _ => ?_, nt⟩) (fun h1 => ⟨nf, fun _ => ?_⟩)
  · rw [if_pos (Or.inl h1)] at k
    exact c_tell hZ 5 (by decide) rfl k
  · refine c_isMissing1 hZ (fun h2 => ⟨nt, fun _ => ?_⟩) (fun h2 => ⟨fun _ => ?_, nf⟩)
    · rw [if_pos (Or.inr h2)] at k
      exact c_tell hZ 5 (by decide) rfl k
    · rw [if_neg (fun z => z.elim h1 h2)] at k
      refine ⟨fun h3 => ?_, fun h3 => ?_⟩
      · rw [if_pos (show (S 2).1 = (S 1).1 from h3)] at k
        refine c_hasRun2 hZ hc1 hc2 (fun a1 a2 a3 => ⟨nt, fun _ => ?_⟩) (fun a1 => ⟨fun _ => ?_, nf⟩)
        · refine c_hasRun1 hZ ht1 ht2 (fun b1 b2 b3 => ⟨fun _ => ?_, nt⟩) (fun b1 => ⟨nf, fun _ => ?_⟩)
          · rw [if_pos ⟨⟨a1, b1, a2⟩, a3, b3⟩] at k
            obtain ⟨a, ha, rfl⟩ := nI_of (x := a) (by rw [zle] at a1; rw [zlt]; omega)
            obtain ⟨p, hp, rfl⟩ := nI_of (x := p) (by rw [zle] at b1; rw [zlt]; omega)
            obtain ⟨n, hn, rfl⟩ := nI_of (x := n) (by rw [zle] at a2; rw [zlt]; omega)
            rw [nI_toInt ha, nI_toInt hn] at a3
            rw [nI_toInt hp, nI_toInt hn] at b3
            rw [show ix (nI a) = a from ix_nI (by omega), show ix (nI p) = p from ix_nI (by omega), show ix (nI n) = n from ix_nI (by omega)] at k
            exact ⟨n, p, a, rfl, rfl, rfl, by omega, by omega, by decide, by decide, k⟩
          · rw [if_neg (fun z => b1 ⟨z.1.2.1, z.1.2.2, z.2.2⟩)] at k
            exact c_tell hZ 0 (by decide) rfl k
        · rw [if_neg (fun z => a1 ⟨z.1.1, z.1.2.2, z.2.1⟩)] at k
          exact c_tell hZ 0 (by decide) rfl k
      · rw [if_neg (show ¬ (S 2).1 = (S 1).1 from h3)] at k
        exact c_tell hZ 2 (by decide) rfl k
set_option maxRecDepth 100000 in
set_option maxHeartbeats 400000 in
theorem c_copy22 {SM : zC} {SF : Nat → zQ → zP} (hZ : zZ SM SF) {Q : zQ} {H A K : zHl} {kp : Int32} {T : zTp} {S : Nat → zSh} {F : Nat → Int32} {m : zMs} (hS : wS S) {a p n : Int32} (k : Q (some (.int (sp_copy S F (nI 2) a (nI 2) p n).1)) (gh (H, A, K, kp, T, (sp_copy S F (nI 2) a (nI 2) p n).2.1, (sp_copy S F (nI 2) a (nI 2) p n).2.2) m)) : SF mn_X_copy Q 37 [some (.ref 0), some (.int (nI 2)), some (.int a), some (.int (nI 2)), some (.int p), some (.int n), some (.ref 38), some (.ref 38)] [] (0, 0) (gh (H, A, K, kp, T, S, F) m) := by
  obtain ⟨hc1, hc2⟩ := hS 2 (by decide)
  obtain ⟨ht1, ht2⟩ := hS 2 (by decide)
  have e0 : (0 : Int32).toInt = 0 := by decide
  rw [sp_copy_y (show 2 < 4 by decide) (show 2 < 4 by decide)] at k
  unfold cp1 at k
  refine zgo hZ 999 70 rfl ?_
  refine c_isMissing2 hZ (fun h1 => ⟨fun _ => ?_, nt⟩) (fun h1 => ⟨nf, fun _ => ?_⟩)
  · rw [if_pos (Or.inl h1)] at k
    exact c_tell hZ 5 (by decide) rfl k
  · refine c_isMissing2 hZ (fun h2 => ⟨nt, fun _ => ?_⟩) (fun h2 => ⟨fun _ => ?_, nf⟩)
    · rw [if_pos (Or.inr h2)] at k
      exact c_tell hZ 5 (by decide) rfl k
    · rw [if_neg (fun z => z.elim h1 h2)] at k
      refine ⟨fun h3 => ?_, fun h3 => ?_⟩
      · rw [if_pos (show (S 2).1 = (S 2).1 from h3)] at k
        refine c_hasRun2 hZ hc1 hc2 (fun a1 a2 a3 => ⟨nt, fun _ => ?_⟩) (fun a1 => ⟨fun _ => ?_, nf⟩)
        · refine c_hasRun2 hZ ht1 ht2 (fun b1 b2 b3 => ⟨fun _ => ?_, nt⟩) (fun b1 => ⟨nf, fun _ => ?_⟩)
          · rw [if_pos ⟨⟨a1, b1, a2⟩, a3, b3⟩] at k
            obtain ⟨a, ha, rfl⟩ := nI_of (x := a) (by rw [zle] at a1; rw [zlt]; omega)
            obtain ⟨p, hp, rfl⟩ := nI_of (x := p) (by rw [zle] at b1; rw [zlt]; omega)
            obtain ⟨n, hn, rfl⟩ := nI_of (x := n) (by rw [zle] at a2; rw [zlt]; omega)
            rw [nI_toInt ha, nI_toInt hn] at a3
            rw [nI_toInt hp, nI_toInt hn] at b3
            rw [show ix (nI a) = a from ix_nI (by omega), show ix (nI p) = p from ix_nI (by omega), show ix (nI n) = n from ix_nI (by omega)] at k
            exact ⟨n, p, a, rfl, rfl, rfl, by omega, by omega, by decide, by decide, k⟩
          · rw [if_neg (fun z => b1 ⟨z.1.2.1, z.1.2.2, z.2.2⟩)] at k
            exact c_tell hZ 0 (by decide) rfl k
        · rw [if_neg (fun z => a1 ⟨z.1.1, z.1.2.2, z.2.1⟩)] at k
          exact c_tell hZ 0 (by decide) rfl k
      · rw [if_neg (show ¬ (S 2).1 = (S 2).1 from h3)] at k
        exact c_tell hZ 2 (by decide) rfl k
set_option maxRecDepth 100000 in
set_option maxHeartbeats 400000 in
theorem c_copy23 {SM : zC} {SF : Nat → zQ → zP} (hZ : zZ SM SF) {Q : zQ} {H A K : zHl} {kp : Int32} {T : zTp} {S : Nat → zSh} {F : Nat → Int32} {m : zMs} (hS : wS S) {a p n : Int32} (k : Q (some (.int (sp_copy S F (nI 2) a (nI 3) p n).1)) (gh (H, A, K, kp, T, (sp_copy S F (nI 2) a (nI 3) p n).2.1, (sp_copy S F (nI 2) a (nI 3) p n).2.2) m)) : SF mn_X_copy Q 37 [some (.ref 0), some (.int (nI 2)), some (.int a), some (.int (nI 3)), some (.int p), some (.int n), some (.ref 38), some (.ref 40)] [] (0, 0) (gh (H, A, K, kp, T, S, F) m) := by
  obtain ⟨hc1, hc2⟩ := hS 2 (by decide)
  obtain ⟨ht1, ht2⟩ := hS 3 (by decide)
  have e0 : (0 : Int32).toInt = 0 := by decide
  rw [sp_copy_y (show 2 < 4 by decide) (show 3 < 4 by decide)] at k
  unfold cp1 at k
  refine zgo hZ 999 70 rfl ?_
  refine c_isMissing2 hZ (fun h1 => ⟨fun _ => ?_, nt⟩) (fun h1 => ⟨nf, fun _ => ?_⟩)
  · rw [if_pos (Or.inl h1)] at k
    exact c_tell hZ 5 (by decide) rfl k
  · refine c_isMissing3 hZ (fun h2 => ⟨nt, fun _ => ?_⟩) (fun h2 => ⟨fun _ => ?_, nf⟩)
    · rw [if_pos (Or.inr h2)] at k
      exact c_tell hZ 5 (by decide) rfl k
    · rw [if_neg (fun z => z.elim h1 h2)] at k
      refine ⟨fun h3 => ?_, fun h3 => ?_⟩
      · rw [if_pos (show (S 2).1 = (S 3).1 from h3)] at k
        refine c_hasRun2 hZ hc1 hc2 (fun a1 a2 a3 => ⟨nt, fun _ => ?_⟩) (fun a1 => ⟨fun _ => ?_, nf⟩)
        · refine c_hasRun3 hZ ht1 ht2 (fun b1 b2 b3 => ⟨fun _ => ?_, nt⟩) (fun b1 => ⟨nf, fun _ => ?_⟩)
          · rw [if_pos ⟨⟨a1, b1, a2⟩, a3, b3⟩] at k
            obtain ⟨a, ha, rfl⟩ := nI_of (x := a) (by rw [zle] at a1; rw [zlt]; omega)
            obtain ⟨p, hp, rfl⟩ := nI_of (x := p) (by rw [zle] at b1; rw [zlt]; omega)
            obtain ⟨n, hn, rfl⟩ := nI_of (x := n) (by rw [zle] at a2; rw [zlt]; omega)
            rw [nI_toInt ha, nI_toInt hn] at a3
            rw [nI_toInt hp, nI_toInt hn] at b3
            rw [show ix (nI a) = a from ix_nI (by omega), show ix (nI p) = p from ix_nI (by omega), show ix (nI n) = n from ix_nI (by omega)] at k
            exact ⟨n, p, a, rfl, rfl, rfl, by omega, by omega, by decide, by decide, k⟩
          · rw [if_neg (fun z => b1 ⟨z.1.2.1, z.1.2.2, z.2.2⟩)] at k
            exact c_tell hZ 0 (by decide) rfl k
        · rw [if_neg (fun z => a1 ⟨z.1.1, z.1.2.2, z.2.1⟩)] at k
          exact c_tell hZ 0 (by decide) rfl k
      · rw [if_neg (show ¬ (S 2).1 = (S 3).1 from h3)] at k
        exact c_tell hZ 2 (by decide) rfl k
set_option maxRecDepth 100000 in
set_option maxHeartbeats 400000 in
theorem c_copy30 {SM : zC} {SF : Nat → zQ → zP} (hZ : zZ SM SF) {Q : zQ} {H A K : zHl} {kp : Int32} {T : zTp} {S : Nat → zSh} {F : Nat → Int32} {m : zMs} (hS : wS S) {a p n : Int32} (k : Q (some (.int (sp_copy S F (nI 3) a (nI 0) p n).1)) (gh (H, A, K, kp, T, (sp_copy S F (nI 3) a (nI 0) p n).2.1, (sp_copy S F (nI 3) a (nI 0) p n).2.2) m)) : SF mn_X_copy Q 37 [some (.ref 0), some (.int (nI 3)), some (.int a), some (.int (nI 0)), some (.int p), some (.int n), some (.ref 40), some (.ref 34)] [] (0, 0) (gh (H, A, K, kp, T, S, F) m) := by
  obtain ⟨hc1, hc2⟩ := hS 3 (by decide)
  obtain ⟨ht1, ht2⟩ := hS 0 (by decide)
  have e0 : (0 : Int32).toInt = 0 := by decide
  rw [sp_copy_y (show 3 < 4 by decide) (show 0 < 4 by decide)] at k
  unfold cp1 at k
  refine zgo hZ 999 70 rfl ?_
  refine c_isMissing3 hZ (fun h1 => ⟨fun _ => ?_, nt⟩) (fun h1 => ⟨nf, fun _ => ?_⟩)
  · rw [if_pos (Or.inl h1)] at k
    exact c_tell hZ 5 (by decide) rfl k
  · refine c_isMissing0 hZ (fun h2 => ⟨nt, fun _ => ?_⟩) (fun h2 => ⟨fun _ => ?_, nf⟩)
    · rw [if_pos (Or.inr h2)] at k
      exact c_tell hZ 5 (by decide) rfl k
    · rw [if_neg (fun z => z.elim h1 h2)] at k
      refine ⟨fun h3 => ?_, fun h3 => ?_⟩
      · rw [if_pos (show (S 3).1 = (S 0).1 from h3)] at k
        refine c_hasRun3 hZ hc1 hc2 (fun a1 a2 a3 => ⟨nt, fun _ => ?_⟩) (fun a1 => ⟨fun _ => ?_, nf⟩)
        · refine c_hasRun0 hZ ht1 ht2 (fun b1 b2 b3 => ⟨fun _ => ?_, nt⟩) (fun b1 => ⟨nf, fun _ => ?_⟩)
          · rw [if_pos ⟨⟨a1, b1, a2⟩, a3, b3⟩] at k
            obtain ⟨a, ha, rfl⟩ := nI_of (x := a) (by rw [zle] at a1; rw [zlt]; omega)
            obtain ⟨p, hp, rfl⟩ := nI_of (x := p) (by rw [zle] at b1; rw [zlt]; omega)
            obtain ⟨n, hn, rfl⟩ := nI_of (x := n) (by rw [zle] at a2; rw [zlt]; omega)
            rw [nI_toInt ha, nI_toInt hn] at a3
            rw [nI_toInt hp, nI_toInt hn] at b3
            rw [show ix (nI a) = a from ix_nI (by omega), show ix (nI p) = p from ix_nI (by omega), show ix (nI n) = n from ix_nI (by omega)] at k
            exact ⟨n, p, a, rfl, rfl, rfl, by omega, by omega, by decide, by decide, k⟩
          · rw [if_neg (fun z => b1 ⟨z.1.2.1, z.1.2.2, z.2.2⟩)] at k
            exact c_tell hZ 0 (by decide) rfl k
        · rw [if_neg (fun z => a1 ⟨z.1.1, z.1.2.2, z.2.1⟩)] at k
          exact c_tell hZ 0 (by decide) rfl k
      · rw [if_neg (show ¬ (S 3).1 = (S 0).1 from h3)] at k
        exact c_tell hZ 2 (by decide) rfl k
set_option maxRecDepth 100000 in
set_option maxHeartbeats 400000 in
theorem c_copy31 {SM : zC} {SF : Nat → zQ → zP} (hZ : zZ SM SF) {Q : zQ} {H A K : zHl} {kp : Int32} {T : zTp} {S : Nat → zSh} {F : Nat → Int32} {m : zMs} (hS : wS S) {a p n : Int32} (k : Q (some (.int (sp_copy S F (nI 3) a (nI 1) p n).1)) (gh (H, A, K, kp, T, (sp_copy S F (nI 3) a (nI 1) p n).2.1, (sp_copy S F (nI 3) a (nI 1) p n).2.2) m)) : SF mn_X_copy Q 37 [some (.ref 0), some (.int (nI 3)), some (.int a), some (.int (nI 1)), some (.int p), some (.int n), some (.ref 40), some (.ref 36)] [] (0, 0) (gh (H, A, K, kp, T, S, F) m) := by
  obtain ⟨hc1, hc2⟩ := hS 3 (by decide)
  obtain ⟨ht1, ht2⟩ := hS 1 (by decide)
  have e0 : (0 : Int32).toInt = 0 := by decide
  rw [sp_copy_y (show 3 < 4 by decide) (show 1 < 4 by decide)] at k
  unfold cp1 at k
  refine zgo hZ 999 70 rfl ?_
  refine c_isMissing3 hZ (fun h1 => ⟨fun _ => ?_, nt⟩) (fun h1 => ⟨nf, fun _ => ?_⟩)
  · rw [if_pos (Or.inl h1)] at k
    exact c_tell hZ 5 (by decide) rfl k
  · refine c_isMissing1 hZ (fun h2 => ⟨nt, fun _ => ?_⟩) (fun h2 => ⟨fun _ => ?_, nf⟩)
    · rw [if_pos (Or.inr h2)] at k
      exact c_tell hZ 5 (by decide) rfl k
    · rw [if_neg (fun z => z.elim h1 h2)] at k
      refine ⟨fun h3 => ?_, fun h3 => ?_⟩
      · rw [if_pos (show (S 3).1 = (S 1).1 from h3)] at k
        refine c_hasRun3 hZ hc1 hc2 (fun a1 a2 a3 => ⟨nt, fun _ => ?_⟩) (fun a1 => ⟨fun _ => ?_, nf⟩)
        · refine c_hasRun1 hZ ht1 ht2 (fun b1 b2 b3 => ⟨fun _ => ?_, nt⟩) (fun b1 => ⟨nf, fun _ => ?_⟩)
          · rw [if_pos ⟨⟨a1, b1, a2⟩, a3, b3⟩] at k
            obtain ⟨a, ha, rfl⟩ := nI_of (x := a) (by rw [zle] at a1; rw [zlt]; omega)
            obtain ⟨p, hp, rfl⟩ := nI_of (x := p) (by rw [zle] at b1; rw [zlt]; omega)
            obtain ⟨n, hn, rfl⟩ := nI_of (x := n) (by rw [zle] at a2; rw [zlt]; omega)
            rw [nI_toInt ha, nI_toInt hn] at a3
            rw [nI_toInt hp, nI_toInt hn] at b3
            rw [show ix (nI a) = a from ix_nI (by omega), show ix (nI p) = p from ix_nI (by omega), show ix (nI n) = n from ix_nI (by omega)] at k
            exact ⟨n, p, a, rfl, rfl, rfl, by omega, by omega, by decide, by decide, k⟩
          · rw [if_neg (fun z => b1 ⟨z.1.2.1, z.1.2.2, z.2.2⟩)] at k
            exact c_tell hZ 0 (by decide) rfl k
        · rw [if_neg (fun z => a1 ⟨z.1.1, z.1.2.2, z.2.1⟩)] at k
          exact c_tell hZ 0 (by decide) rfl k
      · rw [if_neg (show ¬ (S 3).1 = (S 1).1 from h3)] at k
        exact c_tell hZ 2 (by decide) rfl k
set_option maxRecDepth 100000 in
set_option maxHeartbeats 400000 in
theorem c_copy32 {SM : zC} {SF : Nat → zQ → zP} (hZ : zZ SM SF) {Q : zQ} {H A K : zHl} {kp : Int32} {T : zTp} {S : Nat → zSh} {F : Nat → Int32} {m : zMs} (hS : wS S) {a p n : Int32} (k : Q (some (.int (sp_copy S F (nI 3) a (nI 2) p n).1)) (gh (H, A, K, kp, T, (sp_copy S F (nI 3) a (nI 2) p n).2.1, (sp_copy S F (nI 3) a (nI 2) p n).2.2) m)) : SF mn_X_copy Q 37 [some (.ref 0), some (.int (nI 3)), some (.int a), some (.int (nI 2)), some (.int p), some (.int n), some (.ref 40), some (.ref 38)] [] (0, 0) (gh (H, A, K, kp, T, S, F) m) := by
  obtain ⟨hc1, hc2⟩ := hS 3 (by decide)
  obtain ⟨ht1, ht2⟩ := hS 2 (by decide)
  have e0 : (0 : Int32).toInt = 0 := by decide
  rw [sp_copy_y (show 3 < 4 by decide) (show 2 < 4 by decide)] at k
  unfold cp1 at k
  refine zgo hZ 999 70 rfl ?_
  refine c_isMissing3 hZ (fun h1 => ⟨fun _ => ?_, nt⟩) (fun h1 => ⟨nf, fun _ => ?_⟩)
  · rw [if_pos (Or.inl h1)] at k
    exact c_tell hZ 5 (by decide) rfl k
  · refine c_isMissing2 hZ (fun h2 => ⟨nt, fun _ => ?_⟩) (fun h2 => ⟨fun _ => ?_, nf⟩)
    · rw [if_pos (Or.inr h2)] at k
      exact c_tell hZ 5 (by decide) rfl k
    · rw [if_neg (fun z => z.elim h1 h2)] at k
      refine ⟨fun h3 => ?_, fun h3 => ?_⟩
      · rw [if_pos (show (S 3).1 = (S 2).1 from h3)] at k
        refine c_hasRun3 hZ hc1 hc2 (fun a1 a2 a3 => ⟨nt, fun _ => ?_⟩) (fun a1 => ⟨fun _ => ?_, nf⟩)
        · refine c_hasRun2 hZ ht1 ht2 (fun b1 b2 b3 => ⟨fun _ => ?_, nt⟩) (fun b1 => ⟨nf, fun _ => ?_⟩)
          · rw [if_pos ⟨⟨a1, b1, a2⟩, a3, b3⟩] at k
            obtain ⟨a, ha, rfl⟩ := nI_of (x := a) (by rw [zle] at a1; rw [zlt]; omega)
            obtain ⟨p, hp, rfl⟩ := nI_of (x := p) (by rw [zle] at b1; rw [zlt]; omega)
            obtain ⟨n, hn, rfl⟩ := nI_of (x := n) (by rw [zle] at a2; rw [zlt]; omega)
            rw [nI_toInt ha, nI_toInt hn] at a3
            rw [nI_toInt hp, nI_toInt hn] at b3
            rw [show ix (nI a) = a from ix_nI (by omega), show ix (nI p) = p from ix_nI (by omega), show ix (nI n) = n from ix_nI (by omega)] at k
            exact ⟨n, p, a, rfl, rfl, rfl, by omega, by omega, by decide, by decide, k⟩
          · rw [if_neg (fun z => b1 ⟨z.1.2.1, z.1.2.2, z.2.2⟩)] at k
            exact c_tell hZ 0 (by decide) rfl k
        · rw [if_neg (fun z => a1 ⟨z.1.1, z.1.2.2, z.2.1⟩)] at k
          exact c_tell hZ 0 (by decide) rfl k
      · rw [if_neg (show ¬ (S 3).1 = (S 2).1 from h3)] at k
        exact c_tell hZ 2 (by decide) rfl k
set_option maxRecDepth 100000 in
set_option maxHeartbeats 400000 in
theorem c_copy33 {SM : zC} {SF : Nat → zQ → zP} (hZ : zZ SM SF) {Q : zQ} {H A K : zHl} {kp : Int32} {T : zTp} {S : Nat → zSh} {F : Nat → Int32} {m : zMs} (hS : wS S) {a p n : Int32} (k : Q (some (.int (sp_copy S F (nI 3) a (nI 3) p n).1)) (gh (H, A, K, kp, T, (sp_copy S F (nI 3) a (nI 3) p n).2.1, (sp_copy S F (nI 3) a (nI 3) p n).2.2) m)) : SF mn_X_copy Q 37 [some (.ref 0), some (.int (nI 3)), some (.int a), some (.int (nI 3)), some (.int p), some (.int n), some (.ref 40), some (.ref 40)] [] (0, 0) (gh (H, A, K, kp, T, S, F) m) := by
  obtain ⟨hc1, hc2⟩ := hS 3 (by decide)
  obtain ⟨ht1, ht2⟩ := hS 3 (by decide)
  have e0 : (0 : Int32).toInt = 0 := by decide
  rw [sp_copy_y (show 3 < 4 by decide) (show 3 < 4 by decide)] at k
  unfold cp1 at k
  refine zgo hZ 999 70 rfl ?_
  refine c_isMissing3 hZ (fun h1 => ⟨fun _ => ?_, nt⟩) (fun h1 => ⟨nf, fun _ => ?_⟩)
  · rw [if_pos (Or.inl h1)] at k
    exact c_tell hZ 5 (by decide) rfl k
  · refine c_isMissing3 hZ (fun h2 => ⟨nt, fun _ => ?_⟩) (fun h2 => ⟨fun _ => ?_, nf⟩)
    · rw [if_pos (Or.inr h2)] at k
      exact c_tell hZ 5 (by decide) rfl k
    · rw [if_neg (fun z => z.elim h1 h2)] at k
      refine ⟨fun h3 => ?_, fun h3 => ?_⟩
      · rw [if_pos (show (S 3).1 = (S 3).1 from h3)] at k
        refine c_hasRun3 hZ hc1 hc2 (fun a1 a2 a3 => ⟨nt, fun _ => ?_⟩) (fun a1 => ⟨fun _ => ?_, nf⟩)
        · refine c_hasRun3 hZ ht1 ht2 (fun b1 b2 b3 => ⟨fun _ => ?_, nt⟩) (fun b1 => ⟨nf, fun _ => ?_⟩)
          · rw [if_pos ⟨⟨a1, b1, a2⟩, a3, b3⟩] at k
            obtain ⟨a, ha, rfl⟩ := nI_of (x := a) (by rw [zle] at a1; rw [zlt]; omega)
            obtain ⟨p, hp, rfl⟩ := nI_of (x := p) (by rw [zle] at b1; rw [zlt]; omega)
            obtain ⟨n, hn, rfl⟩ := nI_of (x := n) (by rw [zle] at a2; rw [zlt]; omega)
            rw [nI_toInt ha, nI_toInt hn] at a3
            rw [nI_toInt hp, nI_toInt hn] at b3
            rw [show ix (nI a) = a from ix_nI (by omega), show ix (nI p) = p from ix_nI (by omega), show ix (nI n) = n from ix_nI (by omega)] at k
            exact ⟨n, p, a, rfl, rfl, rfl, by omega, by omega, by decide, by decide, k⟩
          · rw [if_neg (fun z => b1 ⟨z.1.2.1, z.1.2.2, z.2.2⟩)] at k
            exact c_tell hZ 0 (by decide) rfl k
        · rw [if_neg (fun z => a1 ⟨z.1.1, z.1.2.2, z.2.1⟩)] at k
          exact c_tell hZ 0 (by decide) rfl k
      · rw [if_neg (show ¬ (S 3).1 = (S 3).1 from h3)] at k
        exact c_tell hZ 2 (by decide) rfl k
set_option maxRecDepth 100000 in
set_option maxHeartbeats 400000 in
theorem c_copy0_ {SM : zC} {SF : Nat → zQ → zP} (hZ : zZ SM SF) {Q : zQ} {H A K : zHl} {kp : Int32} {T : zTp} {S : Nat → zSh} {F : Nat → Int32} {m : zMs} (hS : wS S) {a p n : Int32} {t : Nat} (ht : t < 4) (k : Q (some (.int (sp_copy S F (nI 0) a (nI t) p n).1)) (gh (H, A, K, kp, T, (sp_copy S F (nI 0) a (nI t) p n).2.1, (sp_copy S F (nI 0) a (nI t) p n).2.2) m)) : SF mn_X_copy Q 29 [some (.ref 0), some (.int (nI 0)), some (.int a), some (.int (nI t)), some (.int p), some (.int n), some (.ref 34), none] [] (0, 0) (gh (H, A, K, kp, T, S, F) m) := by
  refine zgo hZ 37 70 rfl ?_
  match t, ht with
  | 0, _ => exact ⟨0, by decide, rfl, 34, rfl, c_copy00 hZ hS k⟩
  | 1, _ => exact ⟨1, by decide, rfl, 36, rfl, c_copy01 hZ hS k⟩
  | 2, _ => exact ⟨2, by decide, rfl, 38, rfl, c_copy02 hZ hS k⟩
  | 3, _ => exact ⟨3, by decide, rfl, 40, rfl, c_copy03 hZ hS k⟩
set_option maxRecDepth 100000 in
set_option maxHeartbeats 400000 in
theorem c_copy1_ {SM : zC} {SF : Nat → zQ → zP} (hZ : zZ SM SF) {Q : zQ} {H A K : zHl} {kp : Int32} {T : zTp} {S : Nat → zSh} {F : Nat → Int32} {m : zMs} (hS : wS S) {a p n : Int32} {t : Nat} (ht : t < 4) (k : Q (some (.int (sp_copy S F (nI 1) a (nI t) p n).1)) (gh (H, A, K, kp, T, (sp_copy S F (nI 1) a (nI t) p n).2.1, (sp_copy S F (nI 1) a (nI t) p n).2.2) m)) : SF mn_X_copy Q 29 [some (.ref 0), some (.int (nI 1)), some (.int a), some (.int (nI t)), some (.int p), some (.int n), some (.ref 36), none] [] (0, 0) (gh (H, A, K, kp, T, S, F) m) := by
  refine zgo hZ 37 70 rfl ?_
  match t, ht with
  | 0, _ => exact ⟨0, by decide, rfl, 34, rfl, c_copy10 hZ hS k⟩
  | 1, _ => exact ⟨1, by decide, rfl, 36, rfl, c_copy11 hZ hS k⟩
  | 2, _ => exact ⟨2, by decide, rfl, 38, rfl, c_copy12 hZ hS k⟩
  | 3, _ => exact ⟨3, by decide, rfl, 40, rfl, c_copy13 hZ hS k⟩
set_option maxRecDepth 100000 in
set_option maxHeartbeats 400000 in
theorem c_copy2_ {SM : zC} {SF : Nat → zQ → zP} (hZ : zZ SM SF) {Q : zQ} {H A K : zHl} {kp : Int32} {T : zTp} {S : Nat → zSh} {F : Nat → Int32} {m : zMs} (hS : wS S) {a p n : Int32} {t : Nat} (ht : t < 4) (k : Q (some (.int (sp_copy S F (nI 2) a (nI t) p n).1)) (gh (H, A, K, kp, T, (sp_copy S F (nI 2) a (nI t) p n).2.1, (sp_copy S F (nI 2) a (nI t) p n).2.2) m)) : SF mn_X_copy Q 29 [some (.ref 0), some (.int (nI 2)), some (.int a), some (.int (nI t)), some (.int p), some (.int n), some (.ref 38), none] [] (0, 0) (gh (H, A, K, kp, T, S, F) m) := by
  refine zgo hZ 37 70 rfl ?_
  match t, ht with
  | 0, _ => exact ⟨0, by decide, rfl, 34, rfl, c_copy20 hZ hS k⟩
  | 1, _ => exact ⟨1, by decide, rfl, 36, rfl, c_copy21 hZ hS k⟩
  | 2, _ => exact ⟨2, by decide, rfl, 38, rfl, c_copy22 hZ hS k⟩
  | 3, _ => exact ⟨3, by decide, rfl, 40, rfl, c_copy23 hZ hS k⟩
set_option maxRecDepth 100000 in
set_option maxHeartbeats 400000 in
theorem c_copy3_ {SM : zC} {SF : Nat → zQ → zP} (hZ : zZ SM SF) {Q : zQ} {H A K : zHl} {kp : Int32} {T : zTp} {S : Nat → zSh} {F : Nat → Int32} {m : zMs} (hS : wS S) {a p n : Int32} {t : Nat} (ht : t < 4) (k : Q (some (.int (sp_copy S F (nI 3) a (nI t) p n).1)) (gh (H, A, K, kp, T, (sp_copy S F (nI 3) a (nI t) p n).2.1, (sp_copy S F (nI 3) a (nI t) p n).2.2) m)) : SF mn_X_copy Q 29 [some (.ref 0), some (.int (nI 3)), some (.int a), some (.int (nI t)), some (.int p), some (.int n), some (.ref 40), none] [] (0, 0) (gh (H, A, K, kp, T, S, F) m) := by
  refine zgo hZ 37 70 rfl ?_
  match t, ht with
  | 0, _ => exact ⟨0, by decide, rfl, 34, rfl, c_copy30 hZ hS k⟩
  | 1, _ => exact ⟨1, by decide, rfl, 36, rfl, c_copy31 hZ hS k⟩
  | 2, _ => exact ⟨2, by decide, rfl, 38, rfl, c_copy32 hZ hS k⟩
  | 3, _ => exact ⟨3, by decide, rfl, 40, rfl, c_copy33 hZ hS k⟩
set_option maxRecDepth 100000 in
set_option maxHeartbeats 400000 in
theorem c_copy {SM : zC} {SF : Nat → zQ → zP} (hZ : zZ SM SF) {Q : zQ} {H A K : zHl} {kp : Int32} {T : zTp} {S : Nat → zSh} {F : Nat → Int32} {m : zMs} (hS : wS S) {s a t p n : Int32} (k : Q (some (.int (sp_copy S F s a t p n).1)) (gh (H, A, K, kp, T, (sp_copy S F s a t p n).2.1, (sp_copy S F s a t p n).2.2) m)) : SM mn_X_copy [.ref 0, .int s, .int a, .int t, .int p, .int n] (gh (H, A, K, kp, T, S, F) m) Q := by
  refine zin hZ 29 99 rfl rfl rfl ?_
  refine c_isNoSheet hZ (fun h => ⟨fun _ => ?_, nt⟩) (fun h => ⟨nf, fun _ => ?_⟩)
  · unfold sp_copy at k
    rw [if_neg (fun z => h (zIn4.mpr z.1))] at k
    exact c_tell hZ 0 (by decide) rfl k
  · refine c_isNoSheet hZ (fun h2 => ⟨nt, fun _ => ?_⟩) (fun h2 => ⟨fun _ => ?_, nf⟩)
    · unfold sp_copy at k
      rw [if_neg (fun z => h2 (zIn4.mpr z.2))] at k
      exact c_tell hZ 0 (by decide) rfl k
    · obtain ⟨j, hj, rfl⟩ := h
      obtain ⟨l, hl, rfl⟩ := h2
      match j, hj with
      | 0, _ => exact ⟨0, by decide, rfl, 34, rfl, c_copy0_ hZ hS hl k⟩
      | 1, _ => exact ⟨1, by decide, rfl, 36, rfl, c_copy1_ hZ hS hl k⟩
      | 2, _ => exact ⟨2, by decide, rfl, 38, rfl, c_copy2_ hZ hS hl k⟩
      | 3, _ => exact ⟨3, by decide, rfl, 40, rfl, c_copy3_ hZ hS hl k⟩
theorem wq_i {v : Int64} : wq v ↔ ¬ lg_cmp v 0 < 0 ∧ ¬ 0 < lg_cmp v 99 := by
  rw [lcmp_lt, lcmp_gt]
  unfold wq
  rw [Int64.lt_iff_toInt_lt, Int64.lt_iff_toInt_lt, Int64.le_iff_toInt_le, Int64.le_iff_toInt_le]
  omega
def ly1 (S : Nat → zSh) (σ : zS) (F : Nat → Int32) (t : Nat) : zA3 :=
  if (S t).1 = 0 then fnx (-1000000006) 5 σ F else (lyn (S t).2.2 (min (sz S t) (nn σ)), ly σ (S t).2.2 (min (sz S t) (nn σ)), F)
theorem sp_lays_y {S : Nat → zSh} {σ : zS} {F : Nat → Int32} {t : Nat} (ht : t < 4) : sp_lays S σ F (nI t) = ly1 S σ F t := by
  unfold sp_lays ly1
  rw [if_pos (zIn4.mp ⟨t, ht, rfl⟩), ix_nI (by omega)]
set_option maxRecDepth 100000 in
set_option maxHeartbeats 400000 in
theorem c_lays0_l {SM : zC} {SF : Nat → zQ → zP} (hZ : zZ SM SF) {Q : zQ} {H A K : zHl} {kp : Int32} {T : zTp} {S : Nat → zSh} {F : Nat → Int32} {m : zMs} {D : Nat} (hw : wf D H.1) (hS : wS S) (k : Q (some (.int (lyn (S 0).2.2 (min (sz S 0) (nn H.1))))) (gh ((ly H.1 (S 0).2.2 (min (sz S 0) (nn H.1)), H.2), A, K, kp, T, S, F) m)) :
    ∀ d j o, j + d = min (sz S 0) (nn H.1) → SF mn_X_lays Q 40 [some (.ref 0), some (.int (nI 0)), some (.ref 34), some (.int (lyn (S 0).2.2 j)), some (.int (nI j)), o, none] [] (0, 0) (gh ((ly H.1 (S 0).2.2 j, H.2), A, K, kp, T, S, F) m) := by
  obtain ⟨hs1, hs2⟩ := hS 0 (by decide)
  have h8 := hw.2.2.2.1.2
  have en : ∀ j, ly H.1 (S 0).2.2 j 8 2 = nI (nn H.1) := fun j => by rw [ly_8, ← hw.2.2.2.1.1]
  intro d
  induction d with
  | zero =>
    intro j o hj
    have hj : j = min (sz S 0) (nn H.1) := by omega
    rw [← hj] at k
    refine zgo hZ 40 99 rfl ?_
    refine ⟨fun hc => k, fun hc => ⟨fun hc2 => k, fun hc2 => ?_⟩⟩
    have hc : ¬ (S 0).2.1 ≤ nI j := hc
    rw [ile hs1 rfl (by omega) (by omega)] at hc
    have hc2 : ¬ ly H.1 (S 0).2.2 j 8 2 ≤ nI j := hc2
    rw [ile (en j) rfl (by omega) (by omega)] at hc2
    omega
  | succ d ih =>
    intro j o hj
    have es : ly H.1 (S 0).2.2 (j + 1) = if wq ((S 0).2.2 j) then s2 (ly H.1 (S 0).2.2 j) 1 j ((S 0).2.2 j).toInt32 else ly H.1 (S 0).2.2 j := rfl
    have el : lyn (S 0).2.2 (j + 1) = lyn (S 0).2.2 j + (if wq ((S 0).2.2 j) then 1 else 0) := rfl
    have h := ih (j + 1) (some (.long ((S 0).2.2 j))) (by omega)
    rw [es, el, ← nI_1 j] at h
    refine zgo hZ 40 99 rfl ?_
    refine ⟨fun hc => ?_, fun hc => ⟨fun hc2 => ?_, fun hc2 => ⟨j, by omega, rfl, fun h1 => ?_, fun h1 => ⟨fun h2 => ?_, fun h2 => ⟨j, by omega, rfl, ?_⟩⟩⟩⟩⟩
    · have hc : (S 0).2.1 ≤ nI j := hc
      rw [ile hs1 rfl (by omega) (by omega)] at hc
      omega
    · have hc2 : ly H.1 (S 0).2.2 j 8 2 ≤ nI j := hc2
      rw [ile (en j) rfl (by omega) (by omega)] at hc2
      omega
    · rw [if_neg (fun z => (wq_i.mp z).1 h1), if_neg (fun z => (wq_i.mp z).1 h1), Int32.add_zero] at h
      exact h
    · rw [if_neg (fun z => (wq_i.mp z).2 h2), if_neg (fun z => (wq_i.mp z).2 h2), Int32.add_zero] at h
      exact h
    · rw [if_pos (wq_i.mpr ⟨h1, h2⟩), if_pos (wq_i.mpr ⟨h1, h2⟩)] at h
      exact h
set_option maxRecDepth 100000 in
set_option maxHeartbeats 400000 in
theorem c_lays0 {SM : zC} {SF : Nat → zQ → zP} (hZ : zZ SM SF) {Q : zQ} {H A K : zHl} {kp : Int32} {T : zTp} {S : Nat → zSh} {F : Nat → Int32} {m : zMs} {D : Nat} (hw : wf D H.1) (hS : wS S) (k : Q (some (.int (ly1 S H.1 F 0).1)) (gh (((ly1 S H.1 F 0).2.1, H.2), A, K, kp, T, S, (ly1 S H.1 F 0).2.2) m)) : SF mn_X_lays Q 20 [some (.ref 0), some (.int (nI 0)), none, none, none, none, none] [.ref 34] (0, 0) (gh (H, A, K, kp, T, S, F) m) := by
  unfold ly1 at k
  refine zgo hZ 40 50 rfl ?_
  refine c_isMissing0 hZ (fun h1 => ⟨nt, fun _ => ?_⟩) (fun h1 => ⟨fun _ => ?_, nf⟩)
  · rw [if_pos h1] at k
    exact c_tell hZ 5 (by decide) rfl k
  · rw [if_neg h1] at k
    exact c_lays0_l hZ hw hS k (min (sz S 0) (nn H.1)) 0 none (by omega)
set_option maxRecDepth 100000 in
set_option maxHeartbeats 400000 in
theorem c_lays1_l {SM : zC} {SF : Nat → zQ → zP} (hZ : zZ SM SF) {Q : zQ} {H A K : zHl} {kp : Int32} {T : zTp} {S : Nat → zSh} {F : Nat → Int32} {m : zMs} {D : Nat} (hw : wf D H.1) (hS : wS S) (k : Q (some (.int (lyn (S 1).2.2 (min (sz S 1) (nn H.1))))) (gh ((ly H.1 (S 1).2.2 (min (sz S 1) (nn H.1)), H.2), A, K, kp, T, S, F) m)) :
    ∀ d j o, j + d = min (sz S 1) (nn H.1) → SF mn_X_lays Q 40 [some (.ref 0), some (.int (nI 1)), some (.ref 36), some (.int (lyn (S 1).2.2 j)), some (.int (nI j)), o, none] [] (0, 0) (gh ((ly H.1 (S 1).2.2 j, H.2), A, K, kp, T, S, F) m) := by
  obtain ⟨hs1, hs2⟩ := hS 1 (by decide)
  have h8 := hw.2.2.2.1.2
  have en : ∀ j, ly H.1 (S 1).2.2 j 8 2 = nI (nn H.1) := fun j => by rw [ly_8, ← hw.2.2.2.1.1]
  intro d
  induction d with
  | zero =>
    intro j o hj
    have hj : j = min (sz S 1) (nn H.1) := by omega
    rw [← hj] at k
    refine zgo hZ 40 99 rfl ?_
    refine ⟨fun hc => k, fun hc => ⟨fun hc2 => k, fun hc2 => ?_⟩⟩
    have hc : ¬ (S 1).2.1 ≤ nI j := hc
    rw [ile hs1 rfl (by omega) (by omega)] at hc
    have hc2 : ¬ ly H.1 (S 1).2.2 j 8 2 ≤ nI j := hc2
    rw [ile (en j) rfl (by omega) (by omega)] at hc2
    omega
  | succ d ih =>
    intro j o hj
    have es : ly H.1 (S 1).2.2 (j + 1) = if wq ((S 1).2.2 j) then s2 (ly H.1 (S 1).2.2 j) 1 j ((S 1).2.2 j).toInt32 else ly H.1 (S 1).2.2 j := rfl
    have el : lyn (S 1).2.2 (j + 1) = lyn (S 1).2.2 j + (if wq ((S 1).2.2 j) then 1 else 0) := rfl
    have h := ih (j + 1) (some (.long ((S 1).2.2 j))) (by omega)
    rw [es, el, ← nI_1 j] at h
    refine zgo hZ 40 99 rfl ?_
    refine ⟨fun hc => ?_, fun hc => ⟨fun hc2 => ?_, fun hc2 => ⟨j, by omega, rfl, fun h1 => ?_, fun h1 => ⟨fun h2 => ?_, fun h2 => ⟨j, by omega, rfl, ?_⟩⟩⟩⟩⟩
    · have hc : (S 1).2.1 ≤ nI j := hc
      rw [ile hs1 rfl (by omega) (by omega)] at hc
      omega
    · have hc2 : ly H.1 (S 1).2.2 j 8 2 ≤ nI j := hc2
      rw [ile (en j) rfl (by omega) (by omega)] at hc2
      omega
    · rw [if_neg (fun z => (wq_i.mp z).1 h1), if_neg (fun z => (wq_i.mp z).1 h1), Int32.add_zero] at h
      exact h
    · rw [if_neg (fun z => (wq_i.mp z).2 h2), if_neg (fun z => (wq_i.mp z).2 h2), Int32.add_zero] at h
      exact h
    · rw [if_pos (wq_i.mpr ⟨h1, h2⟩), if_pos (wq_i.mpr ⟨h1, h2⟩)] at h
      exact h
set_option maxRecDepth 100000 in
set_option maxHeartbeats 400000 in
theorem c_lays1 {SM : zC} {SF : Nat → zQ → zP} (hZ : zZ SM SF) {Q : zQ} {H A K : zHl} {kp : Int32} {T : zTp} {S : Nat → zSh} {F : Nat → Int32} {m : zMs} {D : Nat} (hw : wf D H.1) (hS : wS S) (k : Q (some (.int (ly1 S H.1 F 1).1)) (gh (((ly1 S H.1 F 1).2.1, H.2), A, K, kp, T, S, (ly1 S H.1 F 1).2.2) m)) : SF mn_X_lays Q 20 [some (.ref 0), some (.int (nI 1)), none, none, none, none, none] [.ref 36] (0, 0) (gh (H, A, K, kp, T, S, F) m) := by
  unfold ly1 at k
  refine zgo hZ 40 50 rfl ?_
  refine c_isMissing1 hZ (fun h1 => ⟨nt, fun _ => ?_⟩) (fun h1 => ⟨fun _ => ?_, nf⟩)
  · rw [if_pos h1] at k
    exact c_tell hZ 5 (by decide) rfl k
  · rw [if_neg h1] at k
    exact c_lays1_l hZ hw hS k (min (sz S 1) (nn H.1)) 0 none (by omega)
set_option maxRecDepth 100000 in
set_option maxHeartbeats 400000 in
theorem c_lays2_l {SM : zC} {SF : Nat → zQ → zP} (hZ : zZ SM SF) {Q : zQ} {H A K : zHl} {kp : Int32} {T : zTp} {S : Nat → zSh} {F : Nat → Int32} {m : zMs} {D : Nat} (hw : wf D H.1) (hS : wS S) (k : Q (some (.int (lyn (S 2).2.2 (min (sz S 2) (nn H.1))))) (gh ((ly H.1 (S 2).2.2 (min (sz S 2) (nn H.1)), H.2), A, K, kp, T, S, F) m)) :
    ∀ d j o, j + d = min (sz S 2) (nn H.1) → SF mn_X_lays Q 40 [some (.ref 0), some (.int (nI 2)), some (.ref 38), some (.int (lyn (S 2).2.2 j)), some (.int (nI j)), o, none] [] (0, 0) (gh ((ly H.1 (S 2).2.2 j, H.2), A, K, kp, T, S, F) m) := by
  obtain ⟨hs1, hs2⟩ := hS 2 (by decide)
  have h8 := hw.2.2.2.1.2
  have en : ∀ j, ly H.1 (S 2).2.2 j 8 2 = nI (nn H.1) := fun j => by rw [ly_8, ← hw.2.2.2.1.1]
  intro d
  induction d with
  | zero =>
    intro j o hj
    have hj : j = min (sz S 2) (nn H.1) := by omega
    rw [← hj] at k
    refine zgo hZ 40 99 rfl ?_
    refine ⟨fun hc => k, fun hc => ⟨fun hc2 => k, fun hc2 => ?_⟩⟩
    have hc : ¬ (S 2).2.1 ≤ nI j := hc
    rw [ile hs1 rfl (by omega) (by omega)] at hc
    have hc2 : ¬ ly H.1 (S 2).2.2 j 8 2 ≤ nI j := hc2
    rw [ile (en j) rfl (by omega) (by omega)] at hc2
    omega
  | succ d ih =>
    intro j o hj
    have es : ly H.1 (S 2).2.2 (j + 1) = if wq ((S 2).2.2 j) then s2 (ly H.1 (S 2).2.2 j) 1 j ((S 2).2.2 j).toInt32 else ly H.1 (S 2).2.2 j := rfl
    have el : lyn (S 2).2.2 (j + 1) = lyn (S 2).2.2 j + (if wq ((S 2).2.2 j) then 1 else 0) := rfl
    have h := ih (j + 1) (some (.long ((S 2).2.2 j))) (by omega)
    rw [es, el, ← nI_1 j] at h
    refine zgo hZ 40 99 rfl ?_
    refine ⟨fun hc => ?_, fun hc => ⟨fun hc2 => ?_, fun hc2 => ⟨j, by omega, rfl, fun h1 => ?_, fun h1 => ⟨fun h2 => ?_, fun h2 => ⟨j, by omega, rfl, ?_⟩⟩⟩⟩⟩
    · have hc : (S 2).2.1 ≤ nI j := hc
      rw [ile hs1 rfl (by omega) (by omega)] at hc
      omega
    · have hc2 : ly H.1 (S 2).2.2 j 8 2 ≤ nI j := hc2
      rw [ile (en j) rfl (by omega) (by omega)] at hc2
      omega
    · rw [if_neg (fun z => (wq_i.mp z).1 h1), if_neg (fun z => (wq_i.mp z).1 h1), Int32.add_zero] at h
      exact h
    · rw [if_neg (fun z => (wq_i.mp z).2 h2), if_neg (fun z => (wq_i.mp z).2 h2), Int32.add_zero] at h
      exact h
    · rw [if_pos (wq_i.mpr ⟨h1, h2⟩), if_pos (wq_i.mpr ⟨h1, h2⟩)] at h
      exact h
set_option maxRecDepth 100000 in
set_option maxHeartbeats 400000 in
theorem c_lays2 {SM : zC} {SF : Nat → zQ → zP} (hZ : zZ SM SF) {Q : zQ} {H A K : zHl} {kp : Int32} {T : zTp} {S : Nat → zSh} {F : Nat → Int32} {m : zMs} {D : Nat} (hw : wf D H.1) (hS : wS S) (k : Q (some (.int (ly1 S H.1 F 2).1)) (gh (((ly1 S H.1 F 2).2.1, H.2), A, K, kp, T, S, (ly1 S H.1 F 2).2.2) m)) : SF mn_X_lays Q 20 [some (.ref 0), some (.int (nI 2)), none, none, none, none, none] [.ref 38] (0, 0) (gh (H, A, K, kp, T, S, F) m) := by
  unfold ly1 at k
  refine zgo hZ 40 50 rfl ?_
  refine c_isMissing2 hZ (fun h1 => ⟨nt, fun _ => ?_⟩) (fun h1 => ⟨fun _ => ?_, nf⟩)
  · rw [if_pos h1] at k
    exact c_tell hZ 5 (by decide) rfl k
  · rw [if_neg h1] at k
    exact c_lays2_l hZ hw hS k (min (sz S 2) (nn H.1)) 0 none (by omega)
set_option maxRecDepth 100000 in
set_option maxHeartbeats 400000 in
theorem c_lays3_l {SM : zC} {SF : Nat → zQ → zP} (hZ : zZ SM SF) {Q : zQ} {H A K : zHl} {kp : Int32} {T : zTp} {S : Nat → zSh} {F : Nat → Int32} {m : zMs} {D : Nat} (hw : wf D H.1) (hS : wS S) (k : Q (some (.int (lyn (S 3).2.2 (min (sz S 3) (nn H.1))))) (gh ((ly H.1 (S 3).2.2 (min (sz S 3) (nn H.1)), H.2), A, K, kp, T, S, F) m)) :
    ∀ d j o, j + d = min (sz S 3) (nn H.1) → SF mn_X_lays Q 40 [some (.ref 0), some (.int (nI 3)), some (.ref 40), some (.int (lyn (S 3).2.2 j)), some (.int (nI j)), o, none] [] (0, 0) (gh ((ly H.1 (S 3).2.2 j, H.2), A, K, kp, T, S, F) m) := by
  obtain ⟨hs1, hs2⟩ := hS 3 (by decide)
  have h8 := hw.2.2.2.1.2
  have en : ∀ j, ly H.1 (S 3).2.2 j 8 2 = nI (nn H.1) := fun j => by rw [ly_8, ← hw.2.2.2.1.1]
  intro d
  induction d with
  | zero =>
    intro j o hj
    have hj : j = min (sz S 3) (nn H.1) := by omega
    rw [← hj] at k
    refine zgo hZ 40 99 rfl ?_
    refine ⟨fun hc => k, fun hc => ⟨fun hc2 => k, fun hc2 => ?_⟩⟩
    have hc : ¬ (S 3).2.1 ≤ nI j := hc
    rw [ile hs1 rfl (by omega) (by omega)] at hc
    have hc2 : ¬ ly H.1 (S 3).2.2 j 8 2 ≤ nI j := hc2
    rw [ile (en j) rfl (by omega) (by omega)] at hc2
    omega
  | succ d ih =>
    intro j o hj
    have es : ly H.1 (S 3).2.2 (j + 1) = if wq ((S 3).2.2 j) then s2 (ly H.1 (S 3).2.2 j) 1 j ((S 3).2.2 j).toInt32 else ly H.1 (S 3).2.2 j := rfl
    have el : lyn (S 3).2.2 (j + 1) = lyn (S 3).2.2 j + (if wq ((S 3).2.2 j) then 1 else 0) := rfl
    have h := ih (j + 1) (some (.long ((S 3).2.2 j))) (by omega)
    rw [es, el, ← nI_1 j] at h
    refine zgo hZ 40 99 rfl ?_
    refine ⟨fun hc => ?_, fun hc => ⟨fun hc2 => ?_, fun hc2 => ⟨j, by omega, rfl, fun h1 => ?_, fun h1 => ⟨fun h2 => ?_, fun h2 => ⟨j, by omega, rfl, ?_⟩⟩⟩⟩⟩
    · have hc : (S 3).2.1 ≤ nI j := hc
      rw [ile hs1 rfl (by omega) (by omega)] at hc
      omega
    · have hc2 : ly H.1 (S 3).2.2 j 8 2 ≤ nI j := hc2
      rw [ile (en j) rfl (by omega) (by omega)] at hc2
      omega
    · rw [if_neg (fun z => (wq_i.mp z).1 h1), if_neg (fun z => (wq_i.mp z).1 h1), Int32.add_zero] at h
      exact h
    · rw [if_neg (fun z => (wq_i.mp z).2 h2), if_neg (fun z => (wq_i.mp z).2 h2), Int32.add_zero] at h
      exact h
    · rw [if_pos (wq_i.mpr ⟨h1, h2⟩), if_pos (wq_i.mpr ⟨h1, h2⟩)] at h
      exact h
set_option maxRecDepth 100000 in
set_option maxHeartbeats 400000 in
theorem c_lays3 {SM : zC} {SF : Nat → zQ → zP} (hZ : zZ SM SF) {Q : zQ} {H A K : zHl} {kp : Int32} {T : zTp} {S : Nat → zSh} {F : Nat → Int32} {m : zMs} {D : Nat} (hw : wf D H.1) (hS : wS S) (k : Q (some (.int (ly1 S H.1 F 3).1)) (gh (((ly1 S H.1 F 3).2.1, H.2), A, K, kp, T, S, (ly1 S H.1 F 3).2.2) m)) : SF mn_X_lays Q 20 [some (.ref 0), some (.int (nI 3)), none, none, none, none, none] [.ref 40] (0, 0) (gh (H, A, K, kp, T, S, F) m) := by
  unfold ly1 at k
  refine zgo hZ 40 50 rfl ?_
  refine c_isMissing3 hZ (fun h1 => ⟨nt, fun _ => ?_⟩) (fun h1 => ⟨fun _ => ?_, nf⟩)
  · rw [if_pos h1] at k
    exact c_tell hZ 5 (by decide) rfl k
  · rw [if_neg h1] at k
    exact c_lays3_l hZ hw hS k (min (sz S 3) (nn H.1)) 0 none (by omega)
set_option maxRecDepth 100000 in
set_option maxHeartbeats 400000 in
theorem c_lays {SM : zC} {SF : Nat → zQ → zP} (hZ : zZ SM SF) {Q : zQ} {H A K : zHl} {kp : Int32} {T : zTp} {S : Nat → zSh} {F : Nat → Int32} {m : zMs} {D : Nat} (hw : wf D H.1) (hS : wS S) {s : Int32} (k : Q (some (.int (sp_lays S H.1 F s).1)) (gh (((sp_lays S H.1 F s).2.1, H.2), A, K, kp, T, S, (sp_lays S H.1 F s).2.2) m)) : SM mn_X_lays [.ref 0, .int s] (gh (H, A, K, kp, T, S, F) m) Q := by
  refine zin hZ 20 99 rfl rfl rfl ?_
  refine c_isNoSheet hZ (fun h => ⟨nt, fun _ => ?_⟩) (fun h => ⟨fun _ => ?_, nf⟩)
  · unfold sp_lays at k
    rw [if_neg (fun z => h (zIn4.mpr z))] at k
    exact c_tell hZ 0 (by decide) rfl k
  · obtain ⟨t, ht, rfl⟩ := h
    rw [sp_lays_y ht] at k
    match t, ht with
    | 0, _ => exact ⟨0, by decide, rfl, 34, rfl, c_lays0 hZ hw hS k⟩
    | 1, _ => exact ⟨1, by decide, rfl, 36, rfl, c_lays1 hZ hw hS k⟩
    | 2, _ => exact ⟨2, by decide, rfl, 38, rfl, c_lays2 hZ hw hS k⟩
    | 3, _ => exact ⟨3, by decide, rfl, 40, rfl, c_lays3 hZ hw hS k⟩
def bk1 (S : Nat → zSh) (σ : zS) (F : Nat → Int32) (t : Nat) (c : Int32) : zA4 :=
  if (S t).1 = 0 then (-1000000006, S, upd F 5 (F 5 + 1))
    else if inC σ c then ((S t).2.1, bkS S t (fun l => (sg σ l 6 (ix c)).toInt64) (sz S t), F) else (-1000000001, S, upd F 0 (F 0 + 1))
theorem sp_book_y {S : Nat → zSh} {σ : zS} {F : Nat → Int32} {t : Nat} {c : Int32} (ht : t < 4) : sp_book S σ F (nI t) c = bk1 S σ F t c := by
  unfold sp_book bk1
  rw [if_pos (zIn4.mp ⟨t, ht, rfl⟩), ix_nI (show t < 1000 by omega)]
set_option maxRecDepth 100000 in
set_option maxHeartbeats 400000 in
theorem c_book0_l {SM : zC} {SF : Nat → zQ → zP} (hZ : zZ SM SF) {Q : zQ} {H A K : zHl} {kp : Int32} {T : zTp} {S : Nat → zSh} {F : Nat → Int32} {m : zMs} {D c : Nat} (hw : wf D H.1) (hD : D ≤ 17000) (hS : wS S) (hc : c < 8) {w : Nat → Int64} (hwe : ∀ l, w l = (sg H.1 l 6 c).toInt64)
    (k : ∀ A', Q (some (.int (S 0).2.1)) (gh (H, A', K, kp, T, bkS S 0 w (sz S 0), F) m)) :
    ∀ d j, j + d = sz S 0 → SF mn_X_book Q 64 [some (.ref 0), some (.int (nI 0)), some (.int (nI c)), some (.ref 34), some (.int (nI j))] [] (0, 0) (gh (H, sus (H.1, A.2) j, K, kp, T, bkS S 0 w j, F) m) := by
  obtain ⟨hs1, hs2⟩ := hS 0 (by decide)
  have en : ∀ j, (bkS S 0 w j 0).2.1 = nI (sz S 0) := fun j => by rw [bkS_t]; exact hs1
  intro d
  induction d with
  | zero =>
    intro j hj
    have hj : j = sz S 0 := by omega
    subst hj
    refine zgo hZ 64 99 rfl ?_
    refine ⟨fun hc => ?_, fun hc => ?_⟩
    · exact k _
    · have hc : ¬ (bkS S 0 w (sz S 0) 0).2.1 ≤ nI (sz S 0) := hc
      rw [ile (en _) rfl (by omega) (by omega)] at hc
      omega
  | succ d ih =>
    intro j hj
    have hwj := (sus_wf (H := (H.1, A.2)) hw j (by omega)).1
    have h := ih (j + 1) (by omega)
    have ew : ((sus (H.1, A.2) j).1 6 c).toInt64 = w j := by rw [hwe, sgA]
    rw [← nI_1 j, bkS_s] at h
    refine zgo hZ 64 99 rfl ?_
    refine ⟨fun hc => ?_, fun _ => ⟨c, hc, rfl, ?_⟩⟩
    · have hc : (bkS S 0 w j 0).2.1 ≤ nI j := hc
      rw [ile (en _) rfl (by omega) (by omega)] at hc
      omega
    · refine c_Sput0 (S := bkS S 0 w j) hZ (show j < 40 by omega) ?_
      refine c_goOneSunday2 hZ hwj (by omega) ?_
      rw [ew]
      exact h
set_option maxRecDepth 100000 in
set_option maxHeartbeats 400000 in
theorem c_book0 {SM : zC} {SF : Nat → zQ → zP} (hZ : zZ SM SF) {Q : zQ} {H A K : zHl} {kp : Int32} {T : zTp} {S : Nat → zSh} {F : Nat → Int32} {m : zMs} {D : Nat} (hw : wf D H.1) (hD : D ≤ 17000) (hS : wS S) {c : Int32} (k : ∀ A', Q (some (.int (bk1 S H.1 F 0 c).1)) (gh (H, A', K, kp, T, (bk1 S H.1 F 0 c).2.1, (bk1 S H.1 F 0 c).2.2) m)) : SF mn_X_book Q 20 [some (.ref 0), some (.int (nI 0)), some (.int c), none, none] [.ref 34] (0, 0) (gh (H, A, K, kp, T, S, F) m) := by
  unfold bk1 at k
  refine zgo hZ 64 50 rfl ?_
  refine c_isMissing0 hZ (fun h1 => ⟨nt, fun _ => ?_⟩) (fun h1 => ⟨fun _ => ?_, nf⟩)
  · rw [if_pos h1] at k
    exact c_tell hZ 5 (by decide) rfl (k A)
  · rw [if_neg h1] at k
    refine c_isNoCouple hZ hw.2.2.2.2.1 hw.2.2.2.2.2 (fun h2 => ⟨nt, fun _ => ?_⟩) (fun h2 => ⟨fun _ => ?_, nf⟩)
    · rw [if_neg (fun z => h2 ((inC_iff hw c).mp z))] at k
      exact c_tell hZ 0 (by decide) rfl (k A)
    · rw [if_pos ((inC_iff hw c).mpr h2)] at k
      obtain ⟨j, hj1, hj2, rfl, hj3⟩ := inC_get hw h2
      rw [hj3] at k
      refine c_becomeAH hZ ?_
      have h := c_book0_l (H := H) (A := A) (K := K) (kp := kp) (T := T) (S := S) (F := F) (m := m) hZ hw hD hS hj2 (fun l => rfl) k (sz S 0) 0 (by omega)
      rw [bkS_0] at h
      exact h
set_option maxRecDepth 100000 in
set_option maxHeartbeats 400000 in
theorem c_book1_l {SM : zC} {SF : Nat → zQ → zP} (hZ : zZ SM SF) {Q : zQ} {H A K : zHl} {kp : Int32} {T : zTp} {S : Nat → zSh} {F : Nat → Int32} {m : zMs} {D c : Nat} (hw : wf D H.1) (hD : D ≤ 17000) (hS : wS S) (hc : c < 8) {w : Nat → Int64} (hwe : ∀ l, w l = (sg H.1 l 6 c).toInt64)
    (k : ∀ A', Q (some (.int (S 1).2.1)) (gh (H, A', K, kp, T, bkS S 1 w (sz S 1), F) m)) :
    ∀ d j, j + d = sz S 1 → SF mn_X_book Q 64 [some (.ref 0), some (.int (nI 1)), some (.int (nI c)), some (.ref 36), some (.int (nI j))] [] (0, 0) (gh (H, sus (H.1, A.2) j, K, kp, T, bkS S 1 w j, F) m) := by
  obtain ⟨hs1, hs2⟩ := hS 1 (by decide)
  have en : ∀ j, (bkS S 1 w j 1).2.1 = nI (sz S 1) := fun j => by rw [bkS_t]; exact hs1
  intro d
  induction d with
  | zero =>
    intro j hj
    have hj : j = sz S 1 := by omega
    subst hj
    refine zgo hZ 64 99 rfl ?_
    refine ⟨fun hc => ?_, fun hc => ?_⟩
    · exact k _
    · have hc : ¬ (bkS S 1 w (sz S 1) 1).2.1 ≤ nI (sz S 1) := hc
      rw [ile (en _) rfl (by omega) (by omega)] at hc
      omega
  | succ d ih =>
    intro j hj
    have hwj := (sus_wf (H := (H.1, A.2)) hw j (by omega)).1
    have h := ih (j + 1) (by omega)
    have ew : ((sus (H.1, A.2) j).1 6 c).toInt64 = w j := by rw [hwe, sgA]
    rw [← nI_1 j, bkS_s] at h
    refine zgo hZ 64 99 rfl ?_
    refine ⟨fun hc => ?_, fun _ => ⟨c, hc, rfl, ?_⟩⟩
    · have hc : (bkS S 1 w j 1).2.1 ≤ nI j := hc
      rw [ile (en _) rfl (by omega) (by omega)] at hc
      omega
    · refine c_Sput1 (S := bkS S 1 w j) hZ (show j < 40 by omega) ?_
      refine c_goOneSunday2 hZ hwj (by omega) ?_
      rw [ew]
      exact h
set_option maxRecDepth 100000 in
set_option maxHeartbeats 400000 in
theorem c_book1 {SM : zC} {SF : Nat → zQ → zP} (hZ : zZ SM SF) {Q : zQ} {H A K : zHl} {kp : Int32} {T : zTp} {S : Nat → zSh} {F : Nat → Int32} {m : zMs} {D : Nat} (hw : wf D H.1) (hD : D ≤ 17000) (hS : wS S) {c : Int32} (k : ∀ A', Q (some (.int (bk1 S H.1 F 1 c).1)) (gh (H, A', K, kp, T, (bk1 S H.1 F 1 c).2.1, (bk1 S H.1 F 1 c).2.2) m)) : SF mn_X_book Q 20 [some (.ref 0), some (.int (nI 1)), some (.int c), none, none] [.ref 36] (0, 0) (gh (H, A, K, kp, T, S, F) m) := by
  unfold bk1 at k
  refine zgo hZ 64 50 rfl ?_
  refine c_isMissing1 hZ (fun h1 => ⟨nt, fun _ => ?_⟩) (fun h1 => ⟨fun _ => ?_, nf⟩)
  · rw [if_pos h1] at k
    exact c_tell hZ 5 (by decide) rfl (k A)
  · rw [if_neg h1] at k
    refine c_isNoCouple hZ hw.2.2.2.2.1 hw.2.2.2.2.2 (fun h2 => ⟨nt, fun _ => ?_⟩) (fun h2 => ⟨fun _ => ?_, nf⟩)
    · rw [if_neg (fun z => h2 ((inC_iff hw c).mp z))] at k
      exact c_tell hZ 0 (by decide) rfl (k A)
    · rw [if_pos ((inC_iff hw c).mpr h2)] at k
      obtain ⟨j, hj1, hj2, rfl, hj3⟩ := inC_get hw h2
      rw [hj3] at k
      refine c_becomeAH hZ ?_
      have h := c_book1_l (H := H) (A := A) (K := K) (kp := kp) (T := T) (S := S) (F := F) (m := m) hZ hw hD hS hj2 (fun l => rfl) k (sz S 1) 0 (by omega)
      rw [bkS_0] at h
      exact h
set_option maxRecDepth 100000 in
set_option maxHeartbeats 400000 in
theorem c_book2_l {SM : zC} {SF : Nat → zQ → zP} (hZ : zZ SM SF) {Q : zQ} {H A K : zHl} {kp : Int32} {T : zTp} {S : Nat → zSh} {F : Nat → Int32} {m : zMs} {D c : Nat} (hw : wf D H.1) (hD : D ≤ 17000) (hS : wS S) (hc : c < 8) {w : Nat → Int64} (hwe : ∀ l, w l = (sg H.1 l 6 c).toInt64)
    (k : ∀ A', Q (some (.int (S 2).2.1)) (gh (H, A', K, kp, T, bkS S 2 w (sz S 2), F) m)) :
    ∀ d j, j + d = sz S 2 → SF mn_X_book Q 64 [some (.ref 0), some (.int (nI 2)), some (.int (nI c)), some (.ref 38), some (.int (nI j))] [] (0, 0) (gh (H, sus (H.1, A.2) j, K, kp, T, bkS S 2 w j, F) m) := by
  obtain ⟨hs1, hs2⟩ := hS 2 (by decide)
  have en : ∀ j, (bkS S 2 w j 2).2.1 = nI (sz S 2) := fun j => by rw [bkS_t]; exact hs1
  intro d
  induction d with
  | zero =>
    intro j hj
    have hj : j = sz S 2 := by omega
    subst hj
    refine zgo hZ 64 99 rfl ?_
    refine ⟨fun hc => ?_, fun hc => ?_⟩
    · exact k _
    · have hc : ¬ (bkS S 2 w (sz S 2) 2).2.1 ≤ nI (sz S 2) := hc
      rw [ile (en _) rfl (by omega) (by omega)] at hc
      omega
  | succ d ih =>
    intro j hj
    have hwj := (sus_wf (H := (H.1, A.2)) hw j (by omega)).1
    have h := ih (j + 1) (by omega)
    have ew : ((sus (H.1, A.2) j).1 6 c).toInt64 = w j := by rw [hwe, sgA]
    rw [← nI_1 j, bkS_s] at h
    refine zgo hZ 64 99 rfl ?_
    refine ⟨fun hc => ?_, fun _ => ⟨c, hc, rfl, ?_⟩⟩
    · have hc : (bkS S 2 w j 2).2.1 ≤ nI j := hc
      rw [ile (en _) rfl (by omega) (by omega)] at hc
      omega
    · refine c_Sput2 (S := bkS S 2 w j) hZ (show j < 40 by omega) ?_
      refine c_goOneSunday2 hZ hwj (by omega) ?_
      rw [ew]
      exact h
set_option maxRecDepth 100000 in
set_option maxHeartbeats 400000 in
theorem c_book2 {SM : zC} {SF : Nat → zQ → zP} (hZ : zZ SM SF) {Q : zQ} {H A K : zHl} {kp : Int32} {T : zTp} {S : Nat → zSh} {F : Nat → Int32} {m : zMs} {D : Nat} (hw : wf D H.1) (hD : D ≤ 17000) (hS : wS S) {c : Int32} (k : ∀ A', Q (some (.int (bk1 S H.1 F 2 c).1)) (gh (H, A', K, kp, T, (bk1 S H.1 F 2 c).2.1, (bk1 S H.1 F 2 c).2.2) m)) : SF mn_X_book Q 20 [some (.ref 0), some (.int (nI 2)), some (.int c), none, none] [.ref 38] (0, 0) (gh (H, A, K, kp, T, S, F) m) := by
  unfold bk1 at k
  refine zgo hZ 64 50 rfl ?_
  refine c_isMissing2 hZ (fun h1 => ⟨nt, fun _ => ?_⟩) (fun h1 => ⟨fun _ => ?_, nf⟩)
  · rw [if_pos h1] at k
    exact c_tell hZ 5 (by decide) rfl (k A)
  · rw [if_neg h1] at k
    refine c_isNoCouple hZ hw.2.2.2.2.1 hw.2.2.2.2.2 (fun h2 => ⟨nt, fun _ => ?_⟩) (fun h2 => ⟨fun _ => ?_, nf⟩)
    · rw [if_neg (fun z => h2 ((inC_iff hw c).mp z))] at k
      exact c_tell hZ 0 (by decide) rfl (k A)
    · rw [if_pos ((inC_iff hw c).mpr h2)] at k
      obtain ⟨j, hj1, hj2, rfl, hj3⟩ := inC_get hw h2
      rw [hj3] at k
      refine c_becomeAH hZ ?_
      have h := c_book2_l (H := H) (A := A) (K := K) (kp := kp) (T := T) (S := S) (F := F) (m := m) hZ hw hD hS hj2 (fun l => rfl) k (sz S 2) 0 (by omega)
      rw [bkS_0] at h
      exact h
set_option maxRecDepth 100000 in
set_option maxHeartbeats 400000 in
theorem c_book3_l {SM : zC} {SF : Nat → zQ → zP} (hZ : zZ SM SF) {Q : zQ} {H A K : zHl} {kp : Int32} {T : zTp} {S : Nat → zSh} {F : Nat → Int32} {m : zMs} {D c : Nat} (hw : wf D H.1) (hD : D ≤ 17000) (hS : wS S) (hc : c < 8) {w : Nat → Int64} (hwe : ∀ l, w l = (sg H.1 l 6 c).toInt64)
    (k : ∀ A', Q (some (.int (S 3).2.1)) (gh (H, A', K, kp, T, bkS S 3 w (sz S 3), F) m)) :
    ∀ d j, j + d = sz S 3 → SF mn_X_book Q 64 [some (.ref 0), some (.int (nI 3)), some (.int (nI c)), some (.ref 40), some (.int (nI j))] [] (0, 0) (gh (H, sus (H.1, A.2) j, K, kp, T, bkS S 3 w j, F) m) := by
  obtain ⟨hs1, hs2⟩ := hS 3 (by decide)
  have en : ∀ j, (bkS S 3 w j 3).2.1 = nI (sz S 3) := fun j => by rw [bkS_t]; exact hs1
  intro d
  induction d with
  | zero =>
    intro j hj
    have hj : j = sz S 3 := by omega
    subst hj
    refine zgo hZ 64 99 rfl ?_
    refine ⟨fun hc => ?_, fun hc => ?_⟩
    · exact k _
    · have hc : ¬ (bkS S 3 w (sz S 3) 3).2.1 ≤ nI (sz S 3) := hc
      rw [ile (en _) rfl (by omega) (by omega)] at hc
      omega
  | succ d ih =>
    intro j hj
    have hwj := (sus_wf (H := (H.1, A.2)) hw j (by omega)).1
    have h := ih (j + 1) (by omega)
    have ew : ((sus (H.1, A.2) j).1 6 c).toInt64 = w j := by rw [hwe, sgA]
    rw [← nI_1 j, bkS_s] at h
    refine zgo hZ 64 99 rfl ?_
    refine ⟨fun hc => ?_, fun _ => ⟨c, hc, rfl, ?_⟩⟩
    · have hc : (bkS S 3 w j 3).2.1 ≤ nI j := hc
      rw [ile (en _) rfl (by omega) (by omega)] at hc
      omega
    · refine c_Sput3 (S := bkS S 3 w j) hZ (show j < 40 by omega) ?_
      refine c_goOneSunday2 hZ hwj (by omega) ?_
      rw [ew]
      exact h
set_option maxRecDepth 100000 in
set_option maxHeartbeats 400000 in
theorem c_book3 {SM : zC} {SF : Nat → zQ → zP} (hZ : zZ SM SF) {Q : zQ} {H A K : zHl} {kp : Int32} {T : zTp} {S : Nat → zSh} {F : Nat → Int32} {m : zMs} {D : Nat} (hw : wf D H.1) (hD : D ≤ 17000) (hS : wS S) {c : Int32} (k : ∀ A', Q (some (.int (bk1 S H.1 F 3 c).1)) (gh (H, A', K, kp, T, (bk1 S H.1 F 3 c).2.1, (bk1 S H.1 F 3 c).2.2) m)) : SF mn_X_book Q 20 [some (.ref 0), some (.int (nI 3)), some (.int c), none, none] [.ref 40] (0, 0) (gh (H, A, K, kp, T, S, F) m) := by
  unfold bk1 at k
  refine zgo hZ 64 50 rfl ?_
  refine c_isMissing3 hZ (fun h1 => ⟨nt, fun _ => ?_⟩) (fun h1 => ⟨fun _ => ?_, nf⟩)
  · rw [if_pos h1] at k
    exact c_tell hZ 5 (by decide) rfl (k A)
  · rw [if_neg h1] at k
    refine c_isNoCouple hZ hw.2.2.2.2.1 hw.2.2.2.2.2 (fun h2 => ⟨nt, fun _ => ?_⟩) (fun h2 => ⟨fun _ => ?_, nf⟩)
    · rw [if_neg (fun z => h2 ((inC_iff hw c).mp z))] at k
      exact c_tell hZ 0 (by decide) rfl (k A)
    · rw [if_pos ((inC_iff hw c).mpr h2)] at k
      obtain ⟨j, hj1, hj2, rfl, hj3⟩ := inC_get hw h2
      rw [hj3] at k
      refine c_becomeAH hZ ?_
      have h := c_book3_l (H := H) (A := A) (K := K) (kp := kp) (T := T) (S := S) (F := F) (m := m) hZ hw hD hS hj2 (fun l => rfl) k (sz S 3) 0 (by omega)
      rw [bkS_0] at h
      exact h
set_option maxRecDepth 100000 in
set_option maxHeartbeats 400000 in
theorem c_book {SM : zC} {SF : Nat → zQ → zP} (hZ : zZ SM SF) {Q : zQ} {H A K : zHl} {kp : Int32} {T : zTp} {S : Nat → zSh} {F : Nat → Int32} {m : zMs} {D : Nat} (hw : wf D H.1) (hD : D ≤ 17000) (hS : wS S) {s c : Int32} (k : ∀ A', Q (some (.int (sp_book S H.1 F s c).1)) (gh (H, A', K, kp, T, (sp_book S H.1 F s c).2.1, (sp_book S H.1 F s c).2.2) m)) : SM mn_X_book [.ref 0, .int s, .int c] (gh (H, A, K, kp, T, S, F) m) Q := by
  refine zin hZ 20 99 rfl rfl rfl ?_
  refine c_isNoSheet hZ (fun h => ⟨nt, fun _ => ?_⟩) (fun h => ⟨fun _ => ?_, nf⟩)
  · unfold sp_book at k
    rw [if_neg (fun z => h (zIn4.mpr z))] at k
    exact c_tell hZ 0 (by decide) rfl (k A)
  · obtain ⟨t, ht, rfl⟩ := h
    rw [sp_book_y ht] at k
    match t, ht with
    | 0, _ => exact ⟨0, by decide, rfl, 34, rfl, c_book0 hZ hw hD hS k⟩
    | 1, _ => exact ⟨1, by decide, rfl, 36, rfl, c_book1 hZ hw hD hS k⟩
    | 2, _ => exact ⟨2, by decide, rfl, 38, rfl, c_book2 hZ hw hD hS k⟩
    | 3, _ => exact ⟨3, by decide, rfl, 40, rfl, c_book3 hZ hw hD hS k⟩
