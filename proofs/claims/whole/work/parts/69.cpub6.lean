/-! THE CLASS'S CALLS, sixth part: read, image, undo, tear, count, status, feed, wipe -/
set_option maxRecDepth 100000 in
set_option maxHeartbeats 400000 in
theorem c_goes0_l {SM : zC} {SF : Nat → zQ → zP} (hZ : zZ SM SF) {Q : zQ} {H A K : zHl} {kp : Int32} {T : zTp} {S : Nat → zSh} {F : Nat → Int32} {m : zMs} {D c : Nat} (hw : wf D A.1) (hD : D ≤ 17000) (hS : wS S) (hc : c < 8)
    (kt : isb S 0 A.1 c → ∀ A', Q (some (.int 1)) (gh (H, A', K, kp, T, S, F) m)) (kf : ¬ isb S 0 A.1 c → ∀ A', Q (some (.int 0)) (gh (H, A', K, kp, T, S, F) m)) :
    ∀ d j, j + d = sz S 0 → (∀ l, l < j → (S 0).2.2 l = (sg A.1 l 6 c).toInt64) → SF mn_X_goesAsBooked Q 2 [some (.ref 0), some (.ref 34), some (.int (nI c)), some (.int (nI j))] [] (0, 0) (gh (H, sus A j, K, kp, T, S, F) m) := by
  obtain ⟨hs1, hs2⟩ := hS 0 (by decide)
  intro d
  induction d with
  | zero =>
    intro j hj hl
    have hj : j = sz S 0 := by omega
    subst hj
    refine zgo hZ 2 99 rfl ?_
    refine ⟨fun _ => ⟨Or.inr rfl, kt hl _⟩, fun hc => ?_⟩
    have hc : ¬ (S 0).2.1 ≤ nI (sz S 0) := hc
    rw [ile hs1 rfl (by omega) (by omega)] at hc
    omega
  | succ d ih =>
    intro j hj hl
    have hwj := (sus_wf (H := A) hw j (by omega)).1
    have e1 : (sus A j).1 6 c = sg A.1 j 6 c := by rw [show sus A j = sus (A.1, A.2) j from rfl, sgA]
    refine zgo hZ 2 99 rfl ?_
    refine ⟨fun hc => ?_, fun _ => ⟨c, hc, rfl, j, by omega, rfl, fun h1 => ?_, fun h1 => ?_⟩⟩
    · have hc : (S 0).2.1 ≤ nI j := hc
      rw [ile hs1 rfl (by omega) (by omega)] at hc
      omega
    · have h1 : ((sus A j).1 6 c).toInt64 = (S 0).2.2 j := (lcmp_eq _ _).mp h1
      rw [e1] at h1
      have h := ih (j + 1) (by omega) (fun l hl2 => by
        rcases Nat.lt_or_ge l j with h3 | h3
        · exact hl l h3
        · rw [show l = j by omega]; exact h1.symm)
      rw [← nI_1 j] at h
      exact c_goOneSunday2 hZ hwj (by omega) h
    · have h1 : ¬ ((sus A j).1 6 c).toInt64 = (S 0).2.2 j := fun z => h1 ((lcmp_eq _ _).mpr z)
      rw [e1] at h1
      exact ⟨Or.inl rfl, kf (fun z => h1 (z j (by omega)).symm) _⟩
theorem c_goes0 {SM : zC} {SF : Nat → zQ → zP} (hZ : zZ SM SF) {Q : zQ} {H A K : zHl} {kp : Int32} {T : zTp} {S : Nat → zSh} {F : Nat → Int32} {m : zMs} {D c : Nat} (hw : wf D A.1) (hD : D ≤ 17000) (hS : wS S) (hc : c < 8)
    (kt : isb S 0 A.1 c → ∀ A', Q (some (.int 1)) (gh (H, A', K, kp, T, S, F) m)) (kf : ¬ isb S 0 A.1 c → ∀ A', Q (some (.int 0)) (gh (H, A', K, kp, T, S, F) m)) : SM mn_X_goesAsBooked [.ref 0, .ref 34, .int (nI c)] (gh (H, A, K, kp, T, S, F) m) Q := by
  refine zin hZ 2 99 rfl rfl rfl ?_
  exact c_goes0_l hZ hw hD hS hc kt kf (sz S 0) 0 (by omega) (fun l hl => by omega)
set_option maxRecDepth 100000 in
set_option maxHeartbeats 400000 in
theorem c_read0_i {SM : zC} {SF : Nat → zQ → zP} (hZ : zZ SM SF) {Q : zQ} {H A K : zHl} {kp : Int32} {T : zTp} {S : Nat → zSh} {F : Nat → Int32} {m : zMs} {D c i : Nat} (hw : wf D H.1) (hD : D ≤ 17000) (hS : wS S) (hc : c < 8) (hi : i < 8) {u : Nat} (hu : u < 6)
    (k : ∀ A' o, SF mn_X_read Q 66 [some (.ref 0), some (.int (nI 0)), some (.int (nI c)), some (.int (nI i)), some (.ref 34), some (.int (rdn S 0 H.1 i c (10 * (u + 1)))), some (.int (nI (u + 1))), o] [] (0, 0) (gh (H, A', K, kp, T, S, F) m)) :
    ∀ d l A', l + d = 10 → SF mn_X_read Q 76 [some (.ref 0), some (.int (nI 0)), some (.int (nI c)), some (.int (nI i)), some (.ref 34), some (.int (rdn S 0 H.1 i c (10 * u + l))), some (.int (nI u)), some (.int (nI l))] [] (0, 0) (gh (H, A', K, kp, T, S, F) m) := by
  intro d
  induction d with
  | zero =>
    intro l A' hl
    have hl : l = 10 := by omega
    subst hl
    refine zgo hZ 66 99 rfl ?_
    refine ⟨fun _ => ?_, fun h => absurd ((ilt (a := 9) (m := 9) rfl rfl (by omega) (by omega)).mpr (by omega)) h⟩
    have h := k A' (some (.int (nI 10)))
    rw [← nI_1 u, show 10 * (u + 1) = 10 * u + 10 by omega] at h
    exact h
  | succ d ih =>
    intro l A' hl
    have ih2 := fun A' => ih (l + 1) A' (by omega)
    rw [← nI_1 l, show 10 * u + (l + 1) = (10 * u + l) + 1 by omega, show rdn S 0 H.1 i c (10 * u + l + 1) = rdn S 0 H.1 i c (10 * u + l) + (if isb S 0 (rdσ H.1 i c (10 * u + l)) c then 1 else 0) from rfl] at ih2
    obtain ⟨w1, w2⟩ := rd_wf hw (i := i) (c := c) (p := 10 * u + l) (by omega)
    have e1 : rdσ H.1 i c (10 * u + l) = s2 (s2 H.1 0 i (nI u)) 5 c (nI l) := by
      unfold rdσ
      rw [show (10 * u + l) / 10 = u by omega, show (10 * u + l) % 10 = l by omega]
    rw [e1] at ih2 w1
    refine zgo hZ 76 99 rfl ?_
    refine ⟨fun h => ?_, fun _ => ?_⟩
    · have := (ilt (a := 9) (m := 9) rfl rfl (by omega) (by omega)).mp h
      omega
    · refine c_becomeAH hZ ?_
      refine ⟨i, hi, rfl, c, hc, rfl, ?_⟩
      refine c_goes0 (H := H) (A := (s2 (s2 H.1 0 i (nI u)) 5 c (nI l), A'.2)) (K := K) (kp := kp) (T := T) (S := S) (F := F) (m := m) hZ w1 hD hS hc (fun h1 A2 => ⟨nt, fun _ => ?_⟩) (fun h1 A2 => ⟨fun _ => ?_, nf⟩)
      · rw [if_pos h1] at ih2
        exact ih2 A2
      · rw [if_neg h1, Int32.add_zero] at ih2
        exact ih2 A2
set_option maxRecDepth 100000 in
set_option maxHeartbeats 400000 in
theorem c_read0_l {SM : zC} {SF : Nat → zQ → zP} (hZ : zZ SM SF) {Q : zQ} {H A K : zHl} {kp : Int32} {T : zTp} {S : Nat → zSh} {F : Nat → Int32} {m : zMs} {D c i : Nat} (hw : wf D H.1) (hD : D ≤ 17000) (hS : wS S) (hc : c < 8) (hi : i < 8) (k : ∀ A', Q (some (.int (rdn S 0 H.1 i c 60))) (gh (H, A', K, kp, T, S, F) m)) :
    ∀ d u A' o, u + d = 6 → SF mn_X_read Q 66 [some (.ref 0), some (.int (nI 0)), some (.int (nI c)), some (.int (nI i)), some (.ref 34), some (.int (rdn S 0 H.1 i c (10 * u))), some (.int (nI u)), o] [] (0, 0) (gh (H, A', K, kp, T, S, F) m) := by
  intro d
  induction d with
  | zero =>
    intro u A' o hu
    have hu : u = 6 := by omega
    subst hu
    refine zgo hZ 66 99 rfl ?_
    exact ⟨fun _ => k _, fun h => absurd ((ile (a := 6) (m := 6) rfl rfl (by omega) (by omega)).mpr (by omega)) h⟩
  | succ d ih =>
    intro u A' o hu
    refine zgo hZ 76 99 rfl ?_
    refine ⟨fun h => ?_, fun _ => ?_⟩
    · have := (ile (a := 6) (m := 6) rfl rfl (by omega) (by omega)).mp h
      omega
    · exact c_read0_i (A := A) hZ hw hD hS hc hi (show u < 6 by omega) (fun A' o => ih (u + 1) A' o (by omega)) 10 0 A' (by omega)
set_option maxRecDepth 100000 in
set_option maxHeartbeats 400000 in
theorem c_goes1_l {SM : zC} {SF : Nat → zQ → zP} (hZ : zZ SM SF) {Q : zQ} {H A K : zHl} {kp : Int32} {T : zTp} {S : Nat → zSh} {F : Nat → Int32} {m : zMs} {D c : Nat} (hw : wf D A.1) (hD : D ≤ 17000) (hS : wS S) (hc : c < 8)
    (kt : isb S 1 A.1 c → ∀ A', Q (some (.int 1)) (gh (H, A', K, kp, T, S, F) m)) (kf : ¬ isb S 1 A.1 c → ∀ A', Q (some (.int 0)) (gh (H, A', K, kp, T, S, F) m)) :
    ∀ d j, j + d = sz S 1 → (∀ l, l < j → (S 1).2.2 l = (sg A.1 l 6 c).toInt64) → SF mn_X_goesAsBooked Q 2 [some (.ref 0), some (.ref 36), some (.int (nI c)), some (.int (nI j))] [] (0, 0) (gh (H, sus A j, K, kp, T, S, F) m) := by
  obtain ⟨hs1, hs2⟩ := hS 1 (by decide)
  intro d
  induction d with
  | zero =>
    intro j hj hl
    have hj : j = sz S 1 := by omega
    subst hj
    refine zgo hZ 2 99 rfl ?_
    refine ⟨fun _ => ⟨Or.inr rfl, kt hl _⟩, fun hc => ?_⟩
    have hc : ¬ (S 1).2.1 ≤ nI (sz S 1) := hc
    rw [ile hs1 rfl (by omega) (by omega)] at hc
    omega
  | succ d ih =>
    intro j hj hl
    have hwj := (sus_wf (H := A) hw j (by omega)).1
    have e1 : (sus A j).1 6 c = sg A.1 j 6 c := by rw [show sus A j = sus (A.1, A.2) j from rfl, sgA]
    refine zgo hZ 2 99 rfl ?_
    refine ⟨fun hc => ?_, fun _ => ⟨c, hc, rfl, j, by omega, rfl, fun h1 => ?_, fun h1 => ?_⟩⟩
    · have hc : (S 1).2.1 ≤ nI j := hc
      rw [ile hs1 rfl (by omega) (by omega)] at hc
      omega
    · have h1 : ((sus A j).1 6 c).toInt64 = (S 1).2.2 j := (lcmp_eq _ _).mp h1
      rw [e1] at h1
      have h := ih (j + 1) (by omega) (fun l hl2 => by
        rcases Nat.lt_or_ge l j with h3 | h3
        · exact hl l h3
        · rw [show l = j by omega]; exact h1.symm)
      rw [← nI_1 j] at h
      exact c_goOneSunday2 hZ hwj (by omega) h
    · have h1 : ¬ ((sus A j).1 6 c).toInt64 = (S 1).2.2 j := fun z => h1 ((lcmp_eq _ _).mpr z)
      rw [e1] at h1
      exact ⟨Or.inl rfl, kf (fun z => h1 (z j (by omega)).symm) _⟩
theorem c_goes1 {SM : zC} {SF : Nat → zQ → zP} (hZ : zZ SM SF) {Q : zQ} {H A K : zHl} {kp : Int32} {T : zTp} {S : Nat → zSh} {F : Nat → Int32} {m : zMs} {D c : Nat} (hw : wf D A.1) (hD : D ≤ 17000) (hS : wS S) (hc : c < 8)
    (kt : isb S 1 A.1 c → ∀ A', Q (some (.int 1)) (gh (H, A', K, kp, T, S, F) m)) (kf : ¬ isb S 1 A.1 c → ∀ A', Q (some (.int 0)) (gh (H, A', K, kp, T, S, F) m)) : SM mn_X_goesAsBooked [.ref 0, .ref 36, .int (nI c)] (gh (H, A, K, kp, T, S, F) m) Q := by
  refine zin hZ 2 99 rfl rfl rfl ?_
  exact c_goes1_l hZ hw hD hS hc kt kf (sz S 1) 0 (by omega) (fun l hl => by omega)
set_option maxRecDepth 100000 in
set_option maxHeartbeats 400000 in
theorem c_read1_i {SM : zC} {SF : Nat → zQ → zP} (hZ : zZ SM SF) {Q : zQ} {H A K : zHl} {kp : Int32} {T : zTp} {S : Nat → zSh} {F : Nat → Int32} {m : zMs} {D c i : Nat} (hw : wf D H.1) (hD : D ≤ 17000) (hS : wS S) (hc : c < 8) (hi : i < 8) {u : Nat} (hu : u < 6)
    (k : ∀ A' o, SF mn_X_read Q 66 [some (.ref 0), some (.int (nI 1)), some (.int (nI c)), some (.int (nI i)), some (.ref 36), some (.int (rdn S 1 H.1 i c (10 * (u + 1)))), some (.int (nI (u + 1))), o] [] (0, 0) (gh (H, A', K, kp, T, S, F) m)) :
    ∀ d l A', l + d = 10 → SF mn_X_read Q 76 [some (.ref 0), some (.int (nI 1)), some (.int (nI c)), some (.int (nI i)), some (.ref 36), some (.int (rdn S 1 H.1 i c (10 * u + l))), some (.int (nI u)), some (.int (nI l))] [] (0, 0) (gh (H, A', K, kp, T, S, F) m) := by
  intro d
  induction d with
  | zero =>
    intro l A' hl
    have hl : l = 10 := by omega
    subst hl
    refine zgo hZ 66 99 rfl ?_
    refine ⟨fun _ => ?_, fun h => absurd ((ilt (a := 9) (m := 9) rfl rfl (by omega) (by omega)).mpr (by omega)) h⟩
    have h := k A' (some (.int (nI 10)))
    rw [← nI_1 u, show 10 * (u + 1) = 10 * u + 10 by omega] at h
    exact h
  | succ d ih =>
    intro l A' hl
    have ih2 := fun A' => ih (l + 1) A' (by omega)
    rw [← nI_1 l, show 10 * u + (l + 1) = (10 * u + l) + 1 by omega, show rdn S 1 H.1 i c (10 * u + l + 1) = rdn S 1 H.1 i c (10 * u + l) + (if isb S 1 (rdσ H.1 i c (10 * u + l)) c then 1 else 0) from rfl] at ih2
    obtain ⟨w1, w2⟩ := rd_wf hw (i := i) (c := c) (p := 10 * u + l) (by omega)
    have e1 : rdσ H.1 i c (10 * u + l) = s2 (s2 H.1 0 i (nI u)) 5 c (nI l) := by
      unfold rdσ
      rw [show (10 * u + l) / 10 = u by omega, show (10 * u + l) % 10 = l by omega]
    rw [e1] at ih2 w1
    refine zgo hZ 76 99 rfl ?_
    refine ⟨fun h => ?_, fun _ => ?_⟩
    · have := (ilt (a := 9) (m := 9) rfl rfl (by omega) (by omega)).mp h
      omega
    · refine c_becomeAH hZ ?_
      refine ⟨i, hi, rfl, c, hc, rfl, ?_⟩
      refine c_goes1 (H := H) (A := (s2 (s2 H.1 0 i (nI u)) 5 c (nI l), A'.2)) (K := K) (kp := kp) (T := T) (S := S) (F := F) (m := m) hZ w1 hD hS hc (fun h1 A2 => ⟨nt, fun _ => ?_⟩) (fun h1 A2 => ⟨fun _ => ?_, nf⟩)
      · rw [if_pos h1] at ih2
        exact ih2 A2
      · rw [if_neg h1, Int32.add_zero] at ih2
        exact ih2 A2
set_option maxRecDepth 100000 in
set_option maxHeartbeats 400000 in
theorem c_read1_l {SM : zC} {SF : Nat → zQ → zP} (hZ : zZ SM SF) {Q : zQ} {H A K : zHl} {kp : Int32} {T : zTp} {S : Nat → zSh} {F : Nat → Int32} {m : zMs} {D c i : Nat} (hw : wf D H.1) (hD : D ≤ 17000) (hS : wS S) (hc : c < 8) (hi : i < 8) (k : ∀ A', Q (some (.int (rdn S 1 H.1 i c 60))) (gh (H, A', K, kp, T, S, F) m)) :
    ∀ d u A' o, u + d = 6 → SF mn_X_read Q 66 [some (.ref 0), some (.int (nI 1)), some (.int (nI c)), some (.int (nI i)), some (.ref 36), some (.int (rdn S 1 H.1 i c (10 * u))), some (.int (nI u)), o] [] (0, 0) (gh (H, A', K, kp, T, S, F) m) := by
  intro d
  induction d with
  | zero =>
    intro u A' o hu
    have hu : u = 6 := by omega
    subst hu
    refine zgo hZ 66 99 rfl ?_
    exact ⟨fun _ => k _, fun h => absurd ((ile (a := 6) (m := 6) rfl rfl (by omega) (by omega)).mpr (by omega)) h⟩
  | succ d ih =>
    intro u A' o hu
    refine zgo hZ 76 99 rfl ?_
    refine ⟨fun h => ?_, fun _ => ?_⟩
    · have := (ile (a := 6) (m := 6) rfl rfl (by omega) (by omega)).mp h
      omega
    · exact c_read1_i (A := A) hZ hw hD hS hc hi (show u < 6 by omega) (fun A' o => ih (u + 1) A' o (by omega)) 10 0 A' (by omega)
set_option maxRecDepth 100000 in
set_option maxHeartbeats 400000 in
theorem c_goes2_l {SM : zC} {SF : Nat → zQ → zP} (hZ : zZ SM SF) {Q : zQ} {H A K : zHl} {kp : Int32} {T : zTp} {S : Nat → zSh} {F : Nat → Int32} {m : zMs} {D c : Nat} (hw : wf D A.1) (hD : D ≤ 17000) (hS : wS S) (hc : c < 8)
    (kt : isb S 2 A.1 c → ∀ A', Q (some (.int 1)) (gh (H, A', K, kp, T, S, F) m)) (kf : ¬ isb S 2 A.1 c → ∀ A', Q (some (.int 0)) (gh (H, A', K, kp, T, S, F) m)) :
    ∀ d j, j + d = sz S 2 → (∀ l, l < j → (S 2).2.2 l = (sg A.1 l 6 c).toInt64) → SF mn_X_goesAsBooked Q 2 [some (.ref 0), some (.ref 38), some (.int (nI c)), some (.int (nI j))] [] (0, 0) (gh (H, sus A j, K, kp, T, S, F) m) := by
  obtain ⟨hs1, hs2⟩ := hS 2 (by decide)
  intro d
  induction d with
  | zero =>
    intro j hj hl
    have hj : j = sz S 2 := by omega
    subst hj
    refine zgo hZ 2 99 rfl ?_
    refine ⟨fun _ => ⟨Or.inr rfl, kt hl _⟩, fun hc => ?_⟩
    have hc : ¬ (S 2).2.1 ≤ nI (sz S 2) := hc
    rw [ile hs1 rfl (by omega) (by omega)] at hc
    omega
  | succ d ih =>
    intro j hj hl
    have hwj := (sus_wf (H := A) hw j (by omega)).1
    have e1 : (sus A j).1 6 c = sg A.1 j 6 c := by rw [show sus A j = sus (A.1, A.2) j from rfl, sgA]
    refine zgo hZ 2 99 rfl ?_
    refine ⟨fun hc => ?_, fun _ => ⟨c, hc, rfl, j, by omega, rfl, fun h1 => ?_, fun h1 => ?_⟩⟩
    · have hc : (S 2).2.1 ≤ nI j := hc
      rw [ile hs1 rfl (by omega) (by omega)] at hc
      omega
    · have h1 : ((sus A j).1 6 c).toInt64 = (S 2).2.2 j := (lcmp_eq _ _).mp h1
      rw [e1] at h1
      have h := ih (j + 1) (by omega) (fun l hl2 => by
        rcases Nat.lt_or_ge l j with h3 | h3
        · exact hl l h3
        · rw [show l = j by omega]; exact h1.symm)
      rw [← nI_1 j] at h
      exact c_goOneSunday2 hZ hwj (by omega) h
    · have h1 : ¬ ((sus A j).1 6 c).toInt64 = (S 2).2.2 j := fun z => h1 ((lcmp_eq _ _).mpr z)
      rw [e1] at h1
      exact ⟨Or.inl rfl, kf (fun z => h1 (z j (by omega)).symm) _⟩
theorem c_goes2 {SM : zC} {SF : Nat → zQ → zP} (hZ : zZ SM SF) {Q : zQ} {H A K : zHl} {kp : Int32} {T : zTp} {S : Nat → zSh} {F : Nat → Int32} {m : zMs} {D c : Nat} (hw : wf D A.1) (hD : D ≤ 17000) (hS : wS S) (hc : c < 8)
    (kt : isb S 2 A.1 c → ∀ A', Q (some (.int 1)) (gh (H, A', K, kp, T, S, F) m)) (kf : ¬ isb S 2 A.1 c → ∀ A', Q (some (.int 0)) (gh (H, A', K, kp, T, S, F) m)) : SM mn_X_goesAsBooked [.ref 0, .ref 38, .int (nI c)] (gh (H, A, K, kp, T, S, F) m) Q := by
  refine zin hZ 2 99 rfl rfl rfl ?_
  exact c_goes2_l hZ hw hD hS hc kt kf (sz S 2) 0 (by omega) (fun l hl => by omega)
set_option maxRecDepth 100000 in
set_option maxHeartbeats 400000 in
theorem c_read2_i {SM : zC} {SF : Nat → zQ → zP} (hZ : zZ SM SF) {Q : zQ} {H A K : zHl} {kp : Int32} {T : zTp} {S : Nat → zSh} {F : Nat → Int32} {m : zMs} {D c i : Nat} (hw : wf D H.1) (hD : D ≤ 17000) (hS : wS S) (hc : c < 8) (hi : i < 8) {u : Nat} (hu : u < 6)
    (k : ∀ A' o, SF mn_X_read Q 66 [some (.ref 0), some (.int (nI 2)), some (.int (nI c)), some (.int (nI i)), some (.ref 38), some (.int (rdn S 2 H.1 i c (10 * (u + 1)))), some (.int (nI (u + 1))), o] [] (0, 0) (gh (H, A', K, kp, T, S, F) m)) :
    ∀ d l A', l + d = 10 → SF mn_X_read Q 76 [some (.ref 0), some (.int (nI 2)), some (.int (nI c)), some (.int (nI i)), some (.ref 38), some (.int (rdn S 2 H.1 i c (10 * u + l))), some (.int (nI u)), some (.int (nI l))] [] (0, 0) (gh (H, A', K, kp, T, S, F) m) := by
  intro d
  induction d with
  | zero =>
    intro l A' hl
    have hl : l = 10 := by omega
    subst hl
    refine zgo hZ 66 99 rfl ?_
    refine ⟨fun _ => ?_, fun h => absurd ((ilt (a := 9) (m := 9) rfl rfl (by omega) (by omega)).mpr (by omega)) h⟩
    have h := k A' (some (.int (nI 10)))
    rw [← nI_1 u, show 10 * (u + 1) = 10 * u + 10 by omega] at h
    exact h
  | succ d ih =>
    intro l A' hl
    have ih2 := fun A' => ih (l + 1) A' (by omega)
    rw [← nI_1 l, show 10 * u + (l + 1) = (10 * u + l) + 1 by omega, show rdn S 2 H.1 i c (10 * u + l + 1) = rdn S 2 H.1 i c (10 * u + l) + (if isb S 2 (rdσ H.1 i c (10 * u + l)) c then 1 else 0) from rfl] at ih2
    obtain ⟨w1, w2⟩ := rd_wf hw (i := i) (c := c) (p := 10 * u + l) (by omega)
    have e1 : rdσ H.1 i c (10 * u + l) = s2 (s2 H.1 0 i (nI u)) 5 c (nI l) := by
      unfold rdσ
      rw [show (10 * u + l) / 10 = u by omega, show (10 * u + l) % 10 = l by omega]
    rw [e1] at ih2 w1
    refine zgo hZ 76 99 rfl ?_
    refine ⟨fun h => ?_, fun _ => ?_⟩
    · have := (ilt (a := 9) (m := 9) rfl rfl (by omega) (by omega)).mp h
      omega
    · refine c_becomeAH hZ ?_
      refine ⟨i, hi, rfl, c, hc, rfl, ?_⟩
      refine c_goes2 (H := H) (A := (s2 (s2 H.1 0 i (nI u)) 5 c (nI l), A'.2)) (K := K) (kp := kp) (T := T) (S := S) (F := F) (m := m) hZ w1 hD hS hc (fun h1 A2 => ⟨nt, fun _ => ?_⟩) (fun h1 A2 => ⟨fun _ => ?_, nf⟩)
      · rw [if_pos h1] at ih2
        exact ih2 A2
      · rw [if_neg h1, Int32.add_zero] at ih2
        exact ih2 A2
set_option maxRecDepth 100000 in
set_option maxHeartbeats 400000 in
theorem c_read2_l {SM : zC} {SF : Nat → zQ → zP} (hZ : zZ SM SF) {Q : zQ} {H A K : zHl} {kp : Int32} {T : zTp} {S : Nat → zSh} {F : Nat → Int32} {m : zMs} {D c i : Nat} (hw : wf D H.1) (hD : D ≤ 17000) (hS : wS S) (hc : c < 8) (hi : i < 8) (k : ∀ A', Q (some (.int (rdn S 2 H.1 i c 60))) (gh (H, A', K, kp, T, S, F) m)) :
    ∀ d u A' o, u + d = 6 → SF mn_X_read Q 66 [some (.ref 0), some (.int (nI 2)), some (.int (nI c)), some (.int (nI i)), some (.ref 38), some (.int (rdn S 2 H.1 i c (10 * u))), some (.int (nI u)), o] [] (0, 0) (gh (H, A', K, kp, T, S, F) m) := by
  intro d
  induction d with
  | zero =>
    intro u A' o hu
    have hu : u = 6 := by omega
    subst hu
    refine zgo hZ 66 99 rfl ?_
    exact ⟨fun _ => k _, fun h => absurd ((ile (a := 6) (m := 6) rfl rfl (by omega) (by omega)).mpr (by omega)) h⟩
  | succ d ih =>
    intro u A' o hu
    refine zgo hZ 76 99 rfl ?_
    refine ⟨fun h => ?_, fun _ => ?_⟩
    · have := (ile (a := 6) (m := 6) rfl rfl (by omega) (by omega)).mp h
      omega
    · exact c_read2_i (A := A) hZ hw hD hS hc hi (show u < 6 by omega) (fun A' o => ih (u + 1) A' o (by omega)) 10 0 A' (by omega)
set_option maxRecDepth 100000 in
set_option maxHeartbeats 400000 in
theorem c_goes3_l {SM : zC} {SF : Nat → zQ → zP} (hZ : zZ SM SF) {Q : zQ} {H A K : zHl} {kp : Int32} {T : zTp} {S : Nat → zSh} {F : Nat → Int32} {m : zMs} {D c : Nat} (hw : wf D A.1) (hD : D ≤ 17000) (hS : wS S) (hc : c < 8)
    (kt : isb S 3 A.1 c → ∀ A', Q (some (.int 1)) (gh (H, A', K, kp, T, S, F) m)) (kf : ¬ isb S 3 A.1 c → ∀ A', Q (some (.int 0)) (gh (H, A', K, kp, T, S, F) m)) :
    ∀ d j, j + d = sz S 3 → (∀ l, l < j → (S 3).2.2 l = (sg A.1 l 6 c).toInt64) → SF mn_X_goesAsBooked Q 2 [some (.ref 0), some (.ref 40), some (.int (nI c)), some (.int (nI j))] [] (0, 0) (gh (H, sus A j, K, kp, T, S, F) m) := by
  obtain ⟨hs1, hs2⟩ := hS 3 (by decide)
  intro d
  induction d with
  | zero =>
    intro j hj hl
    have hj : j = sz S 3 := by omega
    subst hj
    refine zgo hZ 2 99 rfl ?_
    refine ⟨fun _ => ⟨Or.inr rfl, kt hl _⟩, fun hc => ?_⟩
    have hc : ¬ (S 3).2.1 ≤ nI (sz S 3) := hc
    rw [ile hs1 rfl (by omega) (by omega)] at hc
    omega
  | succ d ih =>
    intro j hj hl
    have hwj := (sus_wf (H := A) hw j (by omega)).1
    have e1 : (sus A j).1 6 c = sg A.1 j 6 c := by rw [show sus A j = sus (A.1, A.2) j from rfl, sgA]
    refine zgo hZ 2 99 rfl ?_
    refine ⟨fun hc => ?_, fun _ => ⟨c, hc, rfl, j, by omega, rfl, fun h1 => ?_, fun h1 => ?_⟩⟩
    · have hc : (S 3).2.1 ≤ nI j := hc
      rw [ile hs1 rfl (by omega) (by omega)] at hc
      omega
    · have h1 : ((sus A j).1 6 c).toInt64 = (S 3).2.2 j := (lcmp_eq _ _).mp h1
      rw [e1] at h1
      have h := ih (j + 1) (by omega) (fun l hl2 => by
        rcases Nat.lt_or_ge l j with h3 | h3
        · exact hl l h3
        · rw [show l = j by omega]; exact h1.symm)
      rw [← nI_1 j] at h
      exact c_goOneSunday2 hZ hwj (by omega) h
    · have h1 : ¬ ((sus A j).1 6 c).toInt64 = (S 3).2.2 j := fun z => h1 ((lcmp_eq _ _).mpr z)
      rw [e1] at h1
      exact ⟨Or.inl rfl, kf (fun z => h1 (z j (by omega)).symm) _⟩
theorem c_goes3 {SM : zC} {SF : Nat → zQ → zP} (hZ : zZ SM SF) {Q : zQ} {H A K : zHl} {kp : Int32} {T : zTp} {S : Nat → zSh} {F : Nat → Int32} {m : zMs} {D c : Nat} (hw : wf D A.1) (hD : D ≤ 17000) (hS : wS S) (hc : c < 8)
    (kt : isb S 3 A.1 c → ∀ A', Q (some (.int 1)) (gh (H, A', K, kp, T, S, F) m)) (kf : ¬ isb S 3 A.1 c → ∀ A', Q (some (.int 0)) (gh (H, A', K, kp, T, S, F) m)) : SM mn_X_goesAsBooked [.ref 0, .ref 40, .int (nI c)] (gh (H, A, K, kp, T, S, F) m) Q := by
  refine zin hZ 2 99 rfl rfl rfl ?_
  exact c_goes3_l hZ hw hD hS hc kt kf (sz S 3) 0 (by omega) (fun l hl => by omega)
set_option maxRecDepth 100000 in
set_option maxHeartbeats 400000 in
theorem c_read3_i {SM : zC} {SF : Nat → zQ → zP} (hZ : zZ SM SF) {Q : zQ} {H A K : zHl} {kp : Int32} {T : zTp} {S : Nat → zSh} {F : Nat → Int32} {m : zMs} {D c i : Nat} (hw : wf D H.1) (hD : D ≤ 17000) (hS : wS S) (hc : c < 8) (hi : i < 8) {u : Nat} (hu : u < 6)
    (k : ∀ A' o, SF mn_X_read Q 66 [some (.ref 0), some (.int (nI 3)), some (.int (nI c)), some (.int (nI i)), some (.ref 40), some (.int (rdn S 3 H.1 i c (10 * (u + 1)))), some (.int (nI (u + 1))), o] [] (0, 0) (gh (H, A', K, kp, T, S, F) m)) :
    ∀ d l A', l + d = 10 → SF mn_X_read Q 76 [some (.ref 0), some (.int (nI 3)), some (.int (nI c)), some (.int (nI i)), some (.ref 40), some (.int (rdn S 3 H.1 i c (10 * u + l))), some (.int (nI u)), some (.int (nI l))] [] (0, 0) (gh (H, A', K, kp, T, S, F) m) := by
  intro d
  induction d with
  | zero =>
    intro l A' hl
    have hl : l = 10 := by omega
    subst hl
    refine zgo hZ 66 99 rfl ?_
    refine ⟨fun _ => ?_, fun h => absurd ((ilt (a := 9) (m := 9) rfl rfl (by omega) (by omega)).mpr (by omega)) h⟩
    have h := k A' (some (.int (nI 10)))
    rw [← nI_1 u, show 10 * (u + 1) = 10 * u + 10 by omega] at h
    exact h
  | succ d ih =>
    intro l A' hl
    have ih2 := fun A' => ih (l + 1) A' (by omega)
    rw [← nI_1 l, show 10 * u + (l + 1) = (10 * u + l) + 1 by omega, show rdn S 3 H.1 i c (10 * u + l + 1) = rdn S 3 H.1 i c (10 * u + l) + (if isb S 3 (rdσ H.1 i c (10 * u + l)) c then 1 else 0) from rfl] at ih2
    obtain ⟨w1, w2⟩ := rd_wf hw (i := i) (c := c) (p := 10 * u + l) (by omega)
    have e1 : rdσ H.1 i c (10 * u + l) = s2 (s2 H.1 0 i (nI u)) 5 c (nI l) := by
      unfold rdσ
      rw [show (10 * u + l) / 10 = u by omega, show (10 * u + l) % 10 = l by omega]
    rw [e1] at ih2 w1
    refine zgo hZ 76 99 rfl ?_
    refine ⟨fun h => ?_, fun _ => ?_⟩
    · have := (ilt (a := 9) (m := 9) rfl rfl (by omega) (by omega)).mp h
      omega
    · refine c_becomeAH hZ ?_
      refine ⟨i, hi, rfl, c, hc, rfl, ?_⟩
      refine c_goes3 (H := H) (A := (s2 (s2 H.1 0 i (nI u)) 5 c (nI l), A'.2)) (K := K) (kp := kp) (T := T) (S := S) (F := F) (m := m) hZ w1 hD hS hc (fun h1 A2 => ⟨nt, fun _ => ?_⟩) (fun h1 A2 => ⟨fun _ => ?_, nf⟩)
      · rw [if_pos h1] at ih2
        exact ih2 A2
      · rw [if_neg h1, Int32.add_zero] at ih2
        exact ih2 A2
set_option maxRecDepth 100000 in
set_option maxHeartbeats 400000 in
theorem c_read3_l {SM : zC} {SF : Nat → zQ → zP} (hZ : zZ SM SF) {Q : zQ} {H A K : zHl} {kp : Int32} {T : zTp} {S : Nat → zSh} {F : Nat → Int32} {m : zMs} {D c i : Nat} (hw : wf D H.1) (hD : D ≤ 17000) (hS : wS S) (hc : c < 8) (hi : i < 8) (k : ∀ A', Q (some (.int (rdn S 3 H.1 i c 60))) (gh (H, A', K, kp, T, S, F) m)) :
    ∀ d u A' o, u + d = 6 → SF mn_X_read Q 66 [some (.ref 0), some (.int (nI 3)), some (.int (nI c)), some (.int (nI i)), some (.ref 40), some (.int (rdn S 3 H.1 i c (10 * u))), some (.int (nI u)), o] [] (0, 0) (gh (H, A', K, kp, T, S, F) m) := by
  intro d
  induction d with
  | zero =>
    intro u A' o hu
    have hu : u = 6 := by omega
    subst hu
    refine zgo hZ 66 99 rfl ?_
    exact ⟨fun _ => k _, fun h => absurd ((ile (a := 6) (m := 6) rfl rfl (by omega) (by omega)).mpr (by omega)) h⟩
  | succ d ih =>
    intro u A' o hu
    refine zgo hZ 76 99 rfl ?_
    refine ⟨fun h => ?_, fun _ => ?_⟩
    · have := (ile (a := 6) (m := 6) rfl rfl (by omega) (by omega)).mp h
      omega
    · exact c_read3_i (A := A) hZ hw hD hS hc hi (show u < 6 by omega) (fun A' o => ih (u + 1) A' o (by omega)) 10 0 A' (by omega)
def rd1 (S : Nat → zSh) (σ : zS) (F : Nat → Int32) (t : Nat) (c i : Int32) : zA3 :=
  if (S t).1 = 0 then fnx (-1000000006) 5 σ F else if inC σ c ∧ inI σ i then (rdn S t σ (ix i) (ix c) 60, σ, F) else bey σ F
theorem sp_read_y {S : Nat → zSh} {σ : zS} {F : Nat → Int32} {t : Nat} {c i : Int32} (ht : t < 4) : sp_read S σ F (nI t) c i = rd1 S σ F t c i := by
  unfold sp_read rd1
  rw [if_pos (zIn4.mp ⟨t, ht, rfl⟩), ix_nI (show t < 1000 by omega)]
set_option maxRecDepth 100000 in
set_option maxHeartbeats 400000 in
theorem c_read0 {SM : zC} {SF : Nat → zQ → zP} (hZ : zZ SM SF) {Q : zQ} {H A K : zHl} {kp : Int32} {T : zTp} {S : Nat → zSh} {F : Nat → Int32} {m : zMs} {D : Nat} (hw : wf D H.1) (hD : D ≤ 17000) (hS : wS S) {c i : Int32} (k : ∀ A', Q (some (.int (rd1 S H.1 F 0 c i).1)) (gh (((rd1 S H.1 F 0 c i).2.1, H.2), A', K, kp, T, S, (rd1 S H.1 F 0 c i).2.2) m)) : SF mn_X_read Q 20 [some (.ref 0), some (.int (nI 0)), some (.int c), some (.int i), none, none, none, none] [.ref 34] (0, 0) (gh (H, A, K, kp, T, S, F) m) := by
  unfold rd1 at k
  refine zgo hZ 66 50 rfl ?_
  refine c_isMissing0 hZ (fun h1 => ⟨nt, fun _ => ?_⟩) (fun h1 => ⟨fun _ => ?_, nf⟩)
  · rw [if_pos h1] at k
    exact c_tell hZ 5 (by decide) rfl (k A)
  · rw [if_neg h1] at k
    refine c_isNoCouple hZ hw.2.2.2.2.1 hw.2.2.2.2.2 (fun h2 => ⟨fun _ => ?_, nt⟩) (fun h2 => ⟨nf, fun _ => ?_⟩)
    · rw [if_neg (fun z => h2 ((inC_iff hw c).mp z.1))] at k
      exact c_tell hZ 0 (by decide) rfl (k A)
    · refine c_isNoInlaw hZ hw.2.2.2.1.1 hw.2.2.2.1.2 (fun h3 => ⟨nt, fun _ => ?_⟩) (fun h3 => ⟨fun _ => ?_, nf⟩)
      · rw [if_neg (fun z => h3 ((inI_iff hw i).mp z.2))] at k
        exact c_tell hZ 0 (by decide) rfl (k A)
      · rw [if_pos ⟨(inC_iff hw c).mpr h2, (inI_iff hw i).mpr h3⟩] at k
        obtain ⟨j, hj1, hj2, rfl, hj3⟩ := inC_get hw h2
        obtain ⟨l, hl1, hl2, rfl, hl3⟩ := inI_get hw h3
        rw [hj3, hl3] at k
        exact c_read0_l (A := A) hZ hw hD hS hj2 hl2 k 6 0 A none (by omega)
set_option maxRecDepth 100000 in
set_option maxHeartbeats 400000 in
theorem c_read1 {SM : zC} {SF : Nat → zQ → zP} (hZ : zZ SM SF) {Q : zQ} {H A K : zHl} {kp : Int32} {T : zTp} {S : Nat → zSh} {F : Nat → Int32} {m : zMs} {D : Nat} (hw : wf D H.1) (hD : D ≤ 17000) (hS : wS S) {c i : Int32} (k : ∀ A', Q (some (.int (rd1 S H.1 F 1 c i).1)) (gh (((rd1 S H.1 F 1 c i).2.1, H.2), A', K, kp, T, S, (rd1 S H.1 F 1 c i).2.2) m)) : SF mn_X_read Q 20 [some (.ref 0), some (.int (nI 1)), some (.int c), some (.int i), none, none, none, none] [.ref 36] (0, 0) (gh (H, A, K, kp, T, S, F) m) := by
  unfold rd1 at k
  refine zgo hZ 66 50 rfl ?_
  refine c_isMissing1 hZ (fun h1 => ⟨nt, fun _ => ?_⟩) (fun h1 => ⟨fun _ => ?_, nf⟩)
  · rw [if_pos h1] at k
    exact c_tell hZ 5 (by decide) rfl (k A)
  · rw [if_neg h1] at k
    refine c_isNoCouple hZ hw.2.2.2.2.1 hw.2.2.2.2.2 (fun h2 => ⟨fun _ => ?_, nt⟩) (fun h2 => ⟨nf, fun _ => ?_⟩)
    · rw [if_neg (fun z => h2 ((inC_iff hw c).mp z.1))] at k
      exact c_tell hZ 0 (by decide) rfl (k A)
    · refine c_isNoInlaw hZ hw.2.2.2.1.1 hw.2.2.2.1.2 (fun h3 => ⟨nt, fun _ => ?_⟩) (fun h3 => ⟨fun _ => ?_, nf⟩)
      · rw [if_neg (fun z => h3 ((inI_iff hw i).mp z.2))] at k
        exact c_tell hZ 0 (by decide) rfl (k A)
      · rw [if_pos ⟨(inC_iff hw c).mpr h2, (inI_iff hw i).mpr h3⟩] at k
        obtain ⟨j, hj1, hj2, rfl, hj3⟩ := inC_get hw h2
        obtain ⟨l, hl1, hl2, rfl, hl3⟩ := inI_get hw h3
        rw [hj3, hl3] at k
        exact c_read1_l (A := A) hZ hw hD hS hj2 hl2 k 6 0 A none (by omega)
set_option maxRecDepth 100000 in
set_option maxHeartbeats 400000 in
theorem c_read2 {SM : zC} {SF : Nat → zQ → zP} (hZ : zZ SM SF) {Q : zQ} {H A K : zHl} {kp : Int32} {T : zTp} {S : Nat → zSh} {F : Nat → Int32} {m : zMs} {D : Nat} (hw : wf D H.1) (hD : D ≤ 17000) (hS : wS S) {c i : Int32} (k : ∀ A', Q (some (.int (rd1 S H.1 F 2 c i).1)) (gh (((rd1 S H.1 F 2 c i).2.1, H.2), A', K, kp, T, S, (rd1 S H.1 F 2 c i).2.2) m)) : SF mn_X_read Q 20 [some (.ref 0), some (.int (nI 2)), some (.int c), some (.int i), none, none, none, none] [.ref 38] (0, 0) (gh (H, A, K, kp, T, S, F) m) := by
  unfold rd1 at k
  refine zgo hZ 66 50 rfl ?_
  refine c_isMissing2 hZ (fun h1 => ⟨nt, fun _ => ?_⟩) (fun h1 => ⟨fun _ => ?_, nf⟩)
  · rw [if_pos h1] at k
    exact c_tell hZ 5 (by decide) rfl (k A)
  · rw [if_neg h1] at k
    refine c_isNoCouple hZ hw.2.2.2.2.1 hw.2.2.2.2.2 (fun h2 => ⟨fun _ => ?_, nt⟩) (fun h2 => ⟨nf, fun _ => ?_⟩)
    · rw [if_neg (fun z => h2 ((inC_iff hw c).mp z.1))] at k
      exact c_tell hZ 0 (by decide) rfl (k A)
    · refine c_isNoInlaw hZ hw.2.2.2.1.1 hw.2.2.2.1.2 (fun h3 => ⟨nt, fun _ => ?_⟩) (fun h3 => ⟨fun _ => ?_, nf⟩)
      · rw [if_neg (fun z => h3 ((inI_iff hw i).mp z.2))] at k
        exact c_tell hZ 0 (by decide) rfl (k A)
      · rw [if_pos ⟨(inC_iff hw c).mpr h2, (inI_iff hw i).mpr h3⟩] at k
        obtain ⟨j, hj1, hj2, rfl, hj3⟩ := inC_get hw h2
        obtain ⟨l, hl1, hl2, rfl, hl3⟩ := inI_get hw h3
        rw [hj3, hl3] at k
        exact c_read2_l (A := A) hZ hw hD hS hj2 hl2 k 6 0 A none (by omega)
set_option maxRecDepth 100000 in
set_option maxHeartbeats 400000 in
theorem c_read3 {SM : zC} {SF : Nat → zQ → zP} (hZ : zZ SM SF) {Q : zQ} {H A K : zHl} {kp : Int32} {T : zTp} {S : Nat → zSh} {F : Nat → Int32} {m : zMs} {D : Nat} (hw : wf D H.1) (hD : D ≤ 17000) (hS : wS S) {c i : Int32} (k : ∀ A', Q (some (.int (rd1 S H.1 F 3 c i).1)) (gh (((rd1 S H.1 F 3 c i).2.1, H.2), A', K, kp, T, S, (rd1 S H.1 F 3 c i).2.2) m)) : SF mn_X_read Q 20 [some (.ref 0), some (.int (nI 3)), some (.int c), some (.int i), none, none, none, none] [.ref 40] (0, 0) (gh (H, A, K, kp, T, S, F) m) := by
  unfold rd1 at k
  refine zgo hZ 66 50 rfl ?_
  refine c_isMissing3 hZ (fun h1 => ⟨nt, fun _ => ?_⟩) (fun h1 => ⟨fun _ => ?_, nf⟩)
  · rw [if_pos h1] at k
    exact c_tell hZ 5 (by decide) rfl (k A)
  · rw [if_neg h1] at k
    refine c_isNoCouple hZ hw.2.2.2.2.1 hw.2.2.2.2.2 (fun h2 => ⟨fun _ => ?_, nt⟩) (fun h2 => ⟨nf, fun _ => ?_⟩)
    · rw [if_neg (fun z => h2 ((inC_iff hw c).mp z.1))] at k
      exact c_tell hZ 0 (by decide) rfl (k A)
    · refine c_isNoInlaw hZ hw.2.2.2.1.1 hw.2.2.2.1.2 (fun h3 => ⟨nt, fun _ => ?_⟩) (fun h3 => ⟨fun _ => ?_, nf⟩)
      · rw [if_neg (fun z => h3 ((inI_iff hw i).mp z.2))] at k
        exact c_tell hZ 0 (by decide) rfl (k A)
      · rw [if_pos ⟨(inC_iff hw c).mpr h2, (inI_iff hw i).mpr h3⟩] at k
        obtain ⟨j, hj1, hj2, rfl, hj3⟩ := inC_get hw h2
        obtain ⟨l, hl1, hl2, rfl, hl3⟩ := inI_get hw h3
        rw [hj3, hl3] at k
        exact c_read3_l (A := A) hZ hw hD hS hj2 hl2 k 6 0 A none (by omega)
set_option maxRecDepth 100000 in
set_option maxHeartbeats 400000 in
theorem c_read {SM : zC} {SF : Nat → zQ → zP} (hZ : zZ SM SF) {Q : zQ} {H A K : zHl} {kp : Int32} {T : zTp} {S : Nat → zSh} {F : Nat → Int32} {m : zMs} {D : Nat} (hw : wf D H.1) (hD : D ≤ 17000) (hS : wS S) {s c i : Int32} (k : ∀ A', Q (some (.int (sp_read S H.1 F s c i).1)) (gh (((sp_read S H.1 F s c i).2.1, H.2), A', K, kp, T, S, (sp_read S H.1 F s c i).2.2) m)) : SM mn_X_read [.ref 0, .int s, .int c, .int i] (gh (H, A, K, kp, T, S, F) m) Q := by
  refine zin hZ 20 99 rfl rfl rfl ?_
  refine c_isNoSheet hZ (fun h => ⟨nt, fun _ => ?_⟩) (fun h => ⟨fun _ => ?_, nf⟩)
  · unfold sp_read at k
    rw [if_neg (fun z => h (zIn4.mpr z))] at k
    exact c_tell hZ 0 (by decide) rfl (k A)
  · obtain ⟨t, ht, rfl⟩ := h
    rw [sp_read_y ht] at k
    match t, ht with
    | 0, _ => exact ⟨0, by decide, rfl, 34, rfl, c_read0 hZ hw hD hS k⟩
    | 1, _ => exact ⟨1, by decide, rfl, 36, rfl, c_read1 hZ hw hD hS k⟩
    | 2, _ => exact ⟨2, by decide, rfl, 38, rfl, c_read2 hZ hw hD hS k⟩
    | 3, _ => exact ⟨3, by decide, rfl, 40, rfl, c_read3 hZ hw hD hS k⟩
set_option maxRecDepth 100000 in
set_option maxHeartbeats 400000 in
theorem c_image {SM : zC} {SF : Nat → zQ → zP} (hZ : zZ SM SF) {Q : zQ} {H A K : zHl} {kp : Int32} {T : zTp} {S : Nat → zSh} {F : Nat → Int32} {m : zMs} (k : Q (some (.int 1)) (gh (H, A, (H.1, K.2), 1, T, S, F) m)) : SM mn_X_image [.ref 0] (gh (H, A, K, kp, T, S, F) m) Q := by
  refine zin hZ 999 50 rfl rfl rfl ?_
  refine c_becomeKH hZ ?_
  exact ⟨Or.inr rfl, k⟩
set_option maxRecDepth 100000 in
set_option maxHeartbeats 400000 in
theorem c_undo0 {SM : zC} {SF : Nat → zQ → zP} (hZ : zZ SM SF) {Q : zQ} {H A K : zHl} {kp : Int32} {T : zTp} {S : Nat → zSh} {F : Nat → Int32} {m : zMs} (k : Q (some (.int (-1000000004))) (gh (H, A, K, 0, T, S, upd F 3 (F 3 + 1)) m)) : SM mn_X_undo [.ref 0] (gh (H, A, K, 0, T, S, F) m) Q := by
  refine zin hZ 999 50 rfl rfl rfl ?_
  refine ⟨nf, fun _ => ?_⟩
  exact c_tell hZ 3 (by decide) rfl k
set_option maxRecDepth 100000 in
set_option maxHeartbeats 400000 in
theorem c_undo1 {SM : zC} {SF : Nat → zQ → zP} (hZ : zZ SM SF) {Q : zQ} {H A K : zHl} {kp : Int32} {T : zTp} {S : Nat → zSh} {F : Nat → Int32} {m : zMs} (k : Q (some (.int (K.1 8 2))) (gh ((K.1, H.2), A, K, 1, T, S, F) m)) : SM mn_X_undo [.ref 0] (gh (H, A, K, 1, T, S, F) m) Q := by
  refine zin hZ 999 50 rfl rfl rfl ?_
  refine ⟨fun _ => ?_, nt⟩
  exact c_becomeHK hZ k
set_option maxRecDepth 100000 in
set_option maxHeartbeats 400000 in
theorem c_tear {SM : zC} {SF : Nat → zQ → zP} (hZ : zZ SM SF) {Q : zQ} {H A K : zHl} {kp : Int32} {T : zTp} {S : Nat → zSh} {F : Nat → Int32} {m : zMs} (hk : kp = 0 ∨ kp = 1) (k : Q (some (.int kp)) (gh (H, A, K, 0, T, S, F) m)) : SM mn_X_tear [.ref 0] (gh (H, A, K, kp, T, S, F) m) Q := by
  refine zin hZ 999 50 rfl rfl rfl ?_
  rcases hk with rfl | rfl
  · exact ⟨fun _ => ⟨Or.inl rfl, k⟩, nf⟩
  · exact ⟨nt, fun _ => ⟨Or.inl rfl, k⟩⟩
set_option maxRecDepth 100000 in
set_option maxHeartbeats 400000 in
theorem c_count {SM : zC} {SF : Nat → zQ → zP} (hZ : zZ SM SF) {Q : zQ} {H A K : zHl} {kp : Int32} {T : zTp} {S : Nat → zSh} {F : Nat → Int32} {m : zMs} {D : Nat} (hw : wf D H.1) {w : Int32} (k : Q (some (.int (sp_count H.1 F T.2.1 w).1)) (gh (((sp_count H.1 F T.2.1 w).2.1, H.2), A, K, kp, T, S, (sp_count H.1 F T.2.1 w).2.2) m)) : SM mn_X_count [.ref 0, .int w] (gh (H, A, K, kp, T, S, F) m) Q := by
  unfold sp_count at k
  refine zin hZ 999 60 rfl rfl rfl ?_
  refine ⟨fun h0 => ?_, fun h0 => ⟨fun h1 => ?_, fun h1 => ⟨fun h2 => ?_, fun h2 => ⟨fun h3 => ?_, fun h3 => ?_⟩⟩⟩⟩
  · rw [if_pos (show w = 0 from h0)] at k
    exact k
  · rw [if_neg (show ¬ w = 0 from h0), if_pos (show w = 1 from h1)] at k
    exact k
  · rw [if_neg (show ¬ w = 0 from h0), if_neg (show ¬ w = 1 from h1), if_pos (show w = 2 from h2)] at k
    exact k
  · rw [if_neg (show ¬ w = 0 from h0), if_neg (show ¬ w = 1 from h1), if_neg (show ¬ w = 2 from h2), if_pos (show w = 3 from h3)] at k
    exact c_hadOfAll1 hZ hw.2.2.2.1.1 hw.2.2.2.1.2 k
  · rw [if_neg (show ¬ w = 0 from h0), if_neg (show ¬ w = 1 from h1), if_neg (show ¬ w = 2 from h2), if_neg (show ¬ w = 3 from h3)] at k
    exact c_tell hZ 0 (by decide) rfl k
theorem stf_neg {F : Nat → Int32} {w : Int32} (h : w < 0) : stf F w = F := by
  funext j
  unfold stf
  rw [if_pos (Or.inl h)]
/-- of one finding: the others count nothing -/
theorem stf_one {F : Nat → Int32} {v : Nat} (hv : v < 7) : ∀ n, n ≤ 7 → zsum (stf F (nI v)) n = if v < n then F v else 0
  | 0, _ => rfl
  | n + 1, hn => by
    have ih := stf_one (F := F) hv n (by omega)
    show zsum (stf F (nI v)) n + stf F (nI v) n = _
    rw [ih]
    have hneg : ¬ nI v < 0 := fun z => by
      rw [zlt, nI_toInt (by omega), show (0 : Int32).toInt = 0 by decide] at z
      omega
    by_cases h : v = n
    · subst h
      rw [if_neg (by omega), if_pos (by omega), show stf F (nI v) v = F v from if_pos (Or.inr rfl), Int32.zero_add]
    · rw [show stf F (nI v) n = 0 from if_neg (fun z => z.elim hneg (fun z => h ((nI_eq (by omega) (by omega)).mp z).symm)), Int32.add_zero]
      by_cases h2 : v < n
      · rw [if_pos h2, if_pos (by omega)]
      · rw [if_neg h2, if_neg (by omega)]
set_option maxRecDepth 100000 in
set_option maxHeartbeats 400000 in
theorem c_status_l {SM : zC} {SF : Nat → zQ → zP} (hZ : zZ SM SF) {Q : zQ} {H A K : zHl} {kp : Int32} {T : zTp} {S : Nat → zSh} {F : Nat → Int32} {m : zMs} {w : Int32} (k : Q (some (.int (zsum F 7))) (gh (H, A, K, kp, T, S, F) m)) : ∀ d j, j + d = 7 → SF mn_X_status Q 32 [some (.ref 0), some (.int w), some (.int (zsum F j)), some (.int (nI j))] [] (0, 0) (gh (H, A, K, kp, T, S, F) m) := by
  intro d
  induction d with
  | zero =>
    intro j hj
    have hj : j = 7 := by omega
    subst hj
    refine zgo hZ 32 60 rfl ?_
    exact ⟨fun _ => k, fun h => absurd (show (7 : Int32) ≤ nI 7 by decide) h⟩
  | succ d ih =>
    intro j hj
    have h1 := ih (j + 1) (by omega)
    rw [← nI_1 j] at h1
    refine zgo hZ 32 60 rfl ?_
    refine ⟨fun hc => ?_, fun _ => ⟨j, by omega, rfl, h1⟩⟩
    have := (ile (a := 7) (m := 7) rfl rfl (by omega) (by omega)).mp hc
    omega
set_option maxRecDepth 100000 in
set_option maxHeartbeats 400000 in
theorem c_status {SM : zC} {SF : Nat → zQ → zP} (hZ : zZ SM SF) {Q : zQ} {H A K : zHl} {kp : Int32} {T : zTp} {S : Nat → zSh} {F : Nat → Int32} {m : zMs} {w : Int32} (k : Q (some (.int (sp_status H.1 F w).1)) (gh (((sp_status H.1 F w).2.1, H.2), A, K, kp, T, S, (sp_status H.1 F w).2.2) m)) : SM mn_X_status [.ref 0, .int w] (gh (H, A, K, kp, T, S, F) m) Q := by
  unfold sp_status at k
  refine zin hZ 32 60 rfl rfl rfl ?_
  refine c_isOutside hZ (fun h1 => ⟨nt, fun _ => ?_⟩) (fun h1 h2 => ⟨fun _ => ⟨fun h3 => ?_, fun h3 => ?_⟩, nf⟩)
  · rw [if_neg h1] at k
    exact c_tell hZ 0 (by decide) rfl k
  · rw [if_pos ⟨h1, h2⟩, stf_neg h3] at k
    exact c_status_l hZ k 7 0 (by omega)
  · rw [if_pos ⟨h1, h2⟩] at k
    obtain ⟨v, hv1, hv2, rfl, hv3⟩ := rng_get (w := w) (a := 0) (b := 6) (by omega) (le_of h3) h2 (by omega)
    rw [stf_one (by omega) 7 (by omega), if_pos (by omega)] at k
    exact ⟨v, by omega, rfl, k⟩
set_option maxRecDepth 100000 in
set_option maxHeartbeats 400000 in
theorem c_wipe {SM : zC} {SF : Nat → zQ → zP} (hZ : zZ SM SF) {Q : zQ} {H A K : zHl} {kp : Int32} {T : zTp} {S : Nat → zSh} {F : Nat → Int32} {m : zMs} (k : Q (some (.int T.2.1)) (gh (H, A, K, kp, (T.1, 0, T.2.2), S, F) m)) : SM mn_X_wipe [.ref 0] (gh (H, A, K, kp, T, S, F) m) Q := by
  refine zin hZ 999 50 rfl rfl rfl ?_
  exact k
set_option maxRecDepth 100000 in
set_option maxHeartbeats 400000 in
theorem c_feed_l {SM : zC} {SF : Nat → zQ → zP} (hZ : zZ SM SF) {Q : zQ} {H A K : zHl} {kp : Int32} {R : Int32 × Int32 × Int32 × Int32} {S : Nat → zSh} {F : Nat → Int32} {m : zMs} {b n : Int32} : ∀ d tl tp, tl + d ≤ 120 → d ≤ 4 → Q (some (.int (nI (tl + d)))) (gh (H, A, K, kp, (fd b d tl tp, nI (tl + d), R), S, F) m) → SF mn_X_feed Q 41 [some (.ref 0), some (.int b), some (.int n), some (.int (nI d - 1))] [] (0, 0) (gh (H, A, K, kp, (tp, nI tl, R), S, F) m) := by
  intro d
  induction d with
  | zero =>
    intro tl tp h1 h2 k
    refine zgo hZ 41 99 rfl ?_
    exact ⟨fun _ => k, fun h => absurd (show nI 0 - 1 < 0 by decide) h⟩
  | succ d ih =>
    intro tl tp h1 h2 k
    have e1 : nI (d + 1) - 1 = nI d := by rw [← nI_1]; exact Int32.add_sub_cancel _ _
    rw [e1]
    have h := ih (tl + 1) (upd tp tl (b >>> ((8 * nI d) &&& 31) &&& 255)) (by omega) (by omega) (by rw [show tl + 1 + d = tl + (d + 1) by omega]; exact k)
    refine zgo hZ 41 99 rfl ?_
    refine ⟨fun h3 => ?_, fun _ => ?_⟩
    · have h3 : nI d < 0 := h3
      rw [zlt, nI_toInt (by omega), show (0 : Int32).toInt = 0 by decide] at h3
      omega
    refine ⟨tl, by omega, rfl, ?_⟩
    rw [← nI_1 tl, show nI d - 1 = nI d + -1 by rw [Int32.sub_eq_add_neg]] at h
    exact h
set_option maxRecDepth 100000 in
set_option maxHeartbeats 400000 in
theorem c_feed {SM : zC} {SF : Nat → zQ → zP} (hZ : zZ SM SF) {Q : zQ} {H A K : zHl} {kp : Int32} {R : Int32 × Int32 × Int32 × Int32} {S : Nat → zSh} {F : Nat → Int32} {m : zMs} {b n : Int32} {tl : Nat} {tp : Nat → Int32} (ht : tl ≤ 120) (k : Q (some (.int (sp_feed tp tl F b n).1)) (gh (H, A, K, kp, ((sp_feed tp tl F b n).2.1, nI (sp_feed tp tl F b n).2.2.1, R), S, (sp_feed tp tl F b n).2.2.2) m)) : SM mn_X_feed [.ref 0, .int b, .int n] (gh (H, A, K, kp, (tp, nI tl, R), S, F) m) Q := by
  unfold sp_feed at k
  refine zin hZ 41 99 rfl rfl rfl ?_
  refine c_isOutside hZ (fun h1 => ⟨nt, fun _ => ?_⟩) (fun h1 h2 => ⟨fun _ => ?_, nf⟩)
  · rw [if_neg h1] at k
    exact c_tell hZ 0 (by decide) rfl k
  · rw [if_pos ⟨h1, h2⟩] at k
    obtain ⟨v, hv1, hv2, rfl, hv3⟩ := rng_get (w := n) (a := 1) (b := 4) (by omega) h1 h2 (by omega)
    rw [hv3] at k
    have e : nI tl + nI v ≤ 120 ↔ tl + v ≤ 120 := ile (n := 120) (nI_add tl v) rfl (by omega) (by omega)
    refine ⟨fun h3 => ?_, fun h3 => ?_⟩
    · have h3 := e.mp h3
      rw [if_neg (by omega)] at k
      exact c_feed_l hZ v tl tp h3 hv2 k
    · have h3 : ¬ tl + v ≤ 120 := fun z => h3 (e.mpr z)
      rw [if_pos (by omega)] at k
      exact c_tell hZ 1 (by decide) rfl k
