/-! THE CLASS'S CALLS, third part: what is best -/
def bI (f : Nat → Int32) (k : Nat) (b mo : Int32) : Prop := b = nI (best f k) ∧ ((k = 0 ∧ mo < f 0) ∨ (1 ≤ k ∧ mo = f (best f k)))
theorem bI_a {f : Nat → Int32} {k : Nat} {b mo : Int32} (h : bI f k b mo) (h1 : f k ≤ mo) : bI f (k + 1) b mo := by
  obtain ⟨rfl, ⟨rfl, h2⟩ | ⟨h2, rfl⟩⟩ := h
  · exact absurd h1 (nle_of h2)
  · unfold bI
    rw [best_s, if_neg (nlt_of h1)]
    exact ⟨rfl, Or.inr ⟨by omega, rfl⟩⟩
theorem bI_b {f : Nat → Int32} {k : Nat} {b mo : Int32} (h : bI f k b mo) (h1 : ¬ f k ≤ mo) : bI f (k + 1) (nI k) (f k) := by
  obtain ⟨rfl, ⟨rfl, h2⟩ | ⟨h2, rfl⟩⟩ := h
  · have e : best f (0 + 1) = 0 := by rw [best_s]; exact ite_self _
    unfold bI
    rw [e]
    exact ⟨rfl, Or.inr ⟨by omega, rfl⟩⟩
  · unfold bI
    rw [best_s, if_pos (lt_of h1)]
    exact ⟨rfl, Or.inr ⟨by omega, rfl⟩⟩
set_option maxRecDepth 100000 in
set_option maxHeartbeats 400000 in
theorem c_kind_l {SM : zC} {SF : Nat → zQ → zP} (hZ : zZ SM SF) {Q : zQ} {H A K : zHl} {kp : Int32} {T : zTp} {S : Nat → zSh} {F : Nat → Int32} {m : zMs} {D i n : Nat} (hw : wf D H.1) (hn : n ≤ 60) (hD : D ≤ 17000) (hi : i < 8) {f : Nat → Int32} (hf : ∀ v, f v = sg (s2 H.1 0 i (nI v)) n 4 i) (k : ∀ A', Q (some (.int (nI (best f 6)))) (gh (H, A', K, kp, T, S, F) m)) :
    ∀ d v b mo A', v + d = 6 → bI f v b mo → SF mn_X_kind Q 33 [some (.ref 0), some (.int (nI i)), some (.int (nI n)), some (.int b), some (.int mo), some (.int (nI v))] [] (0, 0) (gh (H, A', K, kp, T, S, F) m) := by
  intro d
  induction d with
  | zero =>
    intro v b mo A' hv hI
    refine zgo hZ 33 60 rfl ?_
    refine ⟨fun _ => ?_, fun h => absurd ((ile (a := 6) (m := 6) rfl rfl (by omega) (by omega)).mpr (by omega)) h⟩
    have hv : v = 6 := by omega
    subst hv
    rw [hI.1]
    exact k _
  | succ d ih =>
    intro v b mo A' hv hI
    have hn1 : ∀ b mo A', bI f (v + 1) b mo → SF mn_X_kind Q 33 [some (.ref 0), some (.int (nI i)), some (.int (nI n)), some (.int b), some (.int mo), some (.int (nI v + 1))] [] (0, 0) (gh (H, A', K, kp, T, S, F) m) := by
      intro b mo A' h
      rw [nI_1]
      exact ih (v + 1) b mo A' (by omega) h
    have ef : f v = (sus (s2 H.1 0 i (nI v), A'.2) n).1 4 i := by rw [hf, sgA]
    have ha := bI_a hI
    have hb := bI_b hI
    rw [ef] at ha hb
    refine zgo hZ 33 90 rfl ?_
    refine ⟨fun h => ?_, fun _ => ?_⟩
    · have := (ile (a := 6) (m := 6) rfl rfl (by omega) (by omega)).mp h
      omega
    · refine c_becomeAH hZ ?_
      refine ⟨i, hi, rfl, ?_⟩
      refine c_goSundays2 (B := H) (H := (s2 H.1 0 i (nI v), A'.2)) (y := (K, kp, T, S, F)) (m := m) hZ (wf_kd hw i (v := v) (by omega)) (by omega) (by omega) ?_
      refine ⟨i, hi, rfl, fun h1 => ?_, fun h1 => ⟨i, hi, rfl, ?_⟩⟩
      · exact hn1 _ _ _ (ha h1)
      · exact hn1 _ _ _ (hb h1)
set_option maxRecDepth 100000 in
set_option maxHeartbeats 400000 in
theorem c_kind {SM : zC} {SF : Nat → zQ → zP} (hZ : zZ SM SF) {Q : zQ} {H A K : zHl} {kp : Int32} {T : zTp} {S : Nat → zSh} {F : Nat → Int32} {m : zMs} {D : Nat} (hw : wf D H.1) (hD : D ≤ 17000) {i n : Int32} (k : ∀ A', Q (some (.int (sp_kind H.1 F i n).1)) (gh (((sp_kind H.1 F i n).2.1, H.2), A', K, kp, T, S, (sp_kind H.1 F i n).2.2) m)) : SM mn_X_kind [.ref 0, .int i, .int n] (gh (H, A, K, kp, T, S, F) m) Q := by
  unfold sp_kind at k
  refine zin hZ 33 60 rfl rfl rfl ?_
  refine c_isNoInlaw hZ hw.2.2.2.1.1 hw.2.2.2.1.2 (fun h1 => ⟨fun _ => ?_, nt⟩) (fun h1 => ⟨nf, fun _ => ?_⟩)
  · rw [if_neg (fun z => h1 ((inI_iff hw i).mp z.1))] at k
    exact c_tell hZ 0 (by decide) rfl (k A)
  · refine c_isOutside hZ (fun h2 => ⟨nt, fun _ => ?_⟩) (fun h2 h3 => ⟨fun _ => ?_, nf⟩)
    · rw [if_neg (fun z => h2 z.2)] at k
      exact c_tell hZ 0 (by decide) rfl (k A)
    · rw [if_pos ⟨(inI_iff hw i).mpr h1, h2, h3⟩] at k
      obtain ⟨j, hj1, hj2, rfl, hj3⟩ := inI_get hw h1
      obtain ⟨v, hv1, hv2, rfl, hv3⟩ := rng_get (w := n) (a := 1) (b := 60) (by omega) h2 h3 (by omega)
      rw [hj3, hv3] at k
      refine c_kind_l (A := A) hZ hw hv2 hD hj2 (fun v => rfl) k 6 0 0 (-1) A (by omega) ⟨rfl, Or.inl ⟨rfl, ?_⟩⟩
      have := ((sg_wf (wf_kd hw j (v := 0) (by omega)) (n := v) (by omega)).1.1 j hj2).2.2.2.2.1
      rw [zlt, show (-1 : Int32).toInt = -1 by decide]
      show -1 < (sg (s2 H.1 0 j (nI 0)) v 4 j).toInt
      omega
set_option maxRecDepth 100000 in
set_option maxHeartbeats 400000 in
theorem c_loud_l {SM : zC} {SF : Nat → zQ → zP} (hZ : zZ SM SF) {Q : zQ} {H A K : zHl} {kp : Int32} {T : zTp} {S : Nat → zSh} {F : Nat → Int32} {m : zMs} {D i n : Nat} (hw : wf D H.1) (hn : n ≤ 60) (hD : D ≤ 17000) (hi : i < 8) {f : Nat → Int32} (hf : ∀ v, f v = sg (s2 H.1 5 i (nI v)) n 6 i) (k : ∀ A', Q (some (.int (nI (best f 10)))) (gh (H, A', K, kp, T, S, F) m)) :
    ∀ d v b mo A', v + d = 10 → bI f v b mo → SF mn_X_loud Q 35 [some (.ref 0), some (.int (nI i)), some (.int (nI n)), some (.int b), some (.int mo), some (.int (nI v))] [] (0, 0) (gh (H, A', K, kp, T, S, F) m) := by
  intro d
  induction d with
  | zero =>
    intro v b mo A' hv hI
    refine zgo hZ 35 60 rfl ?_
    refine ⟨fun _ => ?_, fun h => absurd ((ilt (a := 9) (m := 9) rfl rfl (by omega) (by omega)).mpr (by omega)) h⟩
    have hv : v = 10 := by omega
    subst hv
    rw [hI.1]
    exact k _
  | succ d ih =>
    intro v b mo A' hv hI
    have hn1 : ∀ b mo A', bI f (v + 1) b mo → SF mn_X_loud Q 35 [some (.ref 0), some (.int (nI i)), some (.int (nI n)), some (.int b), some (.int mo), some (.int (nI v + 1))] [] (0, 0) (gh (H, A', K, kp, T, S, F) m) := by
      intro b mo A' h
      rw [nI_1]
      exact ih (v + 1) b mo A' (by omega) h
    have ef : f v = (sus (s2 H.1 5 i (nI v), A'.2) n).1 6 i := by rw [hf, sgA]
    have ha := bI_a hI
    have hb := bI_b hI
    rw [ef] at ha hb
    refine zgo hZ 35 90 rfl ?_
    refine ⟨fun h => ?_, fun _ => ?_⟩
    · have := (ilt (a := 9) (m := 9) rfl rfl (by omega) (by omega)).mp h
      omega
    · refine c_becomeAH hZ ?_
      refine ⟨i, hi, rfl, ?_⟩
      refine c_goSundays2 (B := H) (H := (s2 H.1 5 i (nI v), A'.2)) (y := (K, kp, T, S, F)) (m := m) hZ (wf_ld hw i (v := v) (by omega)) (by omega) (by omega) ?_
      refine ⟨i, hi, rfl, fun h1 => ?_, fun h1 => ⟨i, hi, rfl, ?_⟩⟩
      · exact hn1 _ _ _ (ha h1)
      · exact hn1 _ _ _ (hb h1)
set_option maxRecDepth 100000 in
set_option maxHeartbeats 400000 in
theorem c_loud {SM : zC} {SF : Nat → zQ → zP} (hZ : zZ SM SF) {Q : zQ} {H A K : zHl} {kp : Int32} {T : zTp} {S : Nat → zSh} {F : Nat → Int32} {m : zMs} {D : Nat} (hw : wf D H.1) (hD : D ≤ 17000) {i n : Int32} (k : ∀ A', Q (some (.int (sp_loud H.1 F i n).1)) (gh (((sp_loud H.1 F i n).2.1, H.2), A', K, kp, T, S, (sp_loud H.1 F i n).2.2) m)) : SM mn_X_loud [.ref 0, .int i, .int n] (gh (H, A, K, kp, T, S, F) m) Q := by
  unfold sp_loud at k
  refine zin hZ 35 60 rfl rfl rfl ?_
  refine c_isNoCouple hZ hw.2.2.2.2.1 hw.2.2.2.2.2 (fun h1 => ⟨fun _ => ?_, nt⟩) (fun h1 => ⟨nf, fun _ => ?_⟩)
  · rw [if_neg (fun z => h1 ((inC_iff hw i).mp z.1))] at k
    exact c_tell hZ 0 (by decide) rfl (k A)
  · refine c_isOutside hZ (fun h2 => ⟨nt, fun _ => ?_⟩) (fun h2 h3 => ⟨fun _ => ?_, nf⟩)
    · rw [if_neg (fun z => h2 z.2)] at k
      exact c_tell hZ 0 (by decide) rfl (k A)
    · rw [if_pos ⟨(inC_iff hw i).mpr h1, h2, h3⟩] at k
      obtain ⟨j, hj1, hj2, rfl, hj3⟩ := inC_get hw h1
      obtain ⟨v, hv1, hv2, rfl, hv3⟩ := rng_get (w := n) (a := 1) (b := 60) (by omega) h2 h3 (by omega)
      rw [hj3, hv3] at k
      refine c_loud_l (A := A) hZ hw hv2 hD hj2 (fun v => rfl) k 10 0 0 (-1000) A (by omega) ⟨rfl, Or.inl ⟨rfl, ?_⟩⟩
      have := ((sg_wf (wf_ld hw j (v := 0) (by omega)) (n := v) (by omega)).1.1 j hj2).2.2.2.2.2.2.1
      rw [zlt, show (-1000 : Int32).toInt = -1000 by decide]
      show -1000 < (sg (s2 H.1 5 j (nI 0)) v 6 j).toInt
      omega
set_option maxRecDepth 100000 in
set_option maxHeartbeats 400000 in
theorem c_stoke_l {SM : zC} {SF : Nat → zQ → zP} (hZ : zZ SM SF) {Q : zQ} {H A K : zHl} {kp : Int32} {T : zTp} {S : Nat → zSh} {F : Nat → Int32} {m : zMs} {D n : Nat} (hw : wf D H.1) (hn : n ≤ 60) (hD : D ≤ 17000) {f : Nat → Int32} (hf : ∀ v, f v = zsum (sg (s2 H.1 8 1 (nI v)) n 1) (nn H.1)) (k : ∀ A', Q (some (.int (nI (best f 21)))) (gh (H, A', K, kp, T, S, F) m)) :
    ∀ d v b mo o A', v + d = 21 → bI f v b mo → SF mn_X_stoke Q 24 [some (.ref 0), some (.int (nI n)), some (.int b), some (.int mo), some (.int (nI v)), o] [] (0, 0) (gh (H, A', K, kp, T, S, F) m) := by
  have hwf : ∀ u, u ≤ 20 → wf D (s2 H.1 8 1 (nI u)) := fun u hu => wf_fi hw (by rw [nI_toInt (by omega)]; omega)
  have hnn : ∀ u, nn (s2 H.1 8 1 (nI u)) = nn H.1 := fun u => by unfold nn; rw [s2_o H.1 (Or.inr (by decide))]
  intro d
  induction d with
  | zero =>
    intro v b mo o A' hv hI
    refine zgo hZ 24 60 rfl ?_
    refine ⟨fun _ => ?_, fun h => absurd ((ilt (a := 20) (m := 20) rfl rfl (by omega) (by omega)).mpr (by omega)) h⟩
    have hv : v = 21 := by omega
    subst hv
    rw [hI.1]
    exact k _
  | succ d ih =>
    intro v b mo o A' hv hI
    have hn1 : ∀ b mo o A', bI f (v + 1) b mo → SF mn_X_stoke Q 24 [some (.ref 0), some (.int (nI n)), some (.int b), some (.int mo), some (.int (nI v + 1)), o] [] (0, 0) (gh (H, A', K, kp, T, S, F) m) := by
      intro b mo o A' h
      rw [nI_1]
      exact ih (v + 1) b mo o A' (by omega) h
    have ef : f v = zsum ((sus (s2 H.1 8 1 (nI v), A'.2) n).1 1) (nn H.1) := by rw [hf, sgA]
    have ha := bI_a hI
    have hb := bI_b hI
    rw [ef] at ha hb
    obtain ⟨w1, w2, w3, w4⟩ := sus_wf (H := (s2 H.1 8 1 (nI v), A'.2)) (hwf v (by omega)) n (by omega)
    refine zgo hZ 24 90 rfl ?_
    refine ⟨fun h => ?_, fun _ => ?_⟩
    · have := (ilt (a := 20) (m := 20) rfl rfl (by omega) (by omega)).mp h
      omega
    · refine c_becomeAH hZ ?_
      refine c_goSundays2 (B := H) (H := (s2 H.1 8 1 (nI v), A'.2)) (y := (K, kp, T, S, F)) (m := m) hZ (hwf v (by omega)) (by omega) (by omega) ?_
      refine c_warmOfAll2 (N := nn H.1) hZ (by rw [w1.2.2.2.1.1, w2, hnn]) hw.2.2.2.1.2 ?_
      refine ⟨fun h1 => ?_, fun h1 => ?_⟩
      · exact hn1 _ _ _ _ (ha h1)
      · exact hn1 _ _ _ _ (hb h1)
set_option maxRecDepth 100000 in
set_option maxHeartbeats 400000 in
theorem c_stoke {SM : zC} {SF : Nat → zQ → zP} (hZ : zZ SM SF) {Q : zQ} {H A K : zHl} {kp : Int32} {T : zTp} {S : Nat → zSh} {F : Nat → Int32} {m : zMs} {D : Nat} (hw : wf D H.1) (hD : D ≤ 17000) {n : Int32} (k : ∀ A', Q (some (.int (sp_stoke H.1 F n).1)) (gh (((sp_stoke H.1 F n).2.1, H.2), A', K, kp, T, S, (sp_stoke H.1 F n).2.2) m)) : SM mn_X_stoke [.ref 0, .int n] (gh (H, A, K, kp, T, S, F) m) Q := by
  unfold sp_stoke at k
  refine zin hZ 24 60 rfl rfl rfl ?_
  refine c_isOutside hZ (fun h2 => ⟨nt, fun _ => ?_⟩) (fun h2 h3 => ⟨fun _ => ?_, nf⟩)
  · rw [if_neg h2] at k
    exact c_tell hZ 0 (by decide) rfl (k A)
  · rw [if_pos ⟨h2, h3⟩] at k
    obtain ⟨v, hv1, hv2, rfl, hv3⟩ := rng_get (w := n) (a := 1) (b := 60) (by omega) h2 h3 (by omega)
    rw [hv3] at k
    refine c_stoke_l (A := A) hZ hw hv2 hD (fun v => rfl) k 21 0 0 (-1) none A (by omega) ⟨rfl, Or.inl ⟨rfl, ?_⟩⟩
    have h4 := (sg_wf (wf_fi hw (v := nI 0) (by rw [nI_toInt (by omega)]; omega)) (n := v) (by omega)).1.1
    have h8 := hw.2.2.2.1.2
    have h5 := (zsum_rng (f := sg (s2 H.1 8 1 (nI 0)) v 1) (lo := 0) (hi := 99) (by omega) (by omega) (nn H.1) h8 (fun i hi => (h4 i (by omega)).2.1)).1
    rw [zlt, show (-1 : Int32).toInt = -1 by decide]
    show -1 < (zsum (sg (s2 H.1 8 1 (nI 0)) v 1) (nn H.1)).toInt
    omega
set_option maxRecDepth 100000 in
set_option maxHeartbeats 400000 in
theorem c_warm_l {SM : zC} {SF : Nat → zQ → zP} (hZ : zZ SM SF) {Q : zQ} {H A K : zHl} {kp : Int32} {T : zTp} {S : Nat → zSh} {F : Nat → Int32} {m : zMs} {D i n : Nat} {v : Int32} (hw : wf D H.1) (hn : n ≤ 60) (hD : D ≤ 16000) (hi : i < 8) {p : Nat → Bool} {f0 : Nat} (hp : ∀ u, p u = decide (v ≤ sg (s2 H.1 1 i (nI u)) n 4 i))
    (k : ∀ A', Q (some (.int (if f0 = 100 then fnx (-1000000004) 3 H.1 F else (nI f0, H.1, F)).1)) (gh (((if f0 = 100 then fnx (-1000000004) 3 H.1 F else (nI f0, H.1, F)).2.1, H.2), A', K, kp, T, S, (if f0 = 100 then fnx (-1000000004) 3 H.1 F else (nI f0, H.1, F)).2.2) m)) :
    ∀ d u A', u + d = 100 → f0 = fst1 p u d → SF mn_X_warm Q 39 [some (.ref 0), some (.int (nI i)), some (.int (nI n)), some (.int v), some (.int (nI u))] [] (0, 0) (gh (H, A', K, kp, T, S, F) m) := by
  intro d
  induction d with
  | zero =>
    intro u A' hu hf
    refine zgo hZ 39 60 rfl ?_
    refine ⟨fun _ => ?_, fun h => absurd ((ilt (a := 99) (m := 99) rfl rfl (by omega) (by omega)).mpr (by omega)) h⟩
    have hf : f0 = 100 := by rw [hf, show u = 100 by omega]; rfl
    rw [if_pos hf] at k
    exact c_tell hZ 3 (by decide) rfl (k _)
  | succ d ih =>
    intro u A' hu hf
    have eg := sgA (s2 H.1 1 i (nI u)) A'.2 n
    rw [fst1_s] at hf
    refine zgo hZ 39 90 rfl ?_
    refine ⟨fun h => ?_, fun _ => ?_⟩
    · have := (ilt (a := 99) (m := 99) rfl rfl (by omega) (by omega)).mp h
      omega
    · refine c_becomeAH hZ ?_
      refine ⟨i, hi, rfl, ?_⟩
      refine c_goSundays2 (B := H) (H := (s2 H.1 1 i (nI u), A'.2)) (y := (K, kp, T, S, F)) (m := m) hZ (wf_wm hw i (v := u) (by omega)) (by omega) (by omega) ?_
      refine ⟨i, hi, rfl, fun h1 => ?_, fun h1 => ?_⟩
      · have h1 : sg (s2 H.1 1 i (nI u)) n 4 i < v := by rw [← eg]; exact h1
        rw [hp, if_neg (by rw [decide_eq_true_eq]; exact nle_of h1)] at hf
        have h2 := ih (u + 1) (sus (s2 H.1 1 i (nI u), A'.2) n) (by omega) hf
        rw [← nI_1 u] at h2
        exact h2
      · have h1 : ¬ sg (s2 H.1 1 i (nI u)) n 4 i < v := by rw [← eg]; exact h1
        rw [hp, if_pos (by rw [decide_eq_true_eq]; exact le_of h1)] at hf
        rw [hf, if_neg (by omega)] at k
        exact k _
set_option maxRecDepth 100000 in
set_option maxHeartbeats 400000 in
theorem c_warm {SM : zC} {SF : Nat → zQ → zP} (hZ : zZ SM SF) {Q : zQ} {H A K : zHl} {kp : Int32} {T : zTp} {S : Nat → zSh} {F : Nat → Int32} {m : zMs} {D : Nat} (hw : wf D H.1) (hD : D ≤ 16000) {i n v : Int32} (k : ∀ A', Q (some (.int (sp_warm H.1 F i n v).1)) (gh (((sp_warm H.1 F i n v).2.1, H.2), A', K, kp, T, S, (sp_warm H.1 F i n v).2.2) m)) : SM mn_X_warm [.ref 0, .int i, .int n, .int v] (gh (H, A, K, kp, T, S, F) m) Q := by
  unfold sp_warm at k
  refine zin hZ 39 60 rfl rfl rfl ?_
  refine c_isNoInlaw hZ hw.2.2.2.1.1 hw.2.2.2.1.2 (fun h1 => ⟨fun _ => ?_, nt⟩) (fun h1 => ⟨nf, fun _ => ?_⟩)
  · rw [if_neg (fun z => h1 ((inI_iff hw i).mp z.1))] at k
    exact c_tell hZ 0 (by decide) rfl (k A)
  · refine c_isOutside hZ (fun h2 => ⟨fun _ => ?_, nt⟩) (fun h2 h3 => ⟨nf, fun _ => ?_⟩)
    · rw [if_neg (fun z => h2 z.2.1)] at k
      exact c_tell hZ 0 (by decide) rfl (k A)
    · refine c_isOutside hZ (fun h4 => ⟨nt, fun _ => ?_⟩) (fun h4 h5 => ⟨fun _ => ?_, nf⟩)
      · rw [if_neg (fun z => h4 z.2.2)] at k
        exact c_tell hZ 0 (by decide) rfl (k A)
      · rw [if_pos ⟨(inI_iff hw i).mpr h1, ⟨h2, h3⟩, h4, h5⟩] at k
        obtain ⟨j, hj1, hj2, rfl, hj3⟩ := inI_get hw h1
        obtain ⟨u, hu1, hu2, rfl, hu3⟩ := rng_get (w := n) (a := 1) (b := 60) (by omega) h2 h3 (by omega)
        rw [hj3, hu3] at k
        exact c_warm_l (A := A) hZ hw hu2 hD hj2 (fun m => rfl) k 100 0 A (by omega) rfl
set_option maxRecDepth 100000 in
set_option maxHeartbeats 400000 in
theorem c_sit_l {SM : zC} {SF : Nat → zQ → zP} (hZ : zZ SM SF) {Q : zQ} {H A K : zHl} {kp : Int32} {T : zTp} {S : Nat → zSh} {F : Nat → Int32} {m : zMs} {D n : Nat} (hw : wf D H.1) (hn : n ≤ 60) (hD : D ≤ 16000)
    (k : ∀ A', Q (some (.int (if sitb H.1 n (nn H.1) = -1 then fnx (-1000000004) 3 H.1 F else (sitb H.1 n (nn H.1), H.1, F)).1)) (gh (((if sitb H.1 n (nn H.1) = -1 then fnx (-1000000004) 3 H.1 F else (sitb H.1 n (nn H.1), H.1, F)).2.1, H.2), A', K, kp, T, S, (if sitb H.1 n (nn H.1) = -1 then fnx (-1000000004) 3 H.1 F else (sitb H.1 n (nn H.1), H.1, F)).2.2) m)) :
    ∀ d i mo o A', i + d = nn H.1 → (¬ sitb H.1 n i = -1 → mo = zsum (sg (s2 H.1 2 (ix (sitb H.1 n i)) 1) n 6) (nc H.1)) → SF mn_X_sit Q 24 [some (.ref 0), some (.int (nI n)), some (.int (sitb H.1 n i)), some (.int mo), some (.int (nI i)), o] [] (0, 0) (gh (H, A', K, kp, T, S, F) m) := by
  have h8 := hw.2.2.2.1.2
  have e2 := hw.2.2.2.1.1
  intro d
  induction d with
  | zero =>
    intro i mo o A' hi hI
    have hi : i = nn H.1 := by omega
    subst hi
    refine zgo hZ 999 60 rfl ?_
    refine ⟨fun _ => ⟨fun h => ?_, fun h => ?_⟩, fun h => absurd ((ile e2 rfl (by omega) (by omega)).mpr (by omega)) h⟩
    · rw [if_neg h] at k
      exact k _
    · rw [if_pos h] at k
      exact c_tell hZ 3 (by decide) rfl (k _)
  | succ d ih =>
    intro i mo o A' hi hI
    have i8 : i < 8 := by omega
    have hnx : ∀ b mo o A', b = sitb H.1 n (i + 1) → (¬ b = -1 → mo = zsum (sg (s2 H.1 2 (ix b) 1) n 6) (nc H.1)) → SF mn_X_sit Q 24 [some (.ref 0), some (.int (nI n)), some (.int b), some (.int mo), some (.int (nI i + 1)), o] [] (0, 0) (gh (H, A', K, kp, T, S, F) m) := by
      intro b mo o A' e hI
      subst e
      rw [nI_1]
      exact ih (i + 1) mo o A' (by omega) hI
    rw [sitb_s] at hnx
    generalize sitb H.1 n i = b at hI hnx
    have eg := sgA (s2 H.1 2 i 1) A'.2 n
    obtain ⟨w1, w2, w3, w4⟩ := sus_wf (H := (s2 H.1 2 i 1, A'.2)) (wf_st hw i) n (by omega)
    have hnc : nc (s2 H.1 2 i 1) = nc H.1 := (nn_s2 H.1 (by decide) i 1).2.1
    have key : (¬ nI i = (-1 : Int32) → zsum ((sus (s2 H.1 2 i 1, A'.2) n).1 6) (nc H.1) = zsum (sg (s2 H.1 2 (ix (nI i)) 1) n 6) (nc H.1)) := by
      intro _
      rw [eg, ix_nI (by omega)]
    refine zgo hZ 24 90 rfl ?_
    refine ⟨fun h => ?_, fun _ => ⟨i, i8, rfl, fun h1 => ?_, fun h1 => ?_⟩⟩
    · have := (ile e2 rfl (by omega) (by omega)).mp h
      omega
    · exact hnx b mo o A' (by rw [if_neg (fun z => h1 z.1)]) hI
    · refine c_becomeAH hZ ?_
      refine ⟨i, i8, rfl, ?_⟩
      refine c_goSundays2 (B := H) (H := (s2 H.1 2 i 1, A'.2)) (y := (K, kp, T, S, F)) (m := m) hZ (wf_st hw i) (by omega) (by omega) ?_
      refine c_wellOfAll2 (N := nc H.1) hZ (by rw [w1.2.2.2.2.1, w3, hnc]) hw.2.2.2.2.2 ?_
      refine ⟨fun h3 => ?_, fun h3 => ⟨fun h4 => ?_, fun h4 => ?_⟩⟩
      · exact hnx (nI i) _ _ _ (by rw [if_pos ⟨h1, Or.inl h3⟩]) key
      · rw [eg] at h4
        have hm := hI h3
        rw [hm] at h4
        exact hnx b mo _ _ (by rw [if_neg (fun z => z.2.elim h3 (nlt_of h4))]) hI
      · rw [eg] at h4
        have hm := hI h3
        rw [hm] at h4
        exact hnx (nI i) _ _ _ (by rw [if_pos ⟨h1, Or.inr (lt_of h4)⟩]) key
set_option maxRecDepth 100000 in
set_option maxHeartbeats 400000 in
theorem c_sit {SM : zC} {SF : Nat → zQ → zP} (hZ : zZ SM SF) {Q : zQ} {H A K : zHl} {kp : Int32} {T : zTp} {S : Nat → zSh} {F : Nat → Int32} {m : zMs} {D : Nat} (hw : wf D H.1) (hD : D ≤ 16000) {n : Int32} (k : ∀ A', Q (some (.int (sp_sit H.1 F n).1)) (gh (((sp_sit H.1 F n).2.1, H.2), A', K, kp, T, S, (sp_sit H.1 F n).2.2) m)) : SM mn_X_sit [.ref 0, .int n] (gh (H, A, K, kp, T, S, F) m) Q := by
  unfold sp_sit at k
  refine zin hZ 24 60 rfl rfl rfl ?_
  refine c_isOutside hZ (fun h2 => ⟨nt, fun _ => ?_⟩) (fun h2 h3 => ⟨fun _ => ?_, nf⟩)
  · rw [if_neg h2] at k
    exact c_tell hZ 0 (by decide) rfl (k A)
  · rw [if_pos ⟨h2, h3⟩] at k
    obtain ⟨v, hv1, hv2, rfl, hv3⟩ := rng_get (w := n) (a := 1) (b := 60) (by omega) h2 h3 (by omega)
    rw [hv3] at k
    exact c_sit_l (A := A) hZ hw hv2 hD k (nn H.1) 0 0 none A (by omega) (fun z => absurd rfl z)
set_option maxRecDepth 100000 in
set_option maxHeartbeats 400000 in
theorem c_lonely_l {SM : zC} {SF : Nat → zQ → zP} (hZ : zZ SM SF) {Q : zQ} {H A K : zHl} {kp : Int32} {T : zTp} {S : Nat → zSh} {F : Nat → Int32} {m : zMs} {N : Nat} (h8 : N ≤ 8) (hn : A.1 8 2 = nI N) (k : Q (some (.int (nI (best (A.1 3) N)))) (gh (H, A, K, kp, T, S, F) m)) : ∀ d i v, i + d = N → 1 ≤ i → SF mn_X_lonely Q 57 [some (.ref 0), some (.int v), some (.int (nI (best (A.1 3) i))), some (.int (nI i))] [] (0, 0) (gh (H, A, K, kp, T, S, F) m) := by
  intro d
  induction d with
  | zero =>
    intro i v hi h1
    refine zgo hZ 57 60 rfl ?_
    refine ⟨fun _ => ?_, fun h => absurd ((ile hn rfl (by omega) (by omega)).mpr (by omega)) h⟩
    rw [show i = N by omega]
    exact k
  | succ d ih =>
    intro i v hi h1
    have h2 := ih (i + 1) v (by omega) (by omega)
    rw [best_s, ← nI_1] at h2
    have hb : best (A.1 3) i < i := by
      match i, h1 with
      | i + 1, _ => exact best_lt _ i
    refine zgo hZ 57 60 rfl ?_
    refine ⟨fun h => ?_, fun _ => ⟨i, by omega, rfl, best (A.1 3) i, by omega, rfl, fun h3 => ?_, fun h3 => ?_⟩⟩
    · have := (ile hn rfl (by omega) (by omega)).mp h
      omega
    · rw [if_neg (nlt_of h3)] at h2
      exact h2
    · rw [if_pos (lt_of h3)] at h2
      exact h2
set_option maxRecDepth 100000 in
set_option maxHeartbeats 400000 in
theorem c_lonely {SM : zC} {SF : Nat → zQ → zP} (hZ : zZ SM SF) {Q : zQ} {H A K : zHl} {kp : Int32} {T : zTp} {S : Nat → zSh} {F : Nat → Int32} {m : zMs} {D : Nat} (hw : wf D H.1) (hD : D ≤ 16000) {n : Int32} (k : ∀ A', Q (some (.int (sp_lonely H.1 F n).1)) (gh (((sp_lonely H.1 F n).2.1, H.2), A', K, kp, T, S, (sp_lonely H.1 F n).2.2) m)) : SM mn_X_lonely [.ref 0, .int n] (gh (H, A, K, kp, T, S, F) m) Q := by
  have h8 := hw.2.2.2.1.2
  have e2 := hw.2.2.2.1.1
  unfold sp_lonely at k
  refine zin hZ 57 60 rfl rfl rfl ?_
  refine c_isOutside hZ (fun h2 => ⟨nt, fun _ => ?_⟩) (fun h2 h3 => ⟨fun _ => ⟨fun h4 => ?_, fun h4 => ?_⟩, nf⟩)
  · rw [if_neg h2] at k
    exact c_tell hZ 0 (by decide) rfl (k A)
  · have h4 : ¬ nn H.1 = 0 := fun z => h4 (by show H.1 8 2 = 0; rw [e2, z]; rfl)
    rw [if_pos ⟨h2, h3⟩, if_neg h4] at k
    obtain ⟨v, hv1, hv2, rfl, hv3⟩ := rng_get (w := n) (a := 0) (b := 100) (by omega) h2 h3 (by omega)
    obtain ⟨w1, w2, w3, w4⟩ := sus_wf (H := (H.1, A.2)) hw v (by omega)
    rw [hv3, ← sgA H.1 A.2 v] at k
    refine c_becomeAH hZ ?_
    refine c_goSundays2 (H := (H.1, A.2)) hZ hw (by omega) (by omega) ?_
    have h5 := c_lonely_l (H := H) (A := sus (H.1, A.2) v) (K := K) (kp := kp) (T := T) (S := S) (F := F) (m := m) (N := nn H.1) hZ h8 (by rw [w1.2.2.2.1.1, w2]) (k _) (nn H.1 - 1) 1 (nI v) (by omega) (by omega)
    rw [show best ((sus (H.1, A.2) v).1 3) 1 = 0 from ite_self _] at h5
    exact h5
  · have h4 : nn H.1 = 0 := by
      have h4 : H.1 8 2 = 0 := h4
      exact (ieq e2 (show (0 : Int32) = nI 0 from rfl) (by omega) (by omega)).mp h4
    rw [if_pos ⟨h2, h3⟩, if_pos h4] at k
    exact c_tell hZ 3 (by decide) rfl (k A)
