/-! THE CLASS'S CALLS, second part: Sundays, and ahead -/
theorem sgA (σ : zS) (p : (Nat → Int32) × Int32) (n : Nat) : (sus (σ, p) n).1 = sg σ n := sus_sg σ p.1 p.2 n
theorem ggA {D : Nat} {σ : zS} (hw : wf D σ) (p : (Nat → Int32) × Int32) {n c : Nat} (hn : D + n ≤ 20000) (hc : c < nc σ) : (sus (σ, p) (n + 1)).2.1 c = gg σ (n + 1) c := sus_gg hw p.1 p.2 hn hc
set_option maxRecDepth 100000 in
set_option maxHeartbeats 400000 in
theorem c_coupleOf {SM : zC} {SF : Nat → zQ → zP} (hZ : zZ SM SF) {Q : zQ} {H A K : zHl} {kp : Int32} {T : zTp} {S : Nat → zSh} {F : Nat → Int32} {m : zMs} {D : Nat} (hw : wf D H.1) (hD : D ≤ 18000) {i w : Int32} (k : ∀ A', Q (some (.int (sp_coupleOf H.1 F i w).1)) (gh (((sp_coupleOf H.1 F i w).2.1, H.2), A', K, kp, T, S, (sp_coupleOf H.1 F i w).2.2) m)) : SM mn_X_coupleOf [.ref 0, .int i, .int w] (gh (H, A, K, kp, T, S, F) m) Q := by
  have h8 := hw.2.2.2.2.2
  unfold sp_coupleOf at k
  refine zin hZ 999 60 rfl rfl rfl ?_
  refine c_isNoCouple hZ hw.2.2.2.2.1 h8 (fun h1 => ⟨nt, fun _ => ?_⟩) (fun h1 => ⟨fun _ => ?_, nf⟩)
  · rw [if_neg (fun z => h1 ((inC_iff hw i).mp z.1))] at k
    exact c_tell hZ 0 (by decide) rfl (k A)
  · have hI := (inC_iff hw i).mpr h1
    obtain ⟨j, hj, rfl⟩ := h1
    have hj8 : j < 8 := by omega
    rw [ix_nI (show j < 1000 by omega)] at k
    refine ⟨fun h0 => ?_, fun h0 => ⟨fun h1 => ?_, fun h1 => ⟨fun h2 => ?_, fun h2 => ⟨fun h3 => ?_, fun h3 => ?_⟩⟩⟩⟩
    · rw [show w = 0 from h0, if_pos ⟨hI, by decide⟩, if_neg (by decide), if_neg (by decide), show ix (0 : Int32) = 0 by decide] at k
      exact ⟨j, hj8, rfl, k A⟩
    · rw [show w = 1 from h1, if_pos ⟨hI, by decide⟩, if_neg (by decide), if_pos rfl] at k
      exact ⟨j, hj8, rfl, k A⟩
    · rw [show w = 2 from h2, if_pos ⟨hI, by decide⟩, if_neg (by decide), if_neg (by decide), show ix (2 : Int32) = 2 by decide] at k
      exact ⟨j, hj8, rfl, k A⟩
    · rw [show w = 3 from h3, if_pos ⟨hI, by decide⟩, if_pos rfl, ← ggA hw A.2 (n := 0) (by omega) hj] at k
      refine c_becomeAH hZ ?_
      refine c_goOneSunday2 (H := (H.1, A.2)) hZ hw (by omega) ?_
      exact ⟨j, hj8, rfl, k _⟩
    · rw [if_neg (fun z => ?_)] at k
      · exact c_tell hZ 0 (by decide) rfl (k A)
      · obtain ⟨v, hv1, hv2, rfl, hv3⟩ := rng_get (w := w) (a := 0) (b := 3) (by omega) z.2.1 z.2.2 (by omega)
        match v, hv2 with
        | 0, _ => exact h0 rfl
        | 1, _ => exact h1 rfl
        | 2, _ => exact h2 rfl
        | 3, _ => exact h3 rfl
set_option maxRecDepth 100000 in
set_option maxHeartbeats 400000 in
theorem c_sundays {SM : zC} {SF : Nat → zQ → zP} (hZ : zZ SM SF) {Q : zQ} {H A K : zHl} {kp : Int32} {T : zTp} {S : Nat → zSh} {F : Nat → Int32} {m : zMs} {D : Nat} (hw : wf D H.1) (hD : D ≤ 17000) {n : Int32} (k : ∀ p : (Nat → Int32) × Int32, Q (some (.int (sp_sundays H.1 F n).1)) (gh (((sp_sundays H.1 F n).2.1, p), A, K, kp, T, S, (sp_sundays H.1 F n).2.2) m)) : SM mn_X_sundays [.ref 0, .int n] (gh (H, A, K, kp, T, S, F) m) Q := by
  unfold sp_sundays at k
  refine zin hZ 999 60 rfl rfl rfl ?_
  refine c_isOutside hZ (fun h1 => ⟨nt, fun _ => ?_⟩) (fun h1 h2 => ⟨fun _ => ⟨fun h3 => ?_, fun h3 => ?_⟩, nf⟩)
  · rw [if_neg h1] at k
    exact c_tell hZ 0 (by decide) rfl (k H.2)
  · rw [if_pos ⟨h1, h2⟩, if_neg (nlt_of (show H.1 8 0 + n ≤ 9999 from h3))] at k
    obtain ⟨v, hv1, hv2, rfl, hv3⟩ := rng_get (w := n) (a := 1) (b := 60) (by omega) h1 h2 (by omega)
    rw [hv3] at k
    obtain ⟨w1, w2, w3, w4⟩ := sus_wf (H := H) hw v (by omega)
    refine c_goSundays1 hZ hw (by omega) (by omega) ?_
    refine c_warmOfAll1 (N := nn H.1) hZ (by rw [w1.2.2.2.1.1, w2]) hw.2.2.2.1.2 ?_
    have e : sg H.1 v = (sus H v).1 := (sgA H.1 H.2 v).symm
    rw [e] at k
    exact k (sus H v).2
  · rw [if_pos ⟨h1, h2⟩, if_pos (lt_of (show ¬ H.1 8 0 + n ≤ 9999 from h3))] at k
    exact c_tell hZ 4 (by decide) rfl (k H.2)
set_option maxRecDepth 100000 in
set_option maxHeartbeats 400000 in
theorem c_on {SM : zC} {SF : Nat → zQ → zP} (hZ : zZ SM SF) {Q : zQ} {H A K : zHl} {kp : Int32} {T : zTp} {S : Nat → zSh} {F : Nat → Int32} {m : zMs} {D : Nat} (hw : wf D H.1) (hD : D ≤ 17000) {i n w : Int32} (k : ∀ A', Q (some (.int (sp_on H.1 F i n w).1)) (gh (((sp_on H.1 F i n w).2.1, H.2), A', K, kp, T, S, (sp_on H.1 F i n w).2.2) m)) : SM mn_X_on [.ref 0, .int i, .int n, .int w] (gh (H, A, K, kp, T, S, F) m) Q := by
  unfold sp_on at k
  refine zin hZ 999 60 rfl rfl rfl ?_
  refine c_isNoCouple hZ hw.2.2.2.2.1 hw.2.2.2.2.2 (fun h1 => ⟨fun _ => ?_, nt⟩) (fun h1 => ⟨nf, fun _ => ?_⟩)
  · rw [if_neg (fun z => h1 ((inC_iff hw i).mp z.1))] at k
    exact c_tell hZ 0 (by decide) rfl (k A)
  · refine c_isOutside hZ (fun h2 => ⟨fun _ => ?_, nt⟩) (fun h2 h3 => ⟨nf, fun _ => ?_⟩)
    · rw [if_neg (fun z => h2 z.2.1)] at k
      exact c_tell hZ 0 (by decide) rfl (k A)
    · refine c_isOutside hZ (fun h4 => ⟨nt, fun _ => ?_⟩) (fun h4 h5 => ⟨fun _ => ?_, nf⟩)
      · rw [if_neg (fun z => h4 z.2.2)] at k
        exact c_tell hZ 0 (by decide) rfl (k A)
      · rw [if_pos ⟨(inC_iff hw i).mpr h1, ⟨h2, h3⟩, h4, h5⟩] at k
        obtain ⟨j, hj1, hj2, rfl, hj3⟩ := inC_get hw h1
        obtain ⟨v, hv1, hv2, rfl, hv3⟩ := rng_get (w := n) (a := 0) (b := 100) (by omega) h2 h3 (by omega)
        obtain ⟨u, hu1, hu2, rfl, hu3⟩ := rng_get (w := w) (a := 0) (b := 1) (by omega) h4 h5 (by omega)
        rw [hj3, hv3, hu3, ← sgA H.1 A.2 v] at k
        refine c_becomeAH hZ ?_
        refine c_goSundays2 (H := (H.1, A.2)) hZ hw (by omega) (by omega) ?_
        refine ⟨fun g1 => ⟨j, hj2, rfl, ?_⟩, fun g1 => ⟨j, hj2, rfl, ?_⟩⟩
        · have : u = 1 := by
            match u, hu2 with
            | 0, _ => exact absurd rfl g1
            | 1, _ => rfl
          subst this
          exact k _
        · have : u = 0 := by
            match u, hu2 with
            | 0, _ => rfl
            | 1, _ => exact absurd g1 (by decide)
          subst this
          exact k _
set_option maxRecDepth 100000 in
set_option maxHeartbeats 400000 in
theorem c_then {SM : zC} {SF : Nat → zQ → zP} (hZ : zZ SM SF) {Q : zQ} {H A K : zHl} {kp : Int32} {T : zTp} {S : Nat → zSh} {F : Nat → Int32} {m : zMs} {D : Nat} (hw : wf D H.1) (hD : D ≤ 17000) {i n w : Int32} (k : ∀ A', Q (some (.int (sp_then H.1 F i n w).1)) (gh (((sp_then H.1 F i n w).2.1, H.2), A', K, kp, T, S, (sp_then H.1 F i n w).2.2) m)) : SM mn_X_then [.ref 0, .int i, .int n, .int w] (gh (H, A, K, kp, T, S, F) m) Q := by
  unfold sp_then at k
  refine zin hZ 999 60 rfl rfl rfl ?_
  refine c_isNoInlaw hZ hw.2.2.2.1.1 hw.2.2.2.1.2 (fun h1 => ⟨fun _ => ?_, nt⟩) (fun h1 => ⟨nf, fun _ => ?_⟩)
  · rw [if_neg (fun z => h1 ((inI_iff hw i).mp z.1))] at k
    exact c_tell hZ 0 (by decide) rfl (k A)
  · refine c_isOutside hZ (fun h2 => ⟨fun _ => ?_, nt⟩) (fun h2 h3 => ⟨nf, fun _ => ?_⟩)
    · rw [if_neg (fun z => h2 z.2.1)] at k
      exact c_tell hZ 0 (by decide) rfl (k A)
    · refine c_isOutside hZ (fun h4 => ⟨nt, fun _ => ?_⟩) (fun h4 h5 => ⟨fun _ => ?_, nf⟩)
      · rw [if_neg (fun z => h4 z.2.2)] at k
        exact c_tell hZ 0 (by decide) rfl (k A)
      · rw [if_pos ⟨(inI_iff hw i).mpr h1, ⟨h2, h3⟩, h4, h5⟩] at k
        obtain ⟨j, hj1, hj2, rfl, hj3⟩ := inI_get hw h1
        obtain ⟨v, hv1, hv2, rfl, hv3⟩ := rng_get (w := n) (a := 0) (b := 100) (by omega) h2 h3 (by omega)
        rw [hj3, hv3, ← sgA H.1 A.2 v] at k
        refine c_becomeAH hZ ?_
        refine c_goSundays2 (H := (H.1, A.2)) hZ hw (by omega) (by omega) ?_
        refine ⟨fun g1 => ⟨fun g2 => ⟨j, hj2, rfl, ?_⟩, fun g2 => ⟨j, hj2, rfl, ?_⟩⟩, fun g1 => ⟨j, hj2, rfl, ?_⟩⟩
        · rw [if_neg (show ¬ w = 0 from g1), if_neg (show ¬ w = 1 from g2)] at k
          exact k _
        · rw [if_neg (show ¬ w = 0 from g1), if_pos (show w = 1 from g2)] at k
          exact k _
        · rw [if_pos (show w = 0 from g1)] at k
          exact k _
set_option maxRecDepth 100000 in
set_option maxHeartbeats 400000 in
theorem c_meets_l {SM : zC} {SF : Nat → zQ → zP} (hZ : zZ SM SF) {Q : zQ} {H A K : zHl} {kp : Int32} {T : zTp} {S : Nat → zSh} {F : Nat → Int32} {m : zMs} {D c : Nat} {i : Int32} (hw : wf D H.1) (hD : D ≤ 17000) (hc : c < nc H.1) {p : Nat → Bool} {f0 : Nat} (hp : ∀ n, p n = decide (gg H.1 n c = i))
    (k : ∀ A', Q (some (.int (if f0 = 101 then fnx (-1000000004) 3 H.1 F else (nI f0, H.1, F)).1)) (gh (((if f0 = 101 then fnx (-1000000004) 3 H.1 F else (nI f0, H.1, F)).2.1, H.2), A', K, kp, T, S, (if f0 = 101 then fnx (-1000000004) 3 H.1 F else (nI f0, H.1, F)).2.2) m)) :
    ∀ d j, j + d = 100 → f0 = fst1 p (j + 1) d → SF mn_X_meets Q 36 [some (.ref 0), some (.int (nI c)), some (.int i), some (.int (nI (j + 1)))] [] (0, 0) (gh (H, sus (H.1, A.2) j, K, kp, T, S, F) m) := by
  have h8 := hw.2.2.2.2.2
  intro d
  induction d with
  | zero =>
    intro j hj hf
    refine zgo hZ 36 60 rfl ?_
    refine ⟨fun _ => ?_, fun h => absurd ((ilt (a := 100) (m := 100) rfl rfl (by omega) (by omega)).mpr (by omega)) h⟩
    have hf : f0 = 101 := by rw [hf, show j = 100 by omega]; rfl
    rw [if_pos hf] at k
    exact c_tell hZ 3 (by decide) rfl (k _)
  | succ d ih =>
    intro j hj hf
    refine zgo hZ 36 60 rfl ?_
    refine ⟨fun h => ?_, fun _ => ?_⟩
    · have := (ilt (a := 100) (m := 100) rfl rfl (by omega) (by omega)).mp h
      omega
    · refine c_goOneSunday2 hZ (sus_wf (H := (H.1, A.2)) hw j (by omega)).1 (by omega) ?_
      have eg : (su (sus (H.1, A.2) j)).2.1 c = gg H.1 (j + 1) c := ggA hw A.2 (by omega) hc
      rw [fst1_s] at hf
      refine ⟨c, by omega, rfl, fun h1 => ?_, fun h1 => ?_⟩
      · have h1 : ¬ gg H.1 (j + 1) c = i := by rw [← eg]; exact h1
        rw [hp, if_neg (by rw [decide_eq_true_eq]; exact h1)] at hf
        have h2 := ih (j + 1) (by omega) hf
        rw [← nI_1 (j + 1)] at h2
        exact h2
      · have h1 : gg H.1 (j + 1) c = i := by rw [← eg]; exact h1
        rw [hp, if_pos (by rw [decide_eq_true_eq]; exact h1)] at hf
        rw [hf, if_neg (by omega)] at k
        exact k _
set_option maxRecDepth 100000 in
set_option maxHeartbeats 400000 in
theorem c_meets {SM : zC} {SF : Nat → zQ → zP} (hZ : zZ SM SF) {Q : zQ} {H A K : zHl} {kp : Int32} {T : zTp} {S : Nat → zSh} {F : Nat → Int32} {m : zMs} {D : Nat} (hw : wf D H.1) (hD : D ≤ 17000) {c i : Int32} (k : ∀ A', Q (some (.int (sp_meets H.1 F c i).1)) (gh (((sp_meets H.1 F c i).2.1, H.2), A', K, kp, T, S, (sp_meets H.1 F c i).2.2) m)) : SM mn_X_meets [.ref 0, .int c, .int i] (gh (H, A, K, kp, T, S, F) m) Q := by
  unfold sp_meets at k
  refine zin hZ 36 60 rfl rfl rfl ?_
  refine c_isNoCouple hZ hw.2.2.2.2.1 hw.2.2.2.2.2 (fun h1 => ⟨fun _ => ?_, nt⟩) (fun h1 => ⟨nf, fun _ => ?_⟩)
  · rw [if_neg (fun z => h1 ((inC_iff hw c).mp z.1))] at k
    exact c_tell hZ 0 (by decide) rfl (k A)
  · refine c_isNoInlaw hZ hw.2.2.2.1.1 hw.2.2.2.1.2 (fun h2 => ⟨nt, fun _ => ?_⟩) (fun h2 => ⟨fun _ => ?_, nf⟩)
    · rw [if_neg (fun z => h2 ((inI_iff hw i).mp z.2))] at k
      exact c_tell hZ 0 (by decide) rfl (k A)
    · rw [if_pos ⟨(inC_iff hw c).mpr h1, (inI_iff hw i).mpr h2⟩] at k
      obtain ⟨j, hj1, hj2, rfl, hj3⟩ := inC_get hw h1
      rw [hj3] at k
      refine c_becomeAH hZ ?_
      exact c_meets_l (A := A) hZ hw hD hj1 (fun n => rfl) k 100 0 (by omega) rfl
set_option maxRecDepth 100000 in
set_option maxHeartbeats 400000 in
theorem c_well_l {SM : zC} {SF : Nat → zQ → zP} (hZ : zZ SM SF) {Q : zQ} {H A K : zHl} {kp : Int32} {T : zTp} {S : Nat → zSh} {F : Nat → Int32} {m : zMs} {D c : Nat} {v : Int32} (hw : wf D H.1) (hD : D ≤ 17000) (hc : c < 8) {p : Nat → Bool} {f0 : Nat} (hp : ∀ n, p n = decide (v ≤ sg H.1 n 6 c))
    (k : ∀ A', Q (some (.int (if f0 = 101 then fnx (-1000000004) 3 H.1 F else (nI f0, H.1, F)).1)) (gh (((if f0 = 101 then fnx (-1000000004) 3 H.1 F else (nI f0, H.1, F)).2.1, H.2), A', K, kp, T, S, (if f0 = 101 then fnx (-1000000004) 3 H.1 F else (nI f0, H.1, F)).2.2) m)) :
    ∀ d j, j + d = 101 → f0 = fst1 p j d → SF mn_X_well Q 41 [some (.ref 0), some (.int (nI c)), some (.int v), some (.int (nI j))] [] (0, 0) (gh (H, sus (H.1, A.2) j, K, kp, T, S, F) m) := by
  intro d
  induction d with
  | zero =>
    intro j hj hf
    refine zgo hZ 41 60 rfl ?_
    refine ⟨fun _ => ?_, fun h => absurd ((ilt (a := 100) (m := 100) rfl rfl (by omega) (by omega)).mpr (by omega)) h⟩
    have hf : f0 = 101 := by rw [hf, show j = 101 by omega]; rfl
    rw [if_pos hf] at k
    exact c_tell hZ 3 (by decide) rfl (k _)
  | succ d ih =>
    intro j hj hf
    have eg := sgA H.1 A.2 j
    rw [fst1_s] at hf
    refine zgo hZ 41 60 rfl ?_
    refine ⟨fun h => ?_, fun _ => ⟨c, hc, rfl, fun h1 => ?_, fun h1 => ?_⟩⟩
    · have := (ilt (a := 100) (m := 100) rfl rfl (by omega) (by omega)).mp h
      omega
    · have h1 : sg H.1 j 6 c < v := by rw [← eg]; exact h1
      rw [hp, if_neg (by rw [decide_eq_true_eq]; exact nle_of h1)] at hf
      refine c_goOneSunday2 hZ (sus_wf (H := (H.1, A.2)) hw j (by omega)).1 (by omega) ?_
      have h2 := ih (j + 1) (by omega) hf
      rw [← nI_1 j] at h2
      exact h2
    · have h1 : ¬ sg H.1 j 6 c < v := by rw [← eg]; exact h1
      rw [hp, if_pos (by rw [decide_eq_true_eq]; exact le_of h1)] at hf
      rw [hf, if_neg (by omega)] at k
      exact k _
set_option maxRecDepth 100000 in
set_option maxHeartbeats 400000 in
theorem c_well {SM : zC} {SF : Nat → zQ → zP} (hZ : zZ SM SF) {Q : zQ} {H A K : zHl} {kp : Int32} {T : zTp} {S : Nat → zSh} {F : Nat → Int32} {m : zMs} {D : Nat} (hw : wf D H.1) (hD : D ≤ 17000) {c v : Int32} (k : ∀ A', Q (some (.int (sp_well H.1 F c v).1)) (gh (((sp_well H.1 F c v).2.1, H.2), A', K, kp, T, S, (sp_well H.1 F c v).2.2) m)) : SM mn_X_well [.ref 0, .int c, .int v] (gh (H, A, K, kp, T, S, F) m) Q := by
  unfold sp_well at k
  refine zin hZ 41 60 rfl rfl rfl ?_
  refine c_isNoCouple hZ hw.2.2.2.2.1 hw.2.2.2.2.2 (fun h1 => ⟨fun _ => ?_, nt⟩) (fun h1 => ⟨nf, fun _ => ?_⟩)
  · rw [if_neg (fun z => h1 ((inC_iff hw c).mp z.1))] at k
    exact c_tell hZ 0 (by decide) rfl (k A)
  · refine c_isOutside hZ (fun h2 => ⟨nt, fun _ => ?_⟩) (fun h2 h3 => ⟨fun _ => ?_, nf⟩)
    · rw [if_neg (fun z => h2 z.2)] at k
      exact c_tell hZ 0 (by decide) rfl (k A)
    · rw [if_pos ⟨(inC_iff hw c).mpr h1, h2, h3⟩] at k
      obtain ⟨j, hj1, hj2, rfl, hj3⟩ := inC_get hw h1
      rw [hj3] at k
      refine c_becomeAH hZ ?_
      exact c_well_l (A := A) hZ hw hD hj2 (fun n => rfl) k 101 0 (by omega) rfl
set_option maxRecDepth 100000 in
set_option maxHeartbeats 400000 in
theorem c_cold_l {SM : zC} {SF : Nat → zQ → zP} (hZ : zZ SM SF) {Q : zQ} {H A K : zHl} {kp : Int32} {T : zTp} {S : Nat → zSh} {F : Nat → Int32} {m : zMs} {D c : Nat} (hw : wf D H.1) (hD : D ≤ 17000) (hc : c < 8) {p : Nat → Bool} {f0 : Nat} (hp : ∀ n, p n = decide (sg H.1 n 1 c = 0))
    (k : ∀ A', Q (some (.int (if f0 = 101 then fnx (-1000000004) 3 H.1 F else (nI f0, H.1, F)).1)) (gh (((if f0 = 101 then fnx (-1000000004) 3 H.1 F else (nI f0, H.1, F)).2.1, H.2), A', K, kp, T, S, (if f0 = 101 then fnx (-1000000004) 3 H.1 F else (nI f0, H.1, F)).2.2) m)) :
    ∀ d j, j + d = 101 → f0 = fst1 p j d → SF mn_X_cold Q 28 [some (.ref 0), some (.int (nI c)), some (.int (nI j))] [] (0, 0) (gh (H, sus (H.1, A.2) j, K, kp, T, S, F) m) := by
  intro d
  induction d with
  | zero =>
    intro j hj hf
    refine zgo hZ 28 60 rfl ?_
    refine ⟨fun _ => ?_, fun h => absurd ((ilt (a := 100) (m := 100) rfl rfl (by omega) (by omega)).mpr (by omega)) h⟩
    have hf : f0 = 101 := by rw [hf, show j = 101 by omega]; rfl
    rw [if_pos hf] at k
    exact c_tell hZ 3 (by decide) rfl (k _)
  | succ d ih =>
    intro j hj hf
    have eg := sgA H.1 A.2 j
    rw [fst1_s] at hf
    refine zgo hZ 28 60 rfl ?_
    refine ⟨fun h => ?_, fun _ => ⟨c, hc, rfl, fun h1 => ?_, fun h1 => ?_⟩⟩
    · have := (ilt (a := 100) (m := 100) rfl rfl (by omega) (by omega)).mp h
      omega
    · have h1 : ¬ sg H.1 j 1 c = 0 := by rw [← eg]; exact h1
      rw [hp, if_neg (by rw [decide_eq_true_eq]; exact h1)] at hf
      refine c_goOneSunday2 hZ (sus_wf (H := (H.1, A.2)) hw j (by omega)).1 (by omega) ?_
      have h2 := ih (j + 1) (by omega) hf
      rw [← nI_1 j] at h2
      exact h2
    · have h1 : sg H.1 j 1 c = 0 := by rw [← eg]; exact h1
      rw [hp, if_pos (by rw [decide_eq_true_eq]; exact h1)] at hf
      rw [hf, if_neg (by omega)] at k
      exact k _
set_option maxRecDepth 100000 in
set_option maxHeartbeats 400000 in
theorem c_cold {SM : zC} {SF : Nat → zQ → zP} (hZ : zZ SM SF) {Q : zQ} {H A K : zHl} {kp : Int32} {T : zTp} {S : Nat → zSh} {F : Nat → Int32} {m : zMs} {D : Nat} (hw : wf D H.1) (hD : D ≤ 17000) {c : Int32} (k : ∀ A', Q (some (.int (sp_cold H.1 F c).1)) (gh (((sp_cold H.1 F c).2.1, H.2), A', K, kp, T, S, (sp_cold H.1 F c).2.2) m)) : SM mn_X_cold [.ref 0, .int c] (gh (H, A, K, kp, T, S, F) m) Q := by
  unfold sp_cold at k
  refine zin hZ 28 60 rfl rfl rfl ?_
  refine c_isNoInlaw hZ hw.2.2.2.1.1 hw.2.2.2.1.2 (fun h1 => ⟨nt, fun _ => ?_⟩) (fun h1 => ⟨fun _ => ?_, nf⟩)
  · rw [if_neg (fun z => h1 ((inI_iff hw c).mp z))] at k
    exact c_tell hZ 0 (by decide) rfl (k A)
  · rw [if_pos ((inI_iff hw c).mpr h1)] at k
    obtain ⟨j, hj1, hj2, rfl, hj3⟩ := inI_get hw h1
    rw [hj3] at k
    refine c_becomeAH hZ ?_
    exact c_cold_l (A := A) hZ hw hD hj2 (fun n => rfl) k 101 0 (by omega) rfl
