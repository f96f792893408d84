/-! THE CLASS'S CALLS, first part -/
set_option maxRecDepth 100000 in
set_option maxHeartbeats 400000 in
theorem c_isNoInlaw {SM : zC} {SF : Nat → zQ → zP} (hZ : zZ SM SF) {Q : zQ} {H A K : zHl} {kp : Int32} {T : zTp} {S : Nat → zSh} {F : Nat → Int32} {m : zMs} {i : Int32} {n : Nat} (hn : H.1 8 2 = nI n) (h8 : n ≤ 8) (kt : ¬ zIn i n → Q (some (.int 1)) (gh (H, A, K, kp, T, S, F) m)) (kf : zIn i n → Q (some (.int 0)) (gh (H, A, K, kp, T, S, F) m)) : SM mn_X_isNoInlaw [.ref 0, .int i] (gh (H, A, K, kp, T, S, F) m) Q := by
  refine zin hZ 999 50 rfl rfl rfl ?_
  refine c_isOutside hZ (fun h1 => ⟨Or.inr rfl, kt (fun z => ?_)⟩) (fun h1 h2 => ⟨Or.inl rfl, kf ((zIn_iff (n := n) (by omega)).mpr ⟨h1, ?_⟩)⟩)
  · have z := (zIn_iff (n := n) (by omega)).mp z
    rw [← hn] at z
    exact h1 z
  · rw [← hn]
    exact h2
set_option maxRecDepth 100000 in
set_option maxHeartbeats 400000 in
theorem c_isNoCouple {SM : zC} {SF : Nat → zQ → zP} (hZ : zZ SM SF) {Q : zQ} {H A K : zHl} {kp : Int32} {T : zTp} {S : Nat → zSh} {F : Nat → Int32} {m : zMs} {i : Int32} {n : Nat} (hn : H.1 8 3 = nI n) (h8 : n ≤ 8) (kt : ¬ zIn i n → Q (some (.int 1)) (gh (H, A, K, kp, T, S, F) m)) (kf : zIn i n → Q (some (.int 0)) (gh (H, A, K, kp, T, S, F) m)) : SM mn_X_isNoCouple [.ref 0, .int i] (gh (H, A, K, kp, T, S, F) m) Q := by
  refine zin hZ 999 50 rfl rfl rfl ?_
  refine c_isOutside hZ (fun h1 => ⟨Or.inr rfl, kt (fun z => ?_)⟩) (fun h1 h2 => ⟨Or.inl rfl, kf ((zIn_iff (n := n) (by omega)).mpr ⟨h1, ?_⟩)⟩)
  · have z := (zIn_iff (n := n) (by omega)).mp z
    rw [← hn] at z
    exact h1 z
  · rw [← hn]
    exact h2
theorem c_isNoKind {SM : zC} {SF : Nat → zQ → zP} (hZ : zZ SM SF) {Q : zQ} {h : zH} {i : Int32} (kt : ¬ (0 ≤ i ∧ i ≤ 5) → Q (some (.int 1)) h) (kf : 0 ≤ i → i ≤ 5 → Q (some (.int 0)) h) : SM mn_X_isNoKind [.int i] h Q := by
  refine zin hZ 999 50 rfl rfl rfl ?_
  exact c_isOutside hZ (fun h1 => ⟨Or.inr rfl, kt h1⟩) (fun h1 h2 => ⟨Or.inl rfl, kf h1 h2⟩)
theorem c_isNoSheet {SM : zC} {SF : Nat → zQ → zP} (hZ : zZ SM SF) {Q : zQ} {h : zH} {i : Int32} (kt : ¬ zIn i 4 → Q (some (.int 1)) h) (kf : zIn i 4 → Q (some (.int 0)) h) : SM mn_X_isNoSheet [.int i] h Q := by
  refine zin hZ 999 50 rfl rfl rfl ?_
  exact c_isOutside hZ (fun h1 => ⟨Or.inr rfl, kt (fun z => h1 ((zIn_iff (n := 4) (by omega)).mp z))⟩) (fun h1 h2 => ⟨Or.inl rfl, kf ((zIn_iff (n := 4) (by omega)).mpr ⟨h1, h2⟩)⟩)
theorem c_isUnderV {SM : zC} {SF : Nat → zQ → zP} (hZ : zZ SM SF) {Q : zQ} {h : zH} {v b : Int32} (hv : 0 ≤ v.toInt ∧ v.toInt ≤ 5) (kt : undr v b → Q (some (.int 1)) h) (kf : ¬ undr v b → Q (some (.int 0)) h) : SM mn_K_isUnder [.int v, .int b] h Q := by
  obtain ⟨a, ha, rfl⟩ := nI_of (x := v) (by rw [zlt, show (0 : Int32).toInt = 0 by decide]; omega)
  rw [nI_toInt ha] at hv
  exact c_isUnder hZ (by omega) kt kf
set_option maxRecDepth 100000 in
set_option maxHeartbeats 400000 in
theorem c_put0 {SM : zC} {SF : Nat → zQ → zP} (hZ : zZ SM SF) {Q : zQ} {H A K : zHl} {kp : Int32} {T : zTp} {S : Nat → zSh} {F : Nat → Int32} {m : zMs} {i : Nat} (hi : i < 8) {v lo hi' : Int32} (kt : lo ≤ v → v ≤ hi' → Q (some (.int (H.1 0 i))) (gh ((s2 H.1 0 i v, H.2), A, K, kp, T, S, F) m)) (kf : ¬ (lo ≤ v ∧ v ≤ hi') → Q (some (.int (-1000000001))) (gh (H, A, K, kp, T, S, upd F 0 (F 0 + 1)) m)) : SM mn_X_put [.ref 0, .ref 2, .int (nI i), .int v, .int lo, .int hi'] (gh (H, A, K, kp, T, S, F) m) Q := by
  refine zin hZ 999 60 rfl rfl rfl ?_
  refine c_isOutside hZ (fun h1 => ⟨nt, fun _ => ?_⟩) (fun h1 h2 => ⟨fun _ => ?_, nf⟩)
  · exact c_tell hZ 0 (by decide) rfl (kf h1)
  · exact ⟨i, hi, rfl, i, hi, rfl, kt h1 h2⟩
set_option maxRecDepth 100000 in
set_option maxHeartbeats 400000 in
theorem c_put1 {SM : zC} {SF : Nat → zQ → zP} (hZ : zZ SM SF) {Q : zQ} {H A K : zHl} {kp : Int32} {T : zTp} {S : Nat → zSh} {F : Nat → Int32} {m : zMs} {i : Nat} (hi : i < 8) {v lo hi' : Int32} (kt : lo ≤ v → v ≤ hi' → Q (some (.int (H.1 1 i))) (gh ((s2 H.1 1 i v, H.2), A, K, kp, T, S, F) m)) (kf : ¬ (lo ≤ v ∧ v ≤ hi') → Q (some (.int (-1000000001))) (gh (H, A, K, kp, T, S, upd F 0 (F 0 + 1)) m)) : SM mn_X_put [.ref 0, .ref 3, .int (nI i), .int v, .int lo, .int hi'] (gh (H, A, K, kp, T, S, F) m) Q := by
  refine zin hZ 999 60 rfl rfl rfl ?_
  refine c_isOutside hZ (fun h1 => ⟨nt, fun _ => ?_⟩) (fun h1 h2 => ⟨fun _ => ?_, nf⟩)
  · exact c_tell hZ 0 (by decide) rfl (kf h1)
  · exact ⟨i, hi, rfl, i, hi, rfl, kt h1 h2⟩
set_option maxRecDepth 100000 in
set_option maxHeartbeats 400000 in
theorem c_put2 {SM : zC} {SF : Nat → zQ → zP} (hZ : zZ SM SF) {Q : zQ} {H A K : zHl} {kp : Int32} {T : zTp} {S : Nat → zSh} {F : Nat → Int32} {m : zMs} {i : Nat} (hi : i < 8) {v lo hi' : Int32} (kt : lo ≤ v → v ≤ hi' → Q (some (.int (H.1 2 i))) (gh ((s2 H.1 2 i v, H.2), A, K, kp, T, S, F) m)) (kf : ¬ (lo ≤ v ∧ v ≤ hi') → Q (some (.int (-1000000001))) (gh (H, A, K, kp, T, S, upd F 0 (F 0 + 1)) m)) : SM mn_X_put [.ref 0, .ref 4, .int (nI i), .int v, .int lo, .int hi'] (gh (H, A, K, kp, T, S, F) m) Q := by
  refine zin hZ 999 60 rfl rfl rfl ?_
  refine c_isOutside hZ (fun h1 => ⟨nt, fun _ => ?_⟩) (fun h1 h2 => ⟨fun _ => ?_, nf⟩)
  · exact c_tell hZ 0 (by decide) rfl (kf h1)
  · exact ⟨i, hi, rfl, i, hi, rfl, kt h1 h2⟩
set_option maxRecDepth 100000 in
set_option maxHeartbeats 400000 in
theorem c_put3 {SM : zC} {SF : Nat → zQ → zP} (hZ : zZ SM SF) {Q : zQ} {H A K : zHl} {kp : Int32} {T : zTp} {S : Nat → zSh} {F : Nat → Int32} {m : zMs} {i : Nat} (hi : i < 8) {v lo hi' : Int32} (kt : lo ≤ v → v ≤ hi' → Q (some (.int (H.1 3 i))) (gh ((s2 H.1 3 i v, H.2), A, K, kp, T, S, F) m)) (kf : ¬ (lo ≤ v ∧ v ≤ hi') → Q (some (.int (-1000000001))) (gh (H, A, K, kp, T, S, upd F 0 (F 0 + 1)) m)) : SM mn_X_put [.ref 0, .ref 5, .int (nI i), .int v, .int lo, .int hi'] (gh (H, A, K, kp, T, S, F) m) Q := by
  refine zin hZ 999 60 rfl rfl rfl ?_
  refine c_isOutside hZ (fun h1 => ⟨nt, fun _ => ?_⟩) (fun h1 h2 => ⟨fun _ => ?_, nf⟩)
  · exact c_tell hZ 0 (by decide) rfl (kf h1)
  · exact ⟨i, hi, rfl, i, hi, rfl, kt h1 h2⟩
set_option maxRecDepth 100000 in
set_option maxHeartbeats 400000 in
theorem c_put4 {SM : zC} {SF : Nat → zQ → zP} (hZ : zZ SM SF) {Q : zQ} {H A K : zHl} {kp : Int32} {T : zTp} {S : Nat → zSh} {F : Nat → Int32} {m : zMs} {i : Nat} (hi : i < 8) {v lo hi' : Int32} (kt : lo ≤ v → v ≤ hi' → Q (some (.int (H.1 4 i))) (gh ((s2 H.1 4 i v, H.2), A, K, kp, T, S, F) m)) (kf : ¬ (lo ≤ v ∧ v ≤ hi') → Q (some (.int (-1000000001))) (gh (H, A, K, kp, T, S, upd F 0 (F 0 + 1)) m)) : SM mn_X_put [.ref 0, .ref 6, .int (nI i), .int v, .int lo, .int hi'] (gh (H, A, K, kp, T, S, F) m) Q := by
  refine zin hZ 999 60 rfl rfl rfl ?_
  refine c_isOutside hZ (fun h1 => ⟨nt, fun _ => ?_⟩) (fun h1 h2 => ⟨fun _ => ?_, nf⟩)
  · exact c_tell hZ 0 (by decide) rfl (kf h1)
  · exact ⟨i, hi, rfl, i, hi, rfl, kt h1 h2⟩
set_option maxRecDepth 100000 in
set_option maxHeartbeats 400000 in
theorem c_put5 {SM : zC} {SF : Nat → zQ → zP} (hZ : zZ SM SF) {Q : zQ} {H A K : zHl} {kp : Int32} {T : zTp} {S : Nat → zSh} {F : Nat → Int32} {m : zMs} {i : Nat} (hi : i < 8) {v lo hi' : Int32} (kt : lo ≤ v → v ≤ hi' → Q (some (.int (H.1 5 i))) (gh ((s2 H.1 5 i v, H.2), A, K, kp, T, S, F) m)) (kf : ¬ (lo ≤ v ∧ v ≤ hi') → Q (some (.int (-1000000001))) (gh (H, A, K, kp, T, S, upd F 0 (F 0 + 1)) m)) : SM mn_X_put [.ref 0, .ref 7, .int (nI i), .int v, .int lo, .int hi'] (gh (H, A, K, kp, T, S, F) m) Q := by
  refine zin hZ 999 60 rfl rfl rfl ?_
  refine c_isOutside hZ (fun h1 => ⟨nt, fun _ => ?_⟩) (fun h1 h2 => ⟨fun _ => ?_, nf⟩)
  · exact c_tell hZ 0 (by decide) rfl (kf h1)
  · exact ⟨i, hi, rfl, i, hi, rfl, kt h1 h2⟩
set_option maxRecDepth 100000 in
set_option maxHeartbeats 400000 in
theorem c_put6 {SM : zC} {SF : Nat → zQ → zP} (hZ : zZ SM SF) {Q : zQ} {H A K : zHl} {kp : Int32} {T : zTp} {S : Nat → zSh} {F : Nat → Int32} {m : zMs} {i : Nat} (hi : i < 8) {v lo hi' : Int32} (kt : lo ≤ v → v ≤ hi' → Q (some (.int (H.1 6 i))) (gh ((s2 H.1 6 i v, H.2), A, K, kp, T, S, F) m)) (kf : ¬ (lo ≤ v ∧ v ≤ hi') → Q (some (.int (-1000000001))) (gh (H, A, K, kp, T, S, upd F 0 (F 0 + 1)) m)) : SM mn_X_put [.ref 0, .ref 8, .int (nI i), .int v, .int lo, .int hi'] (gh (H, A, K, kp, T, S, F) m) Q := by
  refine zin hZ 999 60 rfl rfl rfl ?_
  refine c_isOutside hZ (fun h1 => ⟨nt, fun _ => ?_⟩) (fun h1 h2 => ⟨fun _ => ?_, nf⟩)
  · exact c_tell hZ 0 (by decide) rfl (kf h1)
  · exact ⟨i, hi, rfl, i, hi, rfl, kt h1 h2⟩
set_option maxRecDepth 100000 in
set_option maxHeartbeats 400000 in
theorem c_put7 {SM : zC} {SF : Nat → zQ → zP} (hZ : zZ SM SF) {Q : zQ} {H A K : zHl} {kp : Int32} {T : zTp} {S : Nat → zSh} {F : Nat → Int32} {m : zMs} {i : Nat} (hi : i < 8) {v lo hi' : Int32} (kt : lo ≤ v → v ≤ hi' → Q (some (.int (H.1 7 i))) (gh ((s2 H.1 7 i v, H.2), A, K, kp, T, S, F) m)) (kf : ¬ (lo ≤ v ∧ v ≤ hi') → Q (some (.int (-1000000001))) (gh (H, A, K, kp, T, S, upd F 0 (F 0 + 1)) m)) : SM mn_X_put [.ref 0, .ref 9, .int (nI i), .int v, .int lo, .int hi'] (gh (H, A, K, kp, T, S, F) m) Q := by
  refine zin hZ 999 60 rfl rfl rfl ?_
  refine c_isOutside hZ (fun h1 => ⟨nt, fun _ => ?_⟩) (fun h1 h2 => ⟨fun _ => ?_, nf⟩)
  · exact c_tell hZ 0 (by decide) rfl (kf h1)
  · exact ⟨i, hi, rfl, i, hi, rfl, kt h1 h2⟩
set_option maxRecDepth 100000 in
set_option maxHeartbeats 400000 in
theorem c_fire {SM : zC} {SF : Nat → zQ → zP} (hZ : zZ SM SF) {Q : zQ} {H A K : zHl} {kp : Int32} {T : zTp} {S : Nat → zSh} {F : Nat → Int32} {m : zMs} {v : Int32} (k : Q (some (.int (sp_fire H.1 F v).1)) (gh (((sp_fire H.1 F v).2.1, H.2), A, K, kp, T, S, (sp_fire H.1 F v).2.2) m)) : SM mn_X_fire [.ref 0, .int v] (gh (H, A, K, kp, T, S, F) m) Q := by
  unfold sp_fire at k
  refine zin hZ 999 60 rfl rfl rfl ?_
  refine c_isOutside hZ (fun h1 => ⟨nt, fun _ => ?_⟩) (fun h1 h2 => ⟨fun _ => ?_, nf⟩)
  · rw [if_neg h1] at k
    exact c_tell hZ 0 (by decide) rfl k
  · rw [if_pos ⟨h1, h2⟩] at k
    exact k
set_option maxRecDepth 100000 in
set_option maxHeartbeats 400000 in
theorem c_now {SM : zC} {SF : Nat → zQ → zP} (hZ : zZ SM SF) {Q : zQ} {H A K : zHl} {kp : Int32} {T : zTp} {S : Nat → zSh} {F : Nat → Int32} {m : zMs} {D : Nat} (hw : wf D H.1) (hD : D ≤ 20000) {v : Int32} (k : Q (some (.int (sp_now H.1 F v).1)) (gh (((sp_now H.1 F v).2.1, H.2), A, K, kp, T, S, (sp_now H.1 F v).2.2) m)) : SM mn_X_now [.ref 0, .int v] (gh (H, A, K, kp, T, S, F) m) Q := by
  unfold sp_now at k
  refine zin hZ 999 60 rfl rfl rfl ?_
  refine ⟨fun h0 => ?_, fun h0 => ⟨fun h1 => ?_, fun h1 => ⟨fun h2 => ?_, fun h2 => ⟨fun h3 => ?_, fun h3 => ⟨fun h4 => ?_, fun h4 => ⟨fun h5 => ?_, fun h5 => ?_⟩⟩⟩⟩⟩⟩
  · rw [if_pos (show v = 0 from h0)] at k
    exact k
  · rw [if_neg (show ¬ v = 0 from h0), if_pos (show v = 1 from h1)] at k
    exact k
  · rw [if_neg (show ¬ v = 0 from h0), if_neg (show ¬ v = 1 from h1), if_pos (show v = 2 from h2)] at k
    exact c_firstCouple1 hZ hw hD k
  · rw [if_neg (show ¬ v = 0 from h0), if_neg (show ¬ v = 1 from h1), if_neg (show ¬ v = 2 from h2), if_pos (show v = 3 from h3)] at k
    exact c_satOnes1 hZ hw hw.2.2.2.1.1 hw.2.2.2.1.2 k
  · rw [if_neg (show ¬ v = 0 from h0), if_neg (show ¬ v = 1 from h1), if_neg (show ¬ v = 2 from h2), if_neg (show ¬ v = 3 from h3), if_pos (show v = 4 from h4)] at k
    exact c_wellOfAll1 hZ hw.2.2.2.2.1 hw.2.2.2.2.2 k
  · rw [if_neg (show ¬ v = 0 from h0), if_neg (show ¬ v = 1 from h1), if_neg (show ¬ v = 2 from h2), if_neg (show ¬ v = 3 from h3), if_neg (show ¬ v = 4 from h4), if_pos (show v = 5 from h5)] at k
    exact c_warmOfAll1 hZ hw.2.2.2.1.1 hw.2.2.2.1.2 k
  · rw [if_neg (show ¬ v = 0 from h0), if_neg (show ¬ v = 1 from h1), if_neg (show ¬ v = 2 from h2), if_neg (show ¬ v = 3 from h3), if_neg (show ¬ v = 4 from h4), if_neg (show ¬ v = 5 from h5)] at k
    exact c_tell hZ 0 (by decide) rfl k
set_option maxRecDepth 100000 in
set_option maxHeartbeats 400000 in
theorem c_inlaw {SM : zC} {SF : Nat → zQ → zP} (hZ : zZ SM SF) {Q : zQ} {H A K : zHl} {kp : Int32} {T : zTp} {S : Nat → zSh} {F : Nat → Int32} {m : zMs} {D : Nat} (hw : wf D H.1) {v : Int32} (k : Q (some (.int (sp_inlaw H.1 F v).1)) (gh (((sp_inlaw H.1 F v).2.1, H.2), A, K, kp, T, S, (sp_inlaw H.1 F v).2.2) m)) : SM mn_X_inlaw [.ref 0, .int v] (gh (H, A, K, kp, T, S, F) m) Q := by
  have hn := hw.2.2.2.1.1
  have h8 := hw.2.2.2.1.2
  unfold sp_inlaw at k
  refine zin hZ 999 60 rfl rfl rfl ?_
  refine c_isNoKind hZ (fun h1 => ⟨nt, fun _ => ?_⟩) (fun h1 h2 => ⟨fun _ => ⟨fun h3 => ?_, fun h3 => ?_⟩, nf⟩)
  · rw [if_neg h1] at k
    exact c_tell hZ 0 (by decide) rfl k
  · have h3 := (ilt hn (show (8 : Int32) = nI 8 from rfl) (by omega) (by omega)).mp h3
    rw [if_pos ⟨h1, h2⟩, if_neg (by omega)] at k
    exact c_addInlaw1 hZ hn h3 k
  · have h3 : ¬ nn H.1 < 8 := fun z => h3 ((ilt hn (show (8 : Int32) = nI 8 from rfl) (by omega) (by omega)).mpr z)
    rw [if_pos ⟨h1, h2⟩, if_pos (by omega)] at k
    exact c_tell hZ 1 (by decide) rfl k
set_option maxRecDepth 100000 in
set_option maxHeartbeats 400000 in
theorem c_couple {SM : zC} {SF : Nat → zQ → zP} (hZ : zZ SM SF) {Q : zQ} {H A K : zHl} {kp : Int32} {T : zTp} {S : Nat → zSh} {F : Nat → Int32} {m : zMs} {D : Nat} (hw : wf D H.1) {v : Int32} (k : Q (some (.int (sp_couple H.1 F v).1)) (gh (((sp_couple H.1 F v).2.1, H.2), A, K, kp, T, S, (sp_couple H.1 F v).2.2) m)) : SM mn_X_couple [.ref 0, .int v] (gh (H, A, K, kp, T, S, F) m) Q := by
  have hn := hw.2.2.2.2.1
  have h8 := hw.2.2.2.2.2
  unfold sp_couple at k
  refine zin hZ 999 60 rfl rfl rfl ?_
  refine c_isOutside hZ (fun h1 => ⟨nt, fun _ => ?_⟩) (fun h1 h2 => ⟨fun _ => ⟨fun h3 => ?_, fun h3 => ?_⟩, nf⟩)
  · rw [if_neg h1] at k
    exact c_tell hZ 0 (by decide) rfl k
  · have h3 := (ilt hn (show (8 : Int32) = nI 8 from rfl) (by omega) (by omega)).mp h3
    rw [if_pos ⟨h1, h2⟩, if_neg (by omega)] at k
    exact c_addCouple1 hZ hn h3 k
  · have h3 : ¬ nc H.1 < 8 := fun z => h3 ((ilt hn (show (8 : Int32) = nI 8 from rfl) (by omega) (by omega)).mpr z)
    rw [if_pos ⟨h1, h2⟩, if_pos (by omega)] at k
    exact c_tell hZ 1 (by decide) rfl k
set_option maxRecDepth 100000 in
set_option maxHeartbeats 400000 in
theorem c_of {SM : zC} {SF : Nat → zQ → zP} (hZ : zZ SM SF) {Q : zQ} {H A K : zHl} {kp : Int32} {T : zTp} {S : Nat → zSh} {F : Nat → Int32} {m : zMs} {D : Nat} (hw : wf D H.1) {i w : Int32} (k : Q (some (.int (sp_of H.1 F i w).1)) (gh (((sp_of H.1 F i w).2.1, H.2), A, K, kp, T, S, (sp_of H.1 F i w).2.2) m)) : SM mn_X_of [.ref 0, .int i, .int w] (gh (H, A, K, kp, T, S, F) m) Q := by
  have h8 := hw.2.2.2.1.2
  unfold sp_of at k
  refine zin hZ 999 60 rfl rfl rfl ?_
  refine c_isNoInlaw hZ hw.2.2.2.1.1 h8 (fun h1 => ⟨nt, fun _ => ?_⟩) (fun h1 => ⟨fun _ => ?_, nf⟩)
  · rw [if_neg (fun z => h1 ((inI_iff hw i).mp z.1))] at k
    exact c_tell hZ 0 (by decide) rfl k
  · have hI := (inI_iff hw i).mpr h1
    obtain ⟨j, hj, rfl⟩ := h1
    have hj8 : j < 8 := by omega
    rw [ix_nI (show j < 1000 by omega)] at k
    refine ⟨fun h0 => ?_, fun h0 => ⟨fun h1 => ?_, fun h1 => ⟨fun h2 => ?_, fun h2 => ⟨fun h3 => ?_, fun h3 => ⟨fun h4 => ?_, fun h4 => ⟨fun h5 => ?_, fun h5 => ?_⟩⟩⟩⟩⟩⟩
    · rw [show w = 0 from h0, if_pos ⟨hI, by decide⟩, if_neg (by decide), show ix (0 : Int32) = 0 by decide] at k
      exact ⟨j, hj8, rfl, k⟩
    · rw [show w = 1 from h1, if_pos ⟨hI, by decide⟩, if_neg (by decide), show ix (1 : Int32) = 1 by decide] at k
      exact ⟨j, hj8, rfl, k⟩
    · rw [show w = 2 from h2, if_pos ⟨hI, by decide⟩, if_neg (by decide), show ix (2 : Int32) = 2 by decide] at k
      exact ⟨j, hj8, rfl, k⟩
    · rw [show w = 3 from h3, if_pos ⟨hI, by decide⟩, if_neg (by decide), show ix (3 : Int32) = 3 by decide] at k
      exact ⟨j, hj8, rfl, k⟩
    · rw [show w = 4 from h4, if_pos ⟨hI, by decide⟩, if_neg (by decide), show ix (4 : Int32) = 4 by decide] at k
      exact ⟨j, hj8, rfl, k⟩
    · rw [show w = 5 from h5, if_pos ⟨hI, by decide⟩, if_pos rfl] at k
      exact c_chillsOf1 hZ hj8 (fire_nI hw) k
    · rw [if_neg (fun z => ?_)] at k
      · exact c_tell hZ 0 (by decide) rfl k
      · obtain ⟨v, hv1, hv2, rfl, hv3⟩ := rng_get (w := w) (a := 0) (b := 5) (by omega) z.2.1 z.2.2 (by omega)
        match v, hv2 with
        | 0, _ => exact h0 rfl
        | 1, _ => exact h1 rfl
        | 2, _ => exact h2 rfl
        | 3, _ => exact h3 rfl
        | 4, _ => exact h4 rfl
        | 5, _ => exact h5 rfl
set_option maxRecDepth 100000 in
set_option maxHeartbeats 400000 in
theorem c_with {SM : zC} {SF : Nat → zQ → zP} (hZ : zZ SM SF) {Q : zQ} {H A K : zHl} {kp : Int32} {T : zTp} {S : Nat → zSh} {F : Nat → Int32} {m : zMs} {D : Nat} (hw : wf D H.1) {i c w : Int32} (k : Q (some (.int (sp_with H.1 F i c w).1)) (gh (((sp_with H.1 F i c w).2.1, H.2), A, K, kp, T, S, (sp_with H.1 F i c w).2.2) m)) : SM mn_X_with [.ref 0, .int i, .int c, .int w] (gh (H, A, K, kp, T, S, F) m) Q := by
  have h8 := hw.2.2.2.1.2
  have c8 := hw.2.2.2.2.2
  unfold sp_with at k
  refine zin hZ 999 60 rfl rfl rfl ?_
  refine c_isNoInlaw hZ hw.2.2.2.1.1 h8 (fun h1 => ⟨fun _ => ?_, nt⟩) (fun h1 => ⟨nf, fun _ => ?_⟩)
  · rw [if_neg (fun z => h1 ((inI_iff hw i).mp z.1))] at k
    exact c_tell hZ 0 (by decide) rfl k
  · refine c_isNoCouple hZ hw.2.2.2.2.1 c8 (fun h2 => ⟨nt, fun _ => ?_⟩) (fun h2 => ⟨fun _ => ?_, nf⟩)
    · rw [if_neg (fun z => h2 ((inC_iff hw c).mp z.2.1))] at k
      exact c_tell hZ 0 (by decide) rfl k
    · have hI := (inI_iff hw i).mpr h1
      have hC := (inC_iff hw c).mpr h2
      obtain ⟨j, hj, rfl⟩ := h1
      obtain ⟨l, hl, rfl⟩ := h2
      have hj8 : j < 8 := by omega
      have hl8 : l < 8 := by omega
      rw [ix_nI (show j < 1000 by omega), ix_nI (show l < 1000 by omega)] at k
      refine ⟨fun h0 => ?_, fun h0 => ⟨fun h1 => ?_, fun h1 => ⟨fun h2 => ?_, fun h2 => ?_⟩⟩⟩
      · rw [show w = 0 from h0, if_pos ⟨hI, hC, by decide⟩, if_pos rfl] at k
        exact c_charmsOf1 hZ hj8 hl8 k
      · rw [show w = 1 from h1, if_pos ⟨hI, hC, by decide⟩, if_neg (by decide), if_pos rfl] at k
        exact c_doesOf1 hZ hj8 hl8 k
      · rw [show w = 2 from h2, if_pos ⟨hI, hC, by decide⟩, if_neg (by decide), if_neg (by decide)] at k
        exact c_thawsOf1 hZ hj8 hl8 k
      · rw [if_neg (fun z => ?_)] at k
        · exact c_tell hZ 0 (by decide) rfl k
        · obtain ⟨v, hv1, hv2, rfl, hv3⟩ := rng_get (w := w) (a := 0) (b := 2) (by omega) z.2.2.1 z.2.2.2 (by omega)
          match v, hv2 with
          | 0, _ => exact h0 rfl
          | 1, _ => exact h1 rfl
          | 2, _ => exact h2 rfl
set_option maxRecDepth 100000 in
set_option maxHeartbeats 400000 in
theorem c_set {SM : zC} {SF : Nat → zQ → zP} (hZ : zZ SM SF) {Q : zQ} {H A K : zHl} {kp : Int32} {T : zTp} {S : Nat → zSh} {F : Nat → Int32} {m : zMs} {D : Nat} (hw : wf D H.1) {i w v : Int32} (k : Q (some (.int (sp_set H.1 F i w v).1)) (gh (((sp_set H.1 F i w v).2.1, H.2), A, K, kp, T, S, (sp_set H.1 F i w v).2.2) m)) : SM mn_X_set [.ref 0, .int i, .int w, .int v] (gh (H, A, K, kp, T, S, F) m) Q := by
  have h8 := hw.2.2.2.1.2
  unfold sp_set at k
  refine zin hZ 999 60 rfl rfl rfl ?_
  refine c_isNoInlaw hZ hw.2.2.2.1.1 h8 (fun h1 => ⟨nt, fun _ => ?_⟩) (fun h1 => ⟨fun _ => ?_, nf⟩)
  · rw [if_neg (fun z => h1 ((inI_iff hw i).mp z.1))] at k
    exact c_tell hZ 0 (by decide) rfl k
  · have hI := (inI_iff hw i).mpr h1
    obtain ⟨j, hj, rfl⟩ := h1
    have hj8 : j < 8 := by omega
    rw [ix_nI (show j < 1000 by omega)] at k
    refine ⟨fun h1 => ?_, fun h1 => ⟨fun h2 => ?_, fun h2 => ⟨fun h3 => ?_, fun h3 => ⟨fun h4 => ?_, fun h4 => ?_⟩⟩⟩⟩
    · rw [show w = 1 from h1, show ix (1 : Int32) = 1 by decide, show (if (1 : Int32) = 1 then (99 : Int32) else if (1 : Int32) = 2 then 1 else 9999) = 99 by decide] at k
      refine c_put1 hZ hj8 (fun a1 a2 => ?_) (fun a => ?_)
      · rw [if_pos ⟨hI, by decide, a1, a2⟩] at k; exact k
      · rw [if_neg (fun z => a z.2.2)] at k; exact k
    · rw [show w = 2 from h2, show ix (2 : Int32) = 2 by decide, show (if (2 : Int32) = 1 then (99 : Int32) else if (2 : Int32) = 2 then 1 else 9999) = 1 by decide] at k
      refine c_put2 hZ hj8 (fun a1 a2 => ?_) (fun a => ?_)
      · rw [if_pos ⟨hI, by decide, a1, a2⟩] at k; exact k
      · rw [if_neg (fun z => a z.2.2)] at k; exact k
    · rw [show w = 3 from h3, show ix (3 : Int32) = 3 by decide, show (if (3 : Int32) = 1 then (99 : Int32) else if (3 : Int32) = 2 then 1 else 9999) = 9999 by decide] at k
      refine c_put3 hZ hj8 (fun a1 a2 => ?_) (fun a => ?_)
      · rw [if_pos ⟨hI, by decide, a1, a2⟩] at k; exact k
      · rw [if_neg (fun z => a z.2.2)] at k; exact k
    · rw [show w = 4 from h4, show ix (4 : Int32) = 4 by decide, show (if (4 : Int32) = 1 then (99 : Int32) else if (4 : Int32) = 2 then 1 else 9999) = 9999 by decide] at k
      refine c_put4 hZ hj8 (fun a1 a2 => ?_) (fun a => ?_)
      · rw [if_pos ⟨hI, by decide, a1, a2⟩] at k; exact k
      · rw [if_neg (fun z => a z.2.2)] at k; exact k
    · rw [if_neg (fun z => ?_)] at k
      · exact c_tell hZ 0 (by decide) rfl k
      · obtain ⟨v, hv1, hv2, rfl, hv3⟩ := rng_get (w := w) (a := 1) (b := 4) (by omega) z.2.1.1 z.2.1.2 (by omega)
        match v, hv1, hv2 with
        | 1, _, _ => exact h1 rfl
        | 2, _, _ => exact h2 rfl
        | 3, _, _ => exact h3 rfl
        | 4, _, _ => exact h4 rfl
set_option maxRecDepth 100000 in
set_option maxHeartbeats 400000 in
theorem c_turn {SM : zC} {SF : Nat → zQ → zP} (hZ : zZ SM SF) {Q : zQ} {H A K : zHl} {kp : Int32} {T : zTp} {S : Nat → zSh} {F : Nat → Int32} {m : zMs} {D : Nat} (hw : wf D H.1) {i w : Int32} (k : Q (some (.int (sp_turn H.1 F i w).1)) (gh (((sp_turn H.1 F i w).2.1, H.2), A, K, kp, T, S, (sp_turn H.1 F i w).2.2) m)) : SM mn_X_turn [.ref 0, .int i, .int w] (gh (H, A, K, kp, T, S, F) m) Q := by
  have h8 := hw.2.2.2.1.2
  unfold sp_turn at k
  refine zin hZ 999 60 rfl rfl rfl ?_
  refine c_isNoInlaw hZ hw.2.2.2.1.1 h8 (fun h1 => ⟨nt, fun _ => ?_⟩) (fun h1 => ⟨fun _ => ?_, nf⟩)
  · rw [if_neg (fun z => h1 ((inI_iff hw i).mp z.1))] at k
    exact c_tell hZ 0 (by decide) rfl k
  · have hI := (inI_iff hw i).mpr h1
    obtain ⟨j, hj, rfl⟩ := h1
    have hj8 : j < 8 := by omega
    rw [ix_nI (show j < 1000 by omega)] at k
    refine c_put0 hZ hj8 (fun a1 a2 => ?_) (fun a => ?_)
    · rw [if_pos ⟨hI, a1, a2⟩] at k; exact k
    · rw [if_neg (fun z => a z.2)] at k; exact k
set_option maxRecDepth 100000 in
set_option maxHeartbeats 400000 in
theorem c_as {SM : zC} {SF : Nat → zQ → zP} (hZ : zZ SM SF) {Q : zQ} {H A K : zHl} {kp : Int32} {T : zTp} {S : Nat → zSh} {F : Nat → Int32} {m : zMs} {D : Nat} (hw : wf D H.1) {i w : Int32} (k : Q (some (.int (sp_as H.1 F i w).1)) (gh (((sp_as H.1 F i w).2.1, H.2), A, K, kp, T, S, (sp_as H.1 F i w).2.2) m)) : SM mn_X_as [.ref 0, .int i, .int w] (gh (H, A, K, kp, T, S, F) m) Q := by
  have h8 := hw.2.2.2.1.2
  unfold sp_as at k
  refine zin hZ 999 60 rfl rfl rfl ?_
  refine c_isNoInlaw hZ hw.2.2.2.1.1 h8 (fun h1 => ⟨fun _ => ?_, nt⟩) (fun h1 => ⟨nf, fun _ => ?_⟩)
  · rw [if_neg (fun z => h1 ((inI_iff hw i).mp z.1))] at k
    exact c_tell hZ 0 (by decide) rfl k
  · refine c_isNoKind hZ (fun h2 => ⟨nt, fun _ => ?_⟩) (fun h2 h3 => ⟨fun _ => ?_, nf⟩)
    · rw [if_neg (fun z => h2 z.2)] at k
      exact c_tell hZ 0 (by decide) rfl k
    · have hI := (inI_iff hw i).mpr h1
      obtain ⟨j, hj, rfl⟩ := h1
      have hj8 : j < 8 := by omega
      rw [if_pos ⟨hI, h2, h3⟩, ix_nI (show j < 1000 by omega)] at k
      refine ⟨j, hj8, rfl, ?_⟩
      refine c_isUnderV hZ (hw.1 j hj8).1 (fun h4 => ⟨fun _ => ⟨j, hj8, rfl, ?_⟩, nt⟩) (fun h4 => ⟨nf, fun _ => ?_⟩)
      · rw [if_pos h4] at k; exact k
      · rw [if_neg h4] at k
        exact c_tell hZ 2 (by decide) rfl k
set_option maxRecDepth 100000 in
set_option maxHeartbeats 400000 in
theorem c_give {SM : zC} {SF : Nat → zQ → zP} (hZ : zZ SM SF) {Q : zQ} {H A K : zHl} {kp : Int32} {T : zTp} {S : Nat → zSh} {F : Nat → Int32} {m : zMs} {D : Nat} (hw : wf D H.1) {i w v : Int32} (k : Q (some (.int (sp_give H.1 F i w v).1)) (gh (((sp_give H.1 F i w v).2.1, H.2), A, K, kp, T, S, (sp_give H.1 F i w v).2.2) m)) : SM mn_X_give [.ref 0, .int i, .int w, .int v] (gh (H, A, K, kp, T, S, F) m) Q := by
  have h8 := hw.2.2.2.2.2
  unfold sp_give at k
  refine zin hZ 999 60 rfl rfl rfl ?_
  refine c_isNoCouple hZ hw.2.2.2.2.1 h8 (fun h1 => ⟨nt, fun _ => ?_⟩) (fun h1 => ⟨fun _ => ?_, nf⟩)
  · rw [if_neg (fun z => h1 ((inC_iff hw i).mp z.1))] at k
    exact c_tell hZ 0 (by decide) rfl k
  · have hI := (inC_iff hw i).mpr h1
    obtain ⟨j, hj, rfl⟩ := h1
    have hj8 : j < 8 := by omega
    rw [ix_nI (show j < 1000 by omega)] at k
    have n01 : ¬ (0 : Int32) = 1 := by decide
    have n02 : ¬ (0 : Int32) = 2 := by decide
    have n10 : ¬ (1 : Int32) = 0 := by decide
    have n12 : ¬ (1 : Int32) = 2 := by decide
    have n20 : ¬ (2 : Int32) = 0 := by decide
    have n21 : ¬ (2 : Int32) = 1 := by decide
    refine ⟨fun h0 => ?_, fun h0 => ⟨fun h1 => ?_, fun h1 => ⟨fun h2 => ?_, fun h2 => ?_⟩⟩⟩
    · rw [show w = 0 from h0, show ix (0 : Int32) = 0 by decide] at k
      refine c_put5 hZ hj8 (fun a1 a2 => ?_) (fun a => ?_)
      · rw [if_pos ⟨hI, Or.inl ⟨rfl, a1, a2⟩⟩] at k; exact k
      · rw [if_neg (fun z => z.2.elim (fun y => a y.2) (fun y => y.elim (fun y => n01 y.1) (fun y => n02 y.1)))] at k; exact k
    · rw [show w = 1 from h1, show ix (1 : Int32) = 1 by decide] at k
      refine c_put6 hZ hj8 (fun a1 a2 => ?_) (fun a => ?_)
      · rw [if_pos ⟨hI, Or.inr (Or.inl ⟨rfl, a1, a2⟩)⟩] at k; exact k
      · rw [if_neg (fun z => z.2.elim (fun y => n10 y.1) (fun y => y.elim (fun y => a y.2) (fun y => n12 y.1)))] at k; exact k
    · rw [show w = 2 from h2, show ix (2 : Int32) = 2 by decide] at k
      refine c_put7 hZ hj8 (fun a1 a2 => ?_) (fun a => ?_)
      · rw [if_pos ⟨hI, Or.inr (Or.inr ⟨rfl, a1, a2⟩)⟩] at k; exact k
      · rw [if_neg (fun z => z.2.elim (fun y => n20 y.1) (fun y => y.elim (fun y => n21 y.1) (fun y => a y.2)))] at k; exact k
    · rw [if_neg (fun z => z.2.elim (fun y => h0 y.1) (fun y => y.elim (fun y => h1 y.1) (fun y => h2 y.1)))] at k
      exact c_tell hZ 0 (by decide) rfl k
