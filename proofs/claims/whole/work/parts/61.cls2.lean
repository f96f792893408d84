/-! THE CLASS, second part: a hall (once for the hall itself, once for ahead) -/
theorem sh0 (i : Nat) (hi : i < 32) : (0 : Int32) <<< (nI i &&& 31) = 0 := by
  refine b_ext (fun j hj => ?_)
  rw [b_shl i hi 0 hj, b_0, b_0, Bool.and_false]
theorem or0 (x : Int32) : x ||| 0 = x := by
  refine b_ext (fun j hj => ?_)
  rw [b_or, b_0, Bool.or_false]
set_option maxRecDepth 100000 in
set_option maxHeartbeats 400000 in
theorem c_isFree1 {SM : zC} {SF : Nat → zQ → zP} (hZ : zZ SM SF) {Q : zQ} {H : zHl} {y : zY1} {m : zMs} {i : Nat} (kt : fr H.2.2 i → Q (some (.int 1)) (gh (H, y) m)) (kf : ¬ fr H.2.2 i → Q (some (.int 0)) (gh (H, y) m)) : SM mn_H_isFree [.ref 1, .int (nI i)] (gh (H, y) m) Q := by
  refine zin hZ 999 50 rfl rfl rfl ?_
  exact ⟨fun h1 => ⟨Or.inl rfl, kf h1⟩, fun h1 => ⟨Or.inr rfl, kt h1⟩⟩
set_option maxRecDepth 100000 in
set_option maxHeartbeats 400000 in
theorem c_charmsOf1 {SM : zC} {SF : Nat → zQ → zP} (hZ : zZ SM SF) {Q : zQ} {H : zHl} {y : zY1} {m : zMs} {i c : Nat} (hi : i < 8) (hc : c < 8) (k : Q (some (.int (ch H.1 i c))) (gh (H, y) m)) : SM mn_H_charmsOf [.ref 1, .int (nI i), .int (nI c)] (gh (H, y) m) Q := by
  refine zin hZ 999 99 rfl rfl rfl ?_
  refine ⟨c, hc, rfl, fun h1 => ?_, fun h1 => ?_⟩
  · refine ⟨i, hi, rfl, i, hi, rfl, c, hc, rfl, ?_⟩
    exact c_Kcharms (σ := H.1) hZ (Or.inl ⟨rfl, h1⟩) k
  · refine ⟨i, hi, rfl, i, hi, rfl, c, hc, rfl, ?_⟩
    exact c_Kcharms (σ := H.1) hZ (Or.inr ⟨rfl, h1⟩) k
set_option maxRecDepth 100000 in
set_option maxHeartbeats 400000 in
theorem c_doesOf1 {SM : zC} {SF : Nat → zQ → zP} (hZ : zZ SM SF) {Q : zQ} {H : zHl} {y : zY1} {m : zMs} {i c : Nat} (hi : i < 8) (hc : c < 8) (k : Q (some (.int (dz H.1 i c))) (gh (H, y) m)) : SM mn_H_doesOf [.ref 1, .int (nI i), .int (nI c)] (gh (H, y) m) Q := by
  refine zin hZ 999 99 rfl rfl rfl ?_
  refine ⟨i, hi, rfl, i, hi, rfl, c, hc, rfl, ?_⟩
  exact c_Kdoes (σ := H.1) hZ k
set_option maxRecDepth 100000 in
set_option maxHeartbeats 400000 in
theorem c_thawsOf1 {SM : zC} {SF : Nat → zQ → zP} (hZ : zZ SM SF) {Q : zQ} {H : zHl} {y : zY1} {m : zMs} {i c : Nat} (hi : i < 8) (hc : c < 8) (k : Q (some (.int (th H.1 i c))) (gh (H, y) m)) : SM mn_H_thawsOf [.ref 1, .int (nI i), .int (nI c)] (gh (H, y) m) Q := by
  refine zin hZ 999 99 rfl rfl rfl ?_
  refine ⟨i, hi, rfl, c, hc, rfl, ?_⟩
  exact c_Kthaws (σ := H.1) hZ k
set_option maxRecDepth 100000 in
set_option maxHeartbeats 400000 in
theorem c_chillsOf1 {SM : zC} {SF : Nat → zQ → zP} (hZ : zZ SM SF) {Q : zQ} {H : zHl} {y : zY1} {m : zMs} {i : Nat} (hi : i < 8) (hf : ∃ v, v < 21 ∧ H.1 8 1 = nI v) (k : Q (some (.int (cl H.1 i))) (gh (H, y) m)) : SM mn_H_chillsOf [.ref 1, .int (nI i)] (gh (H, y) m) Q := by
  refine zin hZ 999 99 rfl rfl rfl ?_
  refine ⟨i, hi, rfl, ?_⟩
  exact c_Kchills (σ := H.1) hZ hf k
set_option maxRecDepth 100000 in
set_option maxHeartbeats 400000 in
theorem c_sum_warm1_l {SM : zC} {SF : Nat → zQ → zP} (hZ : zZ SM SF) {Q : zQ} {H : zHl} {y : zY1} {m : zMs} {N : Nat} (h8 : N ≤ 8) (k : Q (some (.int (zsum (H.1 1) N))) (gh (H, y) m)) : ∀ d i, i + d = N → SF mn_H_sum Q 4 [some (.ref 3), some (.int (nI N)), some (.int (zsum (H.1 1) i)), some (.int (nI i))] [] (0, 0) (gh (H, y) m) := by
  intro d
  induction d with
  | zero =>
    intro i hi
    refine zgo hZ 4 60 rfl ?_
    refine ⟨fun hc => ?_, fun hc => ?_⟩
    · rw [show i = N by omega]
      exact k
    · exact absurd ((ile rfl rfl (by omega) (by omega)).mpr (by omega)) hc
  | succ d ih =>
    intro i hi
    have h1 := ih (i + 1) (by omega)
    rw [← nI_1] at h1
    refine zgo hZ 4 60 rfl ?_
    refine ⟨fun hc => ?_, fun hc => ⟨fun hd => ?_, fun hd => ⟨i, by omega, rfl, ?_⟩⟩⟩
    · have := (ile rfl rfl (by omega) (by omega)).mp hc
      omega
    · have := (ile rfl rfl (by omega) (by omega)).mp hd
      omega
    · exact h1
theorem c_sum_warm1 {SM : zC} {SF : Nat → zQ → zP} (hZ : zZ SM SF) {Q : zQ} {H : zHl} {y : zY1} {m : zMs} {N : Nat} {v : Int32} (hv : v = nI N) (h8 : N ≤ 8) (k : Q (some (.int (zsum (H.1 1) N))) (gh (H, y) m)) : SM mn_H_sum [.ref 3, .int v] (gh (H, y) m) Q := by
  subst hv
  refine zin hZ 4 60 rfl rfl rfl ?_
  exact c_sum_warm1_l hZ h8 k N 0 (by omega)
set_option maxRecDepth 100000 in
set_option maxHeartbeats 400000 in
theorem c_warmOfAll1 {SM : zC} {SF : Nat → zQ → zP} (hZ : zZ SM SF) {Q : zQ} {H : zHl} {y : zY1} {m : zMs} {N : Nat} (hn : H.1 8 2 = nI N) (h8 : N ≤ 8) (k : Q (some (.int (zsum (H.1 1) N))) (gh (H, y) m)) : SM mn_H_warmOfAll [.ref 1] (gh (H, y) m) Q := by
  refine zin hZ 999 60 rfl rfl rfl ?_
  exact c_sum_warm1 hZ hn h8 k
set_option maxRecDepth 100000 in
set_option maxHeartbeats 400000 in
theorem c_sum_had1_l {SM : zC} {SF : Nat → zQ → zP} (hZ : zZ SM SF) {Q : zQ} {H : zHl} {y : zY1} {m : zMs} {N : Nat} (h8 : N ≤ 8) (k : Q (some (.int (zsum (H.1 4) N))) (gh (H, y) m)) : ∀ d i, i + d = N → SF mn_H_sum Q 4 [some (.ref 6), some (.int (nI N)), some (.int (zsum (H.1 4) i)), some (.int (nI i))] [] (0, 0) (gh (H, y) m) := by
  intro d
  induction d with
  | zero =>
    intro i hi
    refine zgo hZ 4 60 rfl ?_
    refine ⟨fun hc => ?_, fun hc => ?_⟩
    · rw [show i = N by omega]
      exact k
    · exact absurd ((ile rfl rfl (by omega) (by omega)).mpr (by omega)) hc
  | succ d ih =>
    intro i hi
    have h1 := ih (i + 1) (by omega)
    rw [← nI_1] at h1
    refine zgo hZ 4 60 rfl ?_
    refine ⟨fun hc => ?_, fun hc => ⟨fun hd => ?_, fun hd => ⟨i, by omega, rfl, ?_⟩⟩⟩
    · have := (ile rfl rfl (by omega) (by omega)).mp hc
      omega
    · have := (ile rfl rfl (by omega) (by omega)).mp hd
      omega
    · exact h1
theorem c_sum_had1 {SM : zC} {SF : Nat → zQ → zP} (hZ : zZ SM SF) {Q : zQ} {H : zHl} {y : zY1} {m : zMs} {N : Nat} {v : Int32} (hv : v = nI N) (h8 : N ≤ 8) (k : Q (some (.int (zsum (H.1 4) N))) (gh (H, y) m)) : SM mn_H_sum [.ref 6, .int v] (gh (H, y) m) Q := by
  subst hv
  refine zin hZ 4 60 rfl rfl rfl ?_
  exact c_sum_had1_l hZ h8 k N 0 (by omega)
set_option maxRecDepth 100000 in
set_option maxHeartbeats 400000 in
theorem c_hadOfAll1 {SM : zC} {SF : Nat → zQ → zP} (hZ : zZ SM SF) {Q : zQ} {H : zHl} {y : zY1} {m : zMs} {N : Nat} (hn : H.1 8 2 = nI N) (h8 : N ≤ 8) (k : Q (some (.int (zsum (H.1 4) N))) (gh (H, y) m)) : SM mn_H_hadOfAll [.ref 1] (gh (H, y) m) Q := by
  refine zin hZ 999 60 rfl rfl rfl ?_
  exact c_sum_had1 hZ hn h8 k
set_option maxRecDepth 100000 in
set_option maxHeartbeats 400000 in
theorem c_sum_well1_l {SM : zC} {SF : Nat → zQ → zP} (hZ : zZ SM SF) {Q : zQ} {H : zHl} {y : zY1} {m : zMs} {N : Nat} (h8 : N ≤ 8) (k : Q (some (.int (zsum (H.1 6) N))) (gh (H, y) m)) : ∀ d i, i + d = N → SF mn_H_sum Q 4 [some (.ref 8), some (.int (nI N)), some (.int (zsum (H.1 6) i)), some (.int (nI i))] [] (0, 0) (gh (H, y) m) := by
  intro d
  induction d with
  | zero =>
    intro i hi
    refine zgo hZ 4 60 rfl ?_
    refine ⟨fun hc => ?_, fun hc => ?_⟩
    · rw [show i = N by omega]
      exact k
    · exact absurd ((ile rfl rfl (by omega) (by omega)).mpr (by omega)) hc
  | succ d ih =>
    intro i hi
    have h1 := ih (i + 1) (by omega)
    rw [← nI_1] at h1
    refine zgo hZ 4 60 rfl ?_
    refine ⟨fun hc => ?_, fun hc => ⟨fun hd => ?_, fun hd => ⟨i, by omega, rfl, ?_⟩⟩⟩
    · have := (ile rfl rfl (by omega) (by omega)).mp hc
      omega
    · have := (ile rfl rfl (by omega) (by omega)).mp hd
      omega
    · exact h1
theorem c_sum_well1 {SM : zC} {SF : Nat → zQ → zP} (hZ : zZ SM SF) {Q : zQ} {H : zHl} {y : zY1} {m : zMs} {N : Nat} {v : Int32} (hv : v = nI N) (h8 : N ≤ 8) (k : Q (some (.int (zsum (H.1 6) N))) (gh (H, y) m)) : SM mn_H_sum [.ref 8, .int v] (gh (H, y) m) Q := by
  subst hv
  refine zin hZ 4 60 rfl rfl rfl ?_
  exact c_sum_well1_l hZ h8 k N 0 (by omega)
set_option maxRecDepth 100000 in
set_option maxHeartbeats 400000 in
theorem c_wellOfAll1 {SM : zC} {SF : Nat → zQ → zP} (hZ : zZ SM SF) {Q : zQ} {H : zHl} {y : zY1} {m : zMs} {N : Nat} (hn : H.1 8 3 = nI N) (h8 : N ≤ 8) (k : Q (some (.int (zsum (H.1 6) N))) (gh (H, y) m)) : SM mn_H_wellOfAll [.ref 1] (gh (H, y) m) Q := by
  refine zin hZ 999 60 rfl rfl rfl ?_
  exact c_sum_well1 hZ hn h8 k
set_option maxRecDepth 100000 in
set_option maxHeartbeats 400000 in
theorem c_satOnes1_l {SM : zC} {SF : Nat → zQ → zP} (hZ : zZ SM SF) {Q : zQ} {H : zHl} {y : zY1} {m : zMs} {D N : Nat} (hw : wf D H.1) (hn : H.1 8 2 = nI N) (h8 : N ≤ 8) (k : Q (some (.int (sset H.1 N))) (gh (H, y) m)) : ∀ d i, i + d = N → SF mn_H_satOnes Q 4 [some (.ref 1), some (.int (sset H.1 i)), some (.int (nI i))] [] (0, 0) (gh (H, y) m) := by
  intro d
  induction d with
  | zero =>
    intro i hi
    refine zgo hZ 4 60 rfl ?_
    refine ⟨fun hc => ?_, fun hc => ?_⟩
    · rw [show i = N by omega]
      exact k
    · exact absurd ((ile hn rfl (by omega) (by omega)).mpr (by omega)) hc
  | succ d ih =>
    intro i hi
    have h1 := ih (i + 1) (by omega)
    rw [← nI_1, show sset H.1 (i + 1) = sset H.1 i ||| (H.1 2 i <<< (nI i &&& 31)) from rfl] at h1
    refine zgo hZ 4 60 rfl ?_
    refine ⟨fun hc => ?_, fun hc => ⟨i, by omega, rfl, fun h2 => ?_, fun h2 => ?_⟩⟩
    · have := (ile hn rfl (by omega) (by omega)).mp hc
      omega
    · rw [show H.1 2 i = 0 from h2, sh0 i (by omega), or0] at h1
      exact h1
    · have h3 : H.1 2 i = 1 := by
        have h4 := (hw.1 i (by omega)).2.2.1
        have h5 : ¬ H.1 2 i = 0 := h2
        rw [zeq, show (0 : Int32).toInt = 0 by decide] at h5
        rw [zeq, show (1 : Int32).toInt = 1 by decide]
        omega
      rw [h3] at h1
      exact h1
theorem c_satOnes1 {SM : zC} {SF : Nat → zQ → zP} (hZ : zZ SM SF) {Q : zQ} {H : zHl} {y : zY1} {m : zMs} {D N : Nat} (hw : wf D H.1) (hn : H.1 8 2 = nI N) (h8 : N ≤ 8) (k : Q (some (.int (sset H.1 N))) (gh (H, y) m)) : SM mn_H_satOnes [.ref 1] (gh (H, y) m) Q := by
  refine zin hZ 4 60 rfl rfl rfl ?_
  exact c_satOnes1_l hZ hw hn h8 k N 0 (by omega)
set_option maxRecDepth 100000 in
set_option maxHeartbeats 400000 in
theorem c_firstCouple1 {SM : zC} {SF : Nat → zQ → zP} (hZ : zZ SM SF) {Q : zQ} {H : zHl} {y : zY1} {m : zMs} {D : Nat} (hw : wf D H.1) (hD : D ≤ 20000) (k : Q (some (.int (fc H.1))) (gh (H, y) m)) : SM mn_H_firstCouple [.ref 1] (gh (H, y) m) Q := by
  obtain ⟨-, ⟨d1, d2⟩, -, -, c1, c2⟩ := hw
  unfold fc at k
  refine zin hZ 999 60 rfl rfl rfl ?_
  refine ⟨fun h1 => ?_, fun h1 => ?_⟩
  · have h1 := (ile c1 (show (0 : Int32) = nI 0 from rfl) (by omega) (by omega)).mp h1
    rw [if_pos (by omega)] at k
    exact k
  · have h1 : ¬ nc H.1 ≤ 0 := fun z => h1 ((ile c1 (show (0 : Int32) = nI 0 from rfl) (by omega) (by omega)).mpr z)
    rw [if_neg (by omega)] at k
    have e : H.1 8 0 - H.1 8 0 / H.1 8 3 * H.1 8 3 = nI (nd H.1 % nc H.1) := by
      rw [c1, d1]
      exact pk_rem (by omega) (by omega) (by omega)
    rw [← e] at k
    exact ⟨by rw [c1]; exact nI_ne0 (by omega) (by omega), k⟩
set_option maxRecDepth 100000 in
set_option maxHeartbeats 400000 in
theorem c_addInlaw1 {SM : zC} {SF : Nat → zQ → zP} (hZ : zZ SM SF) {Q : zQ} {H : zHl} {y : zY1} {m : zMs} {kd : Int32} (hn : H.1 8 2 = nI (nn H.1)) (h8 : nn H.1 < 8) (k : Q (some (.int (nI (nn H.1)))) (gh ((addI H.1 kd, H.2), y) m)) : SM mn_H_addInlaw [.ref 1, .int kd] (gh (H, y) m) Q := by
  unfold addI at k
  rw [← nI_1, ← hn] at k
  refine zin hZ 999 99 rfl rfl rfl ?_
  refine ⟨fun _ => ?_, fun h1 => ?_⟩
  · refine ⟨nn H.1, h8, hn, nn H.1, h8, hn, nn H.1, h8, hn, nn H.1, h8, hn, nn H.1, h8, hn, ?_⟩
    exact k
  · exact absurd ((ilt hn (show (8 : Int32) = nI 8 from rfl) (by omega) (by omega)).mpr h8) h1
set_option maxRecDepth 100000 in
set_option maxHeartbeats 400000 in
theorem c_addInlaw81 {SM : zC} {SF : Nat → zQ → zP} (hZ : zZ SM SF) {Q : zQ} {H : zHl} {y : zY1} {m : zMs} {kd : Int32} (hn : H.1 8 2 = nI (nn H.1)) (h8 : nn H.1 = 8) (k : Q (some (.int (-1))) (gh (H, y) m)) : SM mn_H_addInlaw [.ref 1, .int kd] (gh (H, y) m) Q := by
  refine zin hZ 999 99 rfl rfl rfl ?_
  refine ⟨fun h1 => ?_, fun h1 => k⟩
  have h1 := (ilt hn (show (8 : Int32) = nI 8 from rfl) (by omega) (by omega)).mp h1
  omega
set_option maxRecDepth 100000 in
set_option maxHeartbeats 400000 in
theorem c_addCouple1 {SM : zC} {SF : Nat → zQ → zP} (hZ : zZ SM SF) {Q : zQ} {H : zHl} {y : zY1} {m : zMs} {ld : Int32} (hn : H.1 8 3 = nI (nc H.1)) (h8 : nc H.1 < 8) (k : Q (some (.int (nI (nc H.1)))) (gh ((addC H.1 ld, H.2), y) m)) : SM mn_H_addCouple [.ref 1, .int ld] (gh (H, y) m) Q := by
  unfold addC at k
  rw [← nI_1, ← hn] at k
  refine zin hZ 999 99 rfl rfl rfl ?_
  refine ⟨fun _ => ?_, fun h1 => ?_⟩
  · refine ⟨nc H.1, h8, hn, nc H.1, h8, hn, nc H.1, h8, hn, ?_⟩
    exact k
  · exact absurd ((ilt hn (show (8 : Int32) = nI 8 from rfl) (by omega) (by omega)).mpr h8) h1
set_option maxRecDepth 100000 in
set_option maxHeartbeats 400000 in
theorem c_addCouple81 {SM : zC} {SF : Nat → zQ → zP} (hZ : zZ SM SF) {Q : zQ} {H : zHl} {y : zY1} {m : zMs} {ld : Int32} (hn : H.1 8 3 = nI (nc H.1)) (h8 : nc H.1 = 8) (k : Q (some (.int (-1))) (gh (H, y) m)) : SM mn_H_addCouple [.ref 1, .int ld] (gh (H, y) m) Q := by
  refine zin hZ 999 99 rfl rfl rfl ?_
  refine ⟨fun h1 => ?_, fun h1 => k⟩
  have h1 := (ilt hn (show (8 : Int32) = nI 8 from rfl) (by omega) (by omega)).mp h1
  omega
set_option maxRecDepth 100000 in
set_option maxHeartbeats 400000 in
theorem c_isFree2 {SM : zC} {SF : Nat → zQ → zP} (hZ : zZ SM SF) {Q : zQ} {H : zHl} {B : zHl} {y : zY2} {m : zMs} {i : Nat} (kt : fr H.2.2 i → Q (some (.int 1)) (gh (B, H, y) m)) (kf : ¬ fr H.2.2 i → Q (some (.int 0)) (gh (B, H, y) m)) : SM mn_H_isFree [.ref 11, .int (nI i)] (gh (B, H, y) m) Q := by
  refine zin hZ 999 50 rfl rfl rfl ?_
  exact ⟨fun h1 => ⟨Or.inl rfl, kf h1⟩, fun h1 => ⟨Or.inr rfl, kt h1⟩⟩
set_option maxRecDepth 100000 in
set_option maxHeartbeats 400000 in
theorem c_charmsOf2 {SM : zC} {SF : Nat → zQ → zP} (hZ : zZ SM SF) {Q : zQ} {H : zHl} {B : zHl} {y : zY2} {m : zMs} {i c : Nat} (hi : i < 8) (hc : c < 8) (k : Q (some (.int (ch H.1 i c))) (gh (B, H, y) m)) : SM mn_H_charmsOf [.ref 11, .int (nI i), .int (nI c)] (gh (B, H, y) m) Q := by
  refine zin hZ 999 99 rfl rfl rfl ?_
  refine ⟨c, hc, rfl, fun h1 => ?_, fun h1 => ?_⟩
  · refine ⟨i, hi, rfl, i, hi, rfl, c, hc, rfl, ?_⟩
    exact c_Kcharms (σ := H.1) hZ (Or.inl ⟨rfl, h1⟩) k
  · refine ⟨i, hi, rfl, i, hi, rfl, c, hc, rfl, ?_⟩
    exact c_Kcharms (σ := H.1) hZ (Or.inr ⟨rfl, h1⟩) k
set_option maxRecDepth 100000 in
set_option maxHeartbeats 400000 in
theorem c_doesOf2 {SM : zC} {SF : Nat → zQ → zP} (hZ : zZ SM SF) {Q : zQ} {H : zHl} {B : zHl} {y : zY2} {m : zMs} {i c : Nat} (hi : i < 8) (hc : c < 8) (k : Q (some (.int (dz H.1 i c))) (gh (B, H, y) m)) : SM mn_H_doesOf [.ref 11, .int (nI i), .int (nI c)] (gh (B, H, y) m) Q := by
  refine zin hZ 999 99 rfl rfl rfl ?_
  refine ⟨i, hi, rfl, i, hi, rfl, c, hc, rfl, ?_⟩
  exact c_Kdoes (σ := H.1) hZ k
set_option maxRecDepth 100000 in
set_option maxHeartbeats 400000 in
theorem c_thawsOf2 {SM : zC} {SF : Nat → zQ → zP} (hZ : zZ SM SF) {Q : zQ} {H : zHl} {B : zHl} {y : zY2} {m : zMs} {i c : Nat} (hi : i < 8) (hc : c < 8) (k : Q (some (.int (th H.1 i c))) (gh (B, H, y) m)) : SM mn_H_thawsOf [.ref 11, .int (nI i), .int (nI c)] (gh (B, H, y) m) Q := by
  refine zin hZ 999 99 rfl rfl rfl ?_
  refine ⟨i, hi, rfl, c, hc, rfl, ?_⟩
  exact c_Kthaws (σ := H.1) hZ k
set_option maxRecDepth 100000 in
set_option maxHeartbeats 400000 in
theorem c_chillsOf2 {SM : zC} {SF : Nat → zQ → zP} (hZ : zZ SM SF) {Q : zQ} {H : zHl} {B : zHl} {y : zY2} {m : zMs} {i : Nat} (hi : i < 8) (hf : ∃ v, v < 21 ∧ H.1 8 1 = nI v) (k : Q (some (.int (cl H.1 i))) (gh (B, H, y) m)) : SM mn_H_chillsOf [.ref 11, .int (nI i)] (gh (B, H, y) m) Q := by
  refine zin hZ 999 99 rfl rfl rfl ?_
  refine ⟨i, hi, rfl, ?_⟩
  exact c_Kchills (σ := H.1) hZ hf k
set_option maxRecDepth 100000 in
set_option maxHeartbeats 400000 in
theorem c_sum_warm2_l {SM : zC} {SF : Nat → zQ → zP} (hZ : zZ SM SF) {Q : zQ} {H : zHl} {B : zHl} {y : zY2} {m : zMs} {N : Nat} (h8 : N ≤ 8) (k : Q (some (.int (zsum (H.1 1) N))) (gh (B, H, y) m)) : ∀ d i, i + d = N → SF mn_H_sum Q 4 [some (.ref 13), some (.int (nI N)), some (.int (zsum (H.1 1) i)), some (.int (nI i))] [] (0, 0) (gh (B, H, y) m) := by
  intro d
  induction d with
  | zero =>
    intro i hi
    refine zgo hZ 4 60 rfl ?_
    refine ⟨fun hc => ?_, fun hc => ?_⟩
    · rw [show i = N by omega]
      exact k
    · exact absurd ((ile rfl rfl (by omega) (by omega)).mpr (by omega)) hc
  | succ d ih =>
    intro i hi
    have h1 := ih (i + 1) (by omega)
    rw [← nI_1] at h1
    refine zgo hZ 4 60 rfl ?_
    refine ⟨fun hc => ?_, fun hc => ⟨fun hd => ?_, fun hd => ⟨i, by omega, rfl, ?_⟩⟩⟩
    · have := (ile rfl rfl (by omega) (by omega)).mp hc
      omega
    · have := (ile rfl rfl (by omega) (by omega)).mp hd
      omega
    · exact h1
theorem c_sum_warm2 {SM : zC} {SF : Nat → zQ → zP} (hZ : zZ SM SF) {Q : zQ} {H : zHl} {B : zHl} {y : zY2} {m : zMs} {N : Nat} {v : Int32} (hv : v = nI N) (h8 : N ≤ 8) (k : Q (some (.int (zsum (H.1 1) N))) (gh (B, H, y) m)) : SM mn_H_sum [.ref 13, .int v] (gh (B, H, y) m) Q := by
  subst hv
  refine zin hZ 4 60 rfl rfl rfl ?_
  exact c_sum_warm2_l hZ h8 k N 0 (by omega)
set_option maxRecDepth 100000 in
set_option maxHeartbeats 400000 in
theorem c_warmOfAll2 {SM : zC} {SF : Nat → zQ → zP} (hZ : zZ SM SF) {Q : zQ} {H : zHl} {B : zHl} {y : zY2} {m : zMs} {N : Nat} (hn : H.1 8 2 = nI N) (h8 : N ≤ 8) (k : Q (some (.int (zsum (H.1 1) N))) (gh (B, H, y) m)) : SM mn_H_warmOfAll [.ref 11] (gh (B, H, y) m) Q := by
  refine zin hZ 999 60 rfl rfl rfl ?_
  exact c_sum_warm2 hZ hn h8 k
set_option maxRecDepth 100000 in
set_option maxHeartbeats 400000 in
theorem c_sum_had2_l {SM : zC} {SF : Nat → zQ → zP} (hZ : zZ SM SF) {Q : zQ} {H : zHl} {B : zHl} {y : zY2} {m : zMs} {N : Nat} (h8 : N ≤ 8) (k : Q (some (.int (zsum (H.1 4) N))) (gh (B, H, y) m)) : ∀ d i, i + d = N → SF mn_H_sum Q 4 [some (.ref 16), some (.int (nI N)), some (.int (zsum (H.1 4) i)), some (.int (nI i))] [] (0, 0) (gh (B, H, y) m) := by
  intro d
  induction d with
  | zero =>
    intro i hi
    refine zgo hZ 4 60 rfl ?_
    refine ⟨fun hc => ?_, fun hc => ?_⟩
    · rw [show i = N by omega]
      exact k
    · exact absurd ((ile rfl rfl (by omega) (by omega)).mpr (by omega)) hc
  | succ d ih =>
    intro i hi
    have h1 := ih (i + 1) (by omega)
    rw [← nI_1] at h1
    refine zgo hZ 4 60 rfl ?_
    refine ⟨fun hc => ?_, fun hc => ⟨fun hd => ?_, fun hd => ⟨i, by omega, rfl, ?_⟩⟩⟩
    · have := (ile rfl rfl (by omega) (by omega)).mp hc
      omega
    · have := (ile rfl rfl (by omega) (by omega)).mp hd
      omega
    · exact h1
theorem c_sum_had2 {SM : zC} {SF : Nat → zQ → zP} (hZ : zZ SM SF) {Q : zQ} {H : zHl} {B : zHl} {y : zY2} {m : zMs} {N : Nat} {v : Int32} (hv : v = nI N) (h8 : N ≤ 8) (k : Q (some (.int (zsum (H.1 4) N))) (gh (B, H, y) m)) : SM mn_H_sum [.ref 16, .int v] (gh (B, H, y) m) Q := by
  subst hv
  refine zin hZ 4 60 rfl rfl rfl ?_
  exact c_sum_had2_l hZ h8 k N 0 (by omega)
set_option maxRecDepth 100000 in
set_option maxHeartbeats 400000 in
theorem c_hadOfAll2 {SM : zC} {SF : Nat → zQ → zP} (hZ : zZ SM SF) {Q : zQ} {H : zHl} {B : zHl} {y : zY2} {m : zMs} {N : Nat} (hn : H.1 8 2 = nI N) (h8 : N ≤ 8) (k : Q (some (.int (zsum (H.1 4) N))) (gh (B, H, y) m)) : SM mn_H_hadOfAll [.ref 11] (gh (B, H, y) m) Q := by
  refine zin hZ 999 60 rfl rfl rfl ?_
  exact c_sum_had2 hZ hn h8 k
set_option maxRecDepth 100000 in
set_option maxHeartbeats 400000 in
theorem c_sum_well2_l {SM : zC} {SF : Nat → zQ → zP} (hZ : zZ SM SF) {Q : zQ} {H : zHl} {B : zHl} {y : zY2} {m : zMs} {N : Nat} (h8 : N ≤ 8) (k : Q (some (.int (zsum (H.1 6) N))) (gh (B, H, y) m)) : ∀ d i, i + d = N → SF mn_H_sum Q 4 [some (.ref 18), some (.int (nI N)), some (.int (zsum (H.1 6) i)), some (.int (nI i))] [] (0, 0) (gh (B, H, y) m) := by
  intro d
  induction d with
  | zero =>
    intro i hi
    refine zgo hZ 4 60 rfl ?_
    refine ⟨fun hc => ?_, fun hc => ?_⟩
    · rw [show i = N by omega]
      exact k
    · exact absurd ((ile rfl rfl (by omega) (by omega)).mpr (by omega)) hc
  | succ d ih =>
    intro i hi
    have h1 := ih (i + 1) (by omega)
    rw [← nI_1] at h1
    refine zgo hZ 4 60 rfl ?_
    refine ⟨fun hc => ?_, fun hc => ⟨fun hd => ?_, fun hd => ⟨i, by omega, rfl, ?_⟩⟩⟩
    · have := (ile rfl rfl (by omega) (by omega)).mp hc
      omega
    · have := (ile rfl rfl (by omega) (by omega)).mp hd
      omega
    · exact h1
theorem c_sum_well2 {SM : zC} {SF : Nat → zQ → zP} (hZ : zZ SM SF) {Q : zQ} {H : zHl} {B : zHl} {y : zY2} {m : zMs} {N : Nat} {v : Int32} (hv : v = nI N) (h8 : N ≤ 8) (k : Q (some (.int (zsum (H.1 6) N))) (gh (B, H, y) m)) : SM mn_H_sum [.ref 18, .int v] (gh (B, H, y) m) Q := by
  subst hv
  refine zin hZ 4 60 rfl rfl rfl ?_
  exact c_sum_well2_l hZ h8 k N 0 (by omega)
set_option maxRecDepth 100000 in
set_option maxHeartbeats 400000 in
theorem c_wellOfAll2 {SM : zC} {SF : Nat → zQ → zP} (hZ : zZ SM SF) {Q : zQ} {H : zHl} {B : zHl} {y : zY2} {m : zMs} {N : Nat} (hn : H.1 8 3 = nI N) (h8 : N ≤ 8) (k : Q (some (.int (zsum (H.1 6) N))) (gh (B, H, y) m)) : SM mn_H_wellOfAll [.ref 11] (gh (B, H, y) m) Q := by
  refine zin hZ 999 60 rfl rfl rfl ?_
  exact c_sum_well2 hZ hn h8 k
set_option maxRecDepth 100000 in
set_option maxHeartbeats 400000 in
theorem c_satOnes2_l {SM : zC} {SF : Nat → zQ → zP} (hZ : zZ SM SF) {Q : zQ} {H : zHl} {B : zHl} {y : zY2} {m : zMs} {D N : Nat} (hw : wf D H.1) (hn : H.1 8 2 = nI N) (h8 : N ≤ 8) (k : Q (some (.int (sset H.1 N))) (gh (B, H, y) m)) : ∀ d i, i + d = N → SF mn_H_satOnes Q 4 [some (.ref 11), some (.int (sset H.1 i)), some (.int (nI i))] [] (0, 0) (gh (B, H, y) m) := by
  intro d
  induction d with
  | zero =>
    intro i hi
    refine zgo hZ 4 60 rfl ?_
    refine ⟨fun hc => ?_, fun hc => ?_⟩
    · rw [show i = N by omega]
      exact k
    · exact absurd ((ile hn rfl (by omega) (by omega)).mpr (by omega)) hc
  | succ d ih =>
    intro i hi
    have h1 := ih (i + 1) (by omega)
    rw [← nI_1, show sset H.1 (i + 1) = sset H.1 i ||| (H.1 2 i <<< (nI i &&& 31)) from rfl] at h1
    refine zgo hZ 4 60 rfl ?_
    refine ⟨fun hc => ?_, fun hc => ⟨i, by omega, rfl, fun h2 => ?_, fun h2 => ?_⟩⟩
    · have := (ile hn rfl (by omega) (by omega)).mp hc
      omega
    · rw [show H.1 2 i = 0 from h2, sh0 i (by omega), or0] at h1
      exact h1
    · have h3 : H.1 2 i = 1 := by
        have h4 := (hw.1 i (by omega)).2.2.1
        have h5 : ¬ H.1 2 i = 0 := h2
        rw [zeq, show (0 : Int32).toInt = 0 by decide] at h5
        rw [zeq, show (1 : Int32).toInt = 1 by decide]
        omega
      rw [h3] at h1
      exact h1
theorem c_satOnes2 {SM : zC} {SF : Nat → zQ → zP} (hZ : zZ SM SF) {Q : zQ} {H : zHl} {B : zHl} {y : zY2} {m : zMs} {D N : Nat} (hw : wf D H.1) (hn : H.1 8 2 = nI N) (h8 : N ≤ 8) (k : Q (some (.int (sset H.1 N))) (gh (B, H, y) m)) : SM mn_H_satOnes [.ref 11] (gh (B, H, y) m) Q := by
  refine zin hZ 4 60 rfl rfl rfl ?_
  exact c_satOnes2_l hZ hw hn h8 k N 0 (by omega)
set_option maxRecDepth 100000 in
set_option maxHeartbeats 400000 in
theorem c_firstCouple2 {SM : zC} {SF : Nat → zQ → zP} (hZ : zZ SM SF) {Q : zQ} {H : zHl} {B : zHl} {y : zY2} {m : zMs} {D : Nat} (hw : wf D H.1) (hD : D ≤ 20000) (k : Q (some (.int (fc H.1))) (gh (B, H, y) m)) : SM mn_H_firstCouple [.ref 11] (gh (B, H, y) m) Q := by
  obtain ⟨-, ⟨d1, d2⟩, -, -, c1, c2⟩ := hw
  unfold fc at k
  refine zin hZ 999 60 rfl rfl rfl ?_
  refine ⟨fun h1 => ?_, fun h1 => ?_⟩
  · have h1 := (ile c1 (show (0 : Int32) = nI 0 from rfl) (by omega) (by omega)).mp h1
    rw [if_pos (by omega)] at k
    exact k
  · have h1 : ¬ nc H.1 ≤ 0 := fun z => h1 ((ile c1 (show (0 : Int32) = nI 0 from rfl) (by omega) (by omega)).mpr z)
    rw [if_neg (by omega)] at k
    have e : H.1 8 0 - H.1 8 0 / H.1 8 3 * H.1 8 3 = nI (nd H.1 % nc H.1) := by
      rw [c1, d1]
      exact pk_rem (by omega) (by omega) (by omega)
    rw [← e] at k
    exact ⟨by rw [c1]; exact nI_ne0 (by omega) (by omega), k⟩
set_option maxRecDepth 100000 in
set_option maxHeartbeats 400000 in
theorem c_addInlaw2 {SM : zC} {SF : Nat → zQ → zP} (hZ : zZ SM SF) {Q : zQ} {H : zHl} {B : zHl} {y : zY2} {m : zMs} {kd : Int32} (hn : H.1 8 2 = nI (nn H.1)) (h8 : nn H.1 < 8) (k : Q (some (.int (nI (nn H.1)))) (gh (B, (addI H.1 kd, H.2), y) m)) : SM mn_H_addInlaw [.ref 11, .int kd] (gh (B, H, y) m) Q := by
  unfold addI at k
  rw [← nI_1, ← hn] at k
  refine zin hZ 999 99 rfl rfl rfl ?_
  refine ⟨fun _ => ?_, fun h1 => ?_⟩
  · refine ⟨nn H.1, h8, hn, nn H.1, h8, hn, nn H.1, h8, hn, nn H.1, h8, hn, nn H.1, h8, hn, ?_⟩
    exact k
  · exact absurd ((ilt hn (show (8 : Int32) = nI 8 from rfl) (by omega) (by omega)).mpr h8) h1
set_option maxRecDepth 100000 in
set_option maxHeartbeats 400000 in
theorem c_addInlaw82 {SM : zC} {SF : Nat → zQ → zP} (hZ : zZ SM SF) {Q : zQ} {H : zHl} {B : zHl} {y : zY2} {m : zMs} {kd : Int32} (hn : H.1 8 2 = nI (nn H.1)) (h8 : nn H.1 = 8) (k : Q (some (.int (-1))) (gh (B, H, y) m)) : SM mn_H_addInlaw [.ref 11, .int kd] (gh (B, H, y) m) Q := by
  refine zin hZ 999 99 rfl rfl rfl ?_
  refine ⟨fun h1 => ?_, fun h1 => k⟩
  have h1 := (ilt hn (show (8 : Int32) = nI 8 from rfl) (by omega) (by omega)).mp h1
  omega
set_option maxRecDepth 100000 in
set_option maxHeartbeats 400000 in
theorem c_addCouple2 {SM : zC} {SF : Nat → zQ → zP} (hZ : zZ SM SF) {Q : zQ} {H : zHl} {B : zHl} {y : zY2} {m : zMs} {ld : Int32} (hn : H.1 8 3 = nI (nc H.1)) (h8 : nc H.1 < 8) (k : Q (some (.int (nI (nc H.1)))) (gh (B, (addC H.1 ld, H.2), y) m)) : SM mn_H_addCouple [.ref 11, .int ld] (gh (B, H, y) m) Q := by
  unfold addC at k
  rw [← nI_1, ← hn] at k
  refine zin hZ 999 99 rfl rfl rfl ?_
  refine ⟨fun _ => ?_, fun h1 => ?_⟩
  · refine ⟨nc H.1, h8, hn, nc H.1, h8, hn, nc H.1, h8, hn, ?_⟩
    exact k
  · exact absurd ((ilt hn (show (8 : Int32) = nI 8 from rfl) (by omega) (by omega)).mpr h8) h1
set_option maxRecDepth 100000 in
set_option maxHeartbeats 400000 in
theorem c_addCouple82 {SM : zC} {SF : Nat → zQ → zP} (hZ : zZ SM SF) {Q : zQ} {H : zHl} {B : zHl} {y : zY2} {m : zMs} {ld : Int32} (hn : H.1 8 3 = nI (nc H.1)) (h8 : nc H.1 = 8) (k : Q (some (.int (-1))) (gh (B, H, y) m)) : SM mn_H_addCouple [.ref 11, .int ld] (gh (B, H, y) m) Q := by
  refine zin hZ 999 99 rfl rfl rfl ?_
  refine ⟨fun h1 => ?_, fun h1 => k⟩
  have h1 := (ilt hn (show (8 : Int32) = nI 8 from rfl) (by omega) (by omega)).mp h1
  omega
