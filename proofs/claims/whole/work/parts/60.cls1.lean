/-! THE CLASS, first part: kinds, small methods -/
abbrev zY1 : Type := zHl × zHl × Int32 × zTp × (Nat → zSh) × (Nat → Int32)
abbrev zY2 : Type := zHl × Int32 × zTp × (Nat → zSh) × (Nat → Int32)
theorem c_isOutside {SM : zC} {SF : Nat → zQ → zP} (hZ : zZ SM SF) {Q : zQ} {h : zH} {v a b : Int32} (kt : ¬ (a ≤ v ∧ v ≤ b) → Q (some (.int 1)) h) (kf : a ≤ v → v ≤ b → Q (some (.int 0)) h) : SM mn_X_isOutside [.int v, .int a, .int b] h Q := by
  refine zin hZ 999 50 rfl rfl rfl ?_
  refine ⟨fun h1 => ?_, fun h1 => ⟨fun h2 => ?_, fun h2 => ?_⟩⟩
  · exact ⟨Or.inr rfl, kt (fun z => nle_of h1 z.1)⟩
  · exact ⟨Or.inl rfl, kf (le_of h1) h2⟩
  · exact ⟨Or.inr rfl, kt (fun z => h2 z.2)⟩
theorem c_hold {SM : zC} {SF : Nat → zQ → zP} (hZ : zZ SM SF) {Q : zQ} {h : zH} {v lo hi : Int32} (hl : lo ≤ hi) (k : Q (some (.int (hd3 v lo hi))) h) : SM mn_H_hold [.int v, .int lo, .int hi] h Q := by
  rw [← hold_eq v hl] at k
  refine zin hZ 999 50 rfl rfl rfl ?_
  exact k
set_option maxRecDepth 100000 in
set_option maxHeartbeats 400000 in
theorem c_tell {SM : zC} {SF : Nat → zQ → zP} (hZ : zZ SM SF) {Q : zQ} {H A K : zHl} {kp : Int32} {T : zTp} {S : Nat → zSh} {F : Nat → Int32} {m : zMs} {f : Int32} (j : Nat) (hj : j < 7) (e : -1000000001 - f = nI j) (k : Q (some (.int f)) (gh (H, A, K, kp, T, S, upd F j (F j + 1)) m)) : SM mn_X_tell [.ref 0, .int f] (gh (H, A, K, kp, T, S, F) m) Q := by
  refine zin hZ 999 50 rfl rfl rfl ?_
  refine c_isOutside hZ (fun h1 => ?_) (fun h1 h2 => ?_)
  · exact absurd ((zIn_iff (n := 7) (by omega)).mp ⟨j, hj, e⟩) h1
  · exact ⟨nf, fun _ => ⟨j, hj, e, j, hj, e, k⟩⟩
set_option maxRecDepth 100000 in
set_option maxHeartbeats 400000 in
theorem c_Kcharms {SM : zC} {SF : Nat → zQ → zP} (hZ : zZ SM SF) {Q : zQ} {h : zH} {σ : zS} {i c : Nat} {l : Int32} (hl : (l = 0 ∧ ¬ σ 7 c = nI i) ∨ (l = 1 ∧ σ 7 c = nI i)) (k : Q (some (.int (ch σ i c))) h) : SM mn_K_charms [.int (σ 0 i), .int (σ 1 i), .int (σ 5 c), .int l, .int (σ 8 1)] h Q := by
  have key : ∀ mo : Int32, mo = (if σ 5 c < 4 then σ 1 i / 10 + 3 else σ 1 i / 10) → SF mn_K_charms Q 21 [some (.int (σ 0 i)), some (.int (σ 1 i)), some (.int (σ 5 c)), some (.int l), some (.int (σ 8 1)), some (.int (σ 1 i / 10)), some (.int mo), none] [] (0, 0) h := by
    intro mo emo
    unfold ch at k
    rw [← emo] at k
    refine zgo hZ 999 50 rfl ?_
    refine ⟨by decide, ?_⟩
    refine ⟨fun g1 => ?_, fun g1 => ⟨fun g2 => ?_, fun g2 => ⟨fun g3 => ?_, fun g3 => ⟨fun g4 => ⟨fun g5 => ?_, fun g5 => ?_⟩, fun g4 => ⟨fun g5 => ⟨by decide, ?_⟩, fun g5 => ?_⟩⟩⟩⟩⟩
    · rw [if_pos (show σ 0 i = 1 from g1)] at k; exact k
    · rw [if_neg (show ¬ σ 0 i = 1 from g1), if_pos (show σ 0 i = 2 from g2)] at k; exact k
    · rw [if_neg (show ¬ σ 0 i = 1 from g1), if_neg (show ¬ σ 0 i = 2 from g2), if_pos (show σ 0 i = 3 from g3)] at k; exact k
    · rw [if_neg (show ¬ σ 0 i = 1 from g1), if_neg (show ¬ σ 0 i = 2 from g2), if_neg (show ¬ σ 0 i = 3 from g3), if_pos (show σ 0 i = 4 from g4)] at k
      have g5 : l = 0 := g5
      rcases hl with ⟨-, h2⟩ | ⟨h2, -⟩
      · rw [if_neg h2, ← Int32.add_zero (mo - 2)] at k; exact k
      · exact absurd (h2.symm.trans g5) (by decide)
    · rw [if_neg (show ¬ σ 0 i = 1 from g1), if_neg (show ¬ σ 0 i = 2 from g2), if_neg (show ¬ σ 0 i = 3 from g3), if_pos (show σ 0 i = 4 from g4)] at k
      rcases hl with ⟨h2, -⟩ | ⟨-, h2⟩
      · exact absurd h2 g5
      · rw [if_pos h2, show mo + 7 = mo - 2 + 9 by rw [Int32.sub_eq_add_neg, Int32.add_assoc]; rfl] at k; exact k
    · rw [if_neg (show ¬ σ 0 i = 1 from g1), if_neg (show ¬ σ 0 i = 2 from g2), if_neg (show ¬ σ 0 i = 3 from g3), if_neg (show ¬ σ 0 i = 4 from g4), if_pos (show σ 0 i = 5 from g5)] at k; exact k
    · rw [if_neg (show ¬ σ 0 i = 1 from g1), if_neg (show ¬ σ 0 i = 2 from g2), if_neg (show ¬ σ 0 i = 3 from g3), if_neg (show ¬ σ 0 i = 4 from g4), if_neg (show ¬ σ 0 i = 5 from g5)] at k; exact k
  refine zin hZ 21 50 rfl rfl rfl ?_
  refine ⟨by decide, ?_⟩
  refine ⟨fun h1 => ?_, fun h1 => ?_⟩
  · exact key _ (by rw [if_neg (nlt_of (show 4 ≤ σ 5 c from h1)), Int32.add_zero])
  · exact key _ (by rw [if_pos (lt_of (show ¬ 4 ≤ σ 5 c from h1))])
set_option maxRecDepth 100000 in
set_option maxHeartbeats 400000 in
theorem c_Kdoes {SM : zC} {SF : Nat → zQ → zP} (hZ : zZ SM SF) {Q : zQ} {h : zH} {σ : zS} {i c : Nat} (k : Q (some (.int (dz σ i c))) h) : SM mn_K_does [.int (σ 0 i), .int (σ 1 i), .int (σ 5 c), .int (σ 8 1)] h Q := by
  have key : ∀ fa : Int32, fa = (if 10 ≤ σ 8 1 then 3 else 2) → SF mn_K_does Q 19 [some (.int (σ 0 i)), some (.int (σ 1 i)), some (.int (σ 5 c)), some (.int (σ 8 1)), some (.int 2), some (.int fa)] [] (0, 0) h := by
    intro fa efa
    unfold dz at k
    rw [← efa] at k
    refine zgo hZ 999 50 rfl ?_
    refine ⟨fun g1 => ⟨fun g2 => ?_, fun g2 => ?_⟩, fun g1 => ⟨fun g2 => ?_, fun g2 => ⟨fun g3 => ?_, fun g3 => ⟨fun g4 => ⟨fun g5 => ?_, fun g5 => ?_⟩, fun g4 => ⟨fun g5 => ?_, fun g5 => ?_⟩⟩⟩⟩⟩
    · rw [if_pos (show σ 0 i = 1 from g1), if_neg (nle_of (show σ 5 c < 7 from g2))] at k; exact k
    · rw [if_pos (show σ 0 i = 1 from g1), if_pos (le_of (show ¬ σ 5 c < 7 from g2))] at k; exact k
    · rw [if_neg (show ¬ σ 0 i = 1 from g1), if_pos (show σ 0 i = 2 from g2)] at k; exact k
    · rw [if_neg (show ¬ σ 0 i = 1 from g1), if_neg (show ¬ σ 0 i = 2 from g2), if_pos (show σ 0 i = 3 from g3)] at k; exact k
    · rw [if_neg (show ¬ σ 0 i = 1 from g1), if_neg (show ¬ σ 0 i = 2 from g2), if_neg (show ¬ σ 0 i = 3 from g3), if_pos (show σ 0 i = 4 from g4), if_neg (nle_of (show σ 1 i < 60 from g5))] at k; exact k
    · rw [if_neg (show ¬ σ 0 i = 1 from g1), if_neg (show ¬ σ 0 i = 2 from g2), if_neg (show ¬ σ 0 i = 3 from g3), if_pos (show σ 0 i = 4 from g4), if_pos (le_of (show ¬ σ 1 i < 60 from g5))] at k; exact k
    · rw [if_neg (show ¬ σ 0 i = 1 from g1), if_neg (show ¬ σ 0 i = 2 from g2), if_neg (show ¬ σ 0 i = 3 from g3), if_neg (show ¬ σ 0 i = 4 from g4), if_pos (show σ 0 i = 5 from g5)] at k; exact k
    · rw [if_neg (show ¬ σ 0 i = 1 from g1), if_neg (show ¬ σ 0 i = 2 from g2), if_neg (show ¬ σ 0 i = 3 from g3), if_neg (show ¬ σ 0 i = 4 from g4), if_neg (show ¬ σ 0 i = 5 from g5)] at k; exact k
  refine zin hZ 19 50 rfl rfl rfl ?_
  refine ⟨fun h1 => ?_, fun h1 => ?_⟩
  · exact key _ (by rw [if_neg (nle_of (show σ 8 1 < 10 from h1))]; decide)
  · exact key _ (by rw [if_pos (le_of (show ¬ σ 8 1 < 10 from h1))]; decide)
set_option maxRecDepth 100000 in
set_option maxHeartbeats 400000 in
theorem c_Kthaws {SM : zC} {SF : Nat → zQ → zP} (hZ : zZ SM SF) {Q : zQ} {h : zH} {σ : zS} {i c : Nat} (k : Q (some (.int (th σ i c))) h) : SM mn_K_thaws [.int (σ 0 i), .int (σ 5 c)] h Q := by
  unfold th at k
  refine zin hZ 999 50 rfl rfl rfl ?_
  refine ⟨by decide, ?_⟩
  refine ⟨fun g1 => ?_, fun g1 => ⟨fun g2 => ?_, fun g2 => ⟨fun g3 => ?_, fun g3 => ⟨fun g4 => ?_, fun g4 => ⟨fun g5 => ?_, fun g5 => ?_⟩⟩⟩⟩⟩
  · rw [if_pos (show σ 0 i = 1 from g1)] at k; exact k
  · have g2 : σ 0 i = 2 := g2
    rw [if_neg (show ¬ σ 0 i = 1 from g1), g2, if_neg (by decide), if_neg (by decide), if_neg (by decide)] at k; exact k
  · rw [if_neg (show ¬ σ 0 i = 1 from g1), if_pos (show σ 0 i = 3 from g3)] at k; exact k
  · rw [if_neg (show ¬ σ 0 i = 1 from g1), if_neg (show ¬ σ 0 i = 3 from g3), if_pos (show σ 0 i = 4 from g4)] at k; exact k
  · rw [if_neg (show ¬ σ 0 i = 1 from g1), if_neg (show ¬ σ 0 i = 3 from g3), if_neg (show ¬ σ 0 i = 4 from g4), if_pos (show σ 0 i = 5 from g5)] at k; exact k
  · rw [if_neg (show ¬ σ 0 i = 1 from g1), if_neg (show ¬ σ 0 i = 3 from g3), if_neg (show ¬ σ 0 i = 4 from g4), if_neg (show ¬ σ 0 i = 5 from g5)] at k; exact k
theorem bl_eq : ∀ v : Nat, v < 21 → (if 2 - nI v / 10 - 1 < 0 then (0 : Int32) else 2 - nI v / 10 - 1) = (if 0 < 2 - nI v / 10 then 2 - nI v / 10 - 1 else 0) := by decide +kernel
theorem fire_nI {D : Nat} {σ : zS} (h : wf D σ) : ∃ v, v < 21 ∧ σ 8 1 = nI v := by
  obtain ⟨-, -, ⟨h1, h2⟩, -⟩ := h
  obtain ⟨j, hj, e⟩ := nI_of (x := σ 8 1) (by rw [zlt, show (0 : Int32).toInt = 0 by decide]; omega)
  rw [e, nI_toInt hj] at h2
  exact ⟨j, by omega, e⟩
set_option maxRecDepth 100000 in
set_option maxHeartbeats 400000 in
theorem c_Kchills {SM : zC} {SF : Nat → zQ → zP} (hZ : zZ SM SF) {Q : zQ} {h : zH} {σ : zS} (hf : ∃ v, v < 21 ∧ σ 8 1 = nI v) {i : Nat} (k : Q (some (.int (cl σ i))) h) : SM mn_K_chills [.int (σ 0 i), .int (σ 8 1)] h Q := by
  obtain ⟨v, hv, ev⟩ := hf
  unfold cl at k
  rw [ev] at k ⊢
  rw [← bl_eq v hv] at k
  refine zin hZ 999 50 rfl rfl rfl ?_
  refine ⟨by decide, ?_⟩
  refine ⟨fun g1 => ?_, fun g1 => ⟨fun g2 => ?_, fun g2 => ⟨fun g3 => ?_, fun g3 => ⟨fun g4 => ?_, fun g4 => ⟨fun g5 => ?_, fun g5 => ?_⟩⟩⟩⟩⟩
  · rw [if_pos (show σ 0 i = 1 from g1)] at k; exact k
  · rw [if_neg (show ¬ σ 0 i = 1 from g1), if_pos (show σ 0 i = 2 from g2)] at k; exact k
  · rw [if_neg (show ¬ σ 0 i = 1 from g1), if_neg (show ¬ σ 0 i = 2 from g2), if_pos (show σ 0 i = 3 from g3)] at k; exact k
  · rw [if_neg (show ¬ σ 0 i = 1 from g1), if_neg (show ¬ σ 0 i = 2 from g2), if_neg (show ¬ σ 0 i = 3 from g3), if_pos (show σ 0 i = 4 from g4)] at k; exact k
  · rw [if_neg (show ¬ σ 0 i = 1 from g1), if_neg (show ¬ σ 0 i = 2 from g2), if_neg (show ¬ σ 0 i = 3 from g3), if_neg (show ¬ σ 0 i = 4 from g4), if_pos (show σ 0 i = 5 from g5)] at k; exact k
  · rw [if_neg (show ¬ σ 0 i = 1 from g1), if_neg (show ¬ σ 0 i = 2 from g2), if_neg (show ¬ σ 0 i = 3 from g3), if_neg (show ¬ σ 0 i = 4 from g4), if_neg (show ¬ σ 0 i = 5 from g5)] at k; exact k
set_option maxRecDepth 100000 in
set_option maxHeartbeats 400000 in
theorem c_under_s {SM : zC} {SF : Nat → zQ → zP} (hZ : zZ SM SF) {Q : zQ} {h : zH} {o : Option Value} {ab : Int32} {a s : Nat} (ha : a < 6) (hs : s < 6) (kt : nI a = ab → Q (some (.int 1)) h) (kn : ¬ nI a = ab → SF mn_K_isUnder Q 4 [o, some (.int ab), some (.int (zm_ab.getD a 0)), some (.int (nI (s + 1)))] [] (0, 0) h) : SF mn_K_isUnder Q 4 [o, some (.int ab), some (.int (nI a)), some (.int (nI s))] [] (0, 0) h := by
  rw [← nI_1] at kn
  refine zgo hZ 4 60 rfl ?_
  refine ⟨fun h1 => ?_, fun _ => ⟨fun h2 => ?_, fun _ => ⟨fun h3 => ?_, fun _ => ⟨fun h4 => ⟨a, ha, rfl, ?_⟩, fun h4 => ?_⟩⟩⟩⟩
  · have := (ile (a := 6) (m := 6) rfl rfl (by omega) (by omega)).mp h1
    omega
  · have h2 : nI a < 0 := h2
    rw [zlt, nI_toInt (by omega), show (0 : Int32).toInt = 0 by decide] at h2
    omega
  · have := (ile (a := 6) (m := 6) rfl rfl (by omega) (by omega)).mp h3
    omega
  · exact kn h4
  · exact ⟨Or.inr rfl, kt h4⟩
theorem c_under_e {SM : zC} {SF : Nat → zQ → zP} (hZ : zZ SM SF) {Q : zQ} {h : zH} {o : Option Value} {ab : Int32} {s : Nat} (kf : Q (some (.int 0)) h) : SF mn_K_isUnder Q 4 [o, some (.int ab), some (.int (-1)), some (.int (nI s))] [] (0, 0) h := by
  refine zgo hZ 4 60 rfl ?_
  exact ⟨fun _ => ⟨Or.inl rfl, kf⟩, fun _ => ⟨fun _ => ⟨Or.inl rfl, kf⟩, fun h2 => absurd (show (-1 : Int32) < 0 by decide) h2⟩⟩
theorem c_under_0 {SM : zC} {SF : Nat → zQ → zP} (hZ : zZ SM SF) {Q : zQ} {h : zH} {o : Option Value} {ab : Int32} {s : Nat} (hs : s < 6) (kt : 0 = ab → Q (some (.int 1)) h) (kf : ¬ 0 = ab → Q (some (.int 0)) h) : SF mn_K_isUnder Q 4 [o, some (.int ab), some (.int 0), some (.int (nI s))] [] (0, 0) h :=
  c_under_s (a := 0) hZ (by decide) hs kt (fun h1 => c_under_e hZ (kf h1))
theorem c_isUnder {SM : zC} {SF : Nat → zQ → zP} (hZ : zZ SM SF) {Q : zQ} {h : zH} {a : Nat} {b : Int32} (ha : a < 6) (kt : undr (nI a) b → Q (some (.int 1)) h) (kf : ¬ undr (nI a) b → Q (some (.int 0)) h) : SM mn_K_isUnder [.int (nI a), .int b] h Q := by
  refine zin hZ 4 60 rfl rfl rfl ?_
  match a, ha with
  | 0, _ => exact c_under_0 (s := 0) hZ (by decide) (fun e => kt (Or.inl e.symm)) (fun n0 => kf (fun z => by
      rcases z with z | z | ⟨z, -⟩ | ⟨z, -⟩
      · exact n0 z.symm
      · exact n0 z
      · exact absurd z (by decide)
      · exact absurd z (by decide)))
  | 1, _ => exact c_under_s (a := 1) (s := 0) hZ (by decide) (by decide) (fun e => kt (Or.inr (Or.inl e))) (fun n1 => c_under_0 (s := 1) hZ (by decide) (fun e => kt (Or.inl e.symm)) (fun n0 => kf (fun z => by
      rcases z with z | z | ⟨z, -⟩ | ⟨z, -⟩
      · exact n0 z.symm
      · exact n1 z
      · exact absurd z (by decide)
      · exact absurd z (by decide))))
  | 2, _ => exact c_under_s (a := 2) (s := 0) hZ (by decide) (by decide) (fun e => kt (Or.inr (Or.inl e))) (fun n1 => c_under_0 (s := 1) hZ (by decide) (fun e => kt (Or.inl e.symm)) (fun n0 => kf (fun z => by
      rcases z with z | z | ⟨z, -⟩ | ⟨z, -⟩
      · exact n0 z.symm
      · exact n1 z
      · exact absurd z (by decide)
      · exact absurd z (by decide))))
  | 3, _ => exact c_under_s (a := 3) (s := 0) hZ (by decide) (by decide) (fun e => kt (Or.inr (Or.inl e))) (fun n1 => c_under_0 (s := 1) hZ (by decide) (fun e => kt (Or.inl e.symm)) (fun n0 => kf (fun z => by
      rcases z with z | z | ⟨z, -⟩ | ⟨z, -⟩
      · exact n0 z.symm
      · exact n1 z
      · exact absurd z (by decide)
      · exact absurd z (by decide))))
  | 4, _ => exact c_under_s (a := 4) (s := 0) hZ (by decide) (by decide) (fun e => kt (Or.inr (Or.inl e))) (fun n1 => c_under_s (a := 1) (s := 1) hZ (by decide) (by decide) (fun e => kt (Or.inr (Or.inr (Or.inl ⟨rfl, e.symm⟩)))) (fun n2 => c_under_0 (s := 2) hZ (by decide) (fun e => kt (Or.inl e.symm)) (fun n0 => kf (fun z => by
      rcases z with z | z | ⟨-, z⟩ | ⟨z, -⟩
      · exact n0 z.symm
      · exact n1 z
      · exact n2 z.symm
      · exact absurd z (by decide)))))
  | 5, _ => exact c_under_s (a := 5) (s := 0) hZ (by decide) (by decide) (fun e => kt (Or.inr (Or.inl e))) (fun n1 => c_under_s (a := 2) (s := 1) hZ (by decide) (by decide) (fun e => kt (Or.inr (Or.inr (Or.inr ⟨rfl, e.symm⟩)))) (fun n2 => c_under_0 (s := 2) hZ (by decide) (fun e => kt (Or.inl e.symm)) (fun n0 => kf (fun z => by
      rcases z with z | z | ⟨z, -⟩ | ⟨-, z⟩
      · exact n0 z.symm
      · exact n1 z
      · exact absurd z (by decide)
      · exact n2 z.symm))))
