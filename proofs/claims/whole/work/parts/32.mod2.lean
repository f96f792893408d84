/-! THE REFERENCE, second part: what kinds do, one more, a Sunday -/
theorem nlt_of {a b : Int32} (h : b ≤ a) : ¬ a < b := fun z => by rw [zlt] at z; rw [zle] at h; omega
theorem lt_of {a b : Int32} (h : ¬ b ≤ a) : a < b := by rw [zlt]; rw [zle] at h; omega
theorem nle_of {a b : Int32} (h : a < b) : ¬ b ≤ a := fun z => by rw [zle] at z; rw [zlt] at h; omega
theorem le_of {a b : Int32} (h : ¬ a < b) : b ≤ a := by rw [zle]; rw [zlt] at h; omega
theorem t_i0 {SM : zC} {SF : Nat → zQ → zP} (hZ : zZ SM SF) {Q : zQ} {x : zXs} {σ : zS} {r : zMr} {i : Nat} (hi : i < 8) (k : Q (some (.int (σ 0 i))) (gh x (ec σ, r))) : SM mn_M_its [.ref 43, .int (nI i), .int 0] (gh x (ec σ, r)) Q := t_its hZ (w := 0) hi (by decide) k
theorem t_i1 {SM : zC} {SF : Nat → zQ → zP} (hZ : zZ SM SF) {Q : zQ} {x : zXs} {σ : zS} {r : zMr} {i : Nat} (hi : i < 8) (k : Q (some (.int (σ 1 i))) (gh x (ec σ, r))) : SM mn_M_its [.ref 43, .int (nI i), .int 1] (gh x (ec σ, r)) Q := t_its hZ (w := 1) hi (by decide) k
theorem t_i2 {SM : zC} {SF : Nat → zQ → zP} (hZ : zZ SM SF) {Q : zQ} {x : zXs} {σ : zS} {r : zMr} {i : Nat} (hi : i < 8) (k : Q (some (.int (σ 2 i))) (gh x (ec σ, r))) : SM mn_M_its [.ref 43, .int (nI i), .int 2] (gh x (ec σ, r)) Q := t_its hZ (w := 2) hi (by decide) k
theorem t_i3 {SM : zC} {SF : Nat → zQ → zP} (hZ : zZ SM SF) {Q : zQ} {x : zXs} {σ : zS} {r : zMr} {i : Nat} (hi : i < 8) (k : Q (some (.int (σ 3 i))) (gh x (ec σ, r))) : SM mn_M_its [.ref 43, .int (nI i), .int 3] (gh x (ec σ, r)) Q := t_its hZ (w := 3) hi (by decide) k
theorem t_i4 {SM : zC} {SF : Nat → zQ → zP} (hZ : zZ SM SF) {Q : zQ} {x : zXs} {σ : zS} {r : zMr} {i : Nat} (hi : i < 8) (k : Q (some (.int (σ 4 i))) (gh x (ec σ, r))) : SM mn_M_its [.ref 43, .int (nI i), .int 4] (gh x (ec σ, r)) Q := t_its hZ (w := 4) hi (by decide) k
theorem t_c0 {SM : zC} {SF : Nat → zQ → zP} (hZ : zZ SM SF) {Q : zQ} {x : zXs} {σ : zS} {r : zMr} {c : Nat} (hc : c < 8) (k : Q (some (.int (σ 5 c))) (gh x (ec σ, r))) : SM mn_M_theirs [.ref 43, .int (nI c), .int 0] (gh x (ec σ, r)) Q := t_theirs hZ (w := 0) hc (by decide) k
theorem t_c1 {SM : zC} {SF : Nat → zQ → zP} (hZ : zZ SM SF) {Q : zQ} {x : zXs} {σ : zS} {r : zMr} {c : Nat} (hc : c < 8) (k : Q (some (.int (σ 6 c))) (gh x (ec σ, r))) : SM mn_M_theirs [.ref 43, .int (nI c), .int 1] (gh x (ec σ, r)) Q := t_theirs hZ (w := 1) hc (by decide) k
theorem t_c2 {SM : zC} {SF : Nat → zQ → zP} (hZ : zZ SM SF) {Q : zQ} {x : zXs} {σ : zS} {r : zMr} {c : Nat} (hc : c < 8) (k : Q (some (.int (σ 7 c))) (gh x (ec σ, r))) : SM mn_M_theirs [.ref 43, .int (nI c), .int 2] (gh x (ec σ, r)) Q := t_theirs hZ (w := 2) hc (by decide) k
theorem t_wells_l {SM : zC} {SF : Nat → zQ → zP} (hZ : zZ SM SF) {Q : zQ} {x : zXs} {σ : zS} {r : zMr} {n : Nat} (hn : σ 8 3 = nI n) (h8 : n ≤ 8) (k : Q (some (.int (zsum (σ 6) n))) (gh x (ec σ, r))) : ∀ d i, i + d = n → SF mn_M_wells Q 4 [some (.ref 43), some (.int (zsum (σ 6) i)), some (.int (nI i))] [] (0, 0) (gh x (ec σ, r)) := by
  have e : (ec σ 3 : Int32) = nI n := by rw [ec_c (by decide), hn]
  intro d
  induction d with
  | zero =>
    intro i hi
    refine zgo hZ 4 60 rfl ?_
    refine ⟨3, by decide, rfl, fun hc => ?_, fun hc => ?_⟩
    · rw [show i = n by omega]
      exact k
    · exact absurd ((ile e rfl (by omega) (by omega)).mpr (by omega)) hc
  | succ d ih =>
    intro i hi
    refine zgo hZ 4 60 rfl ?_
    refine ⟨3, by decide, rfl, fun hc => ?_, fun hc => ?_⟩
    · have := (ile e rfl (by omega) (by omega)).mp hc
      omega
    · refine t_c1 hZ (by omega) ?_
      have h1 := ih (i + 1) (by omega)
      rw [← nI_1] at h1
      exact h1
theorem t_wells {SM : zC} {SF : Nat → zQ → zP} (hZ : zZ SM SF) {Q : zQ} {x : zXs} {σ : zS} {r : zMr} {n : Nat} (hn : σ 8 3 = nI n) (h8 : n ≤ 8) (k : Q (some (.int (zsum (σ 6) n))) (gh x (ec σ, r))) : SM mn_M_wells [.ref 43] (gh x (ec σ, r)) Q := by
  refine zin hZ 4 60 rfl rfl rfl ?_
  exact t_wells_l hZ hn h8 k n 0 (by omega)
/-- who is sat on, as a set -/
def sset (σ : zS) : Nat → Int32
  | 0 => 0
  | i + 1 => sset σ i ||| (σ 2 i <<< (nI i &&& 31))
theorem t_satOn_l {SM : zC} {SF : Nat → zQ → zP} (hZ : zZ SM SF) {Q : zQ} {x : zXs} {σ : zS} {r : zMr} {n : Nat} (hn : σ 8 2 = nI n) (h8 : n ≤ 8) (k : Q (some (.int (sset σ n))) (gh x (ec σ, r))) : ∀ d i, i + d = n → SF mn_M_satOn Q 4 [some (.ref 43), some (.int (sset σ i)), some (.int (nI i))] [] (0, 0) (gh x (ec σ, r)) := by
  have e : (ec σ 2 : Int32) = nI n := by rw [ec_c (by decide), hn]
  intro d
  induction d with
  | zero =>
    intro i hi
    refine zgo hZ 4 60 rfl ?_
    refine ⟨2, by decide, rfl, fun hc => ?_, fun hc => ?_⟩
    · rw [show i = n by omega]
      exact k
    · exact absurd ((ile e rfl (by omega) (by omega)).mpr (by omega)) hc
  | succ d ih =>
    intro i hi
    refine zgo hZ 4 60 rfl ?_
    refine ⟨2, by decide, rfl, fun hc => ?_, fun hc => ?_⟩
    · have := (ile e rfl (by omega) (by omega)).mp hc
      omega
    · refine t_i2 hZ (by omega) ?_
      have h1 := ih (i + 1) (by omega)
      rw [← nI_1] at h1
      exact h1
theorem t_satOn {SM : zC} {SF : Nat → zQ → zP} (hZ : zZ SM SF) {Q : zQ} {x : zXs} {σ : zS} {r : zMr} {n : Nat} (hn : σ 8 2 = nI n) (h8 : n ≤ 8) (k : Q (some (.int (sset σ n))) (gh x (ec σ, r))) : SM mn_M_satOn [.ref 43] (gh x (ec σ, r)) Q := by
  refine zin hZ 4 60 rfl rfl rfl ?_
  exact t_satOn_l hZ hn h8 k n 0 (by omega)
/-- which couple comes first -/
def fc (σ : zS) : Int32 := if nc σ = 0 then -1 else nI (nd σ % nc σ)
theorem t_firstCouple {SM : zC} {SF : Nat → zQ → zP} (hZ : zZ SM SF) {Q : zQ} {x : zXs} {σ : zS} {r : zMr} {D : Nat} (hw : wf D σ) (hD : D ≤ 20000) (k : Q (some (.int (fc σ))) (gh x (ec σ, r))) : SM mn_M_firstCouple [.ref 43] (gh x (ec σ, r)) Q := by
  obtain ⟨-, ⟨d1, d2⟩, -, -, c1, c2⟩ := hw
  have e3 : (ec σ 3 : Int32) = nI (nc σ) := by rw [ec_c (by decide), ← c1]
  have e0 : (ec σ 0 : Int32) = nI (nd σ) := by rw [ec_c (by decide), ← d1]
  unfold fc at k
  refine zin hZ 999 60 rfl rfl rfl ?_
  refine ⟨3, by decide, rfl, fun h1 => ?_, fun h1 => ?_⟩
  · have h1' : ¬ nI (nc σ) = 0 := by rw [← e3]; exact h1
    have hz : nc σ ≠ 0 := fun z => h1' (by rw [z]; rfl)
    rw [if_neg hz] at k
    refine ⟨0, by decide, rfl, 3, by decide, rfl, h1, ?_⟩
    have e : (ec σ 0 : Int32) - ec σ 0 / ec σ 3 * ec σ 3 = nI (nd σ % nc σ) := by
      rw [e0, e3]
      exact pk_rem (by omega) (by omega) (by omega)
    rw [← e] at k
    exact k
  · have h1' : nI (nc σ) = 0 := by rw [← e3]; exact h1
    have hz : nc σ = 0 := by
      have := (nI_eq (a := nc σ) (b := 0) (by omega) (by omega)).mp h1'
      exact this
    rw [if_pos hz] at k
    exact k
set_option maxRecDepth 100000 in
set_option maxHeartbeats 400000 in
theorem t_charms {SM : zC} {SF : Nat → zQ → zP} (hZ : zZ SM SF) {Q : zQ} {x : zXs} {σ : zS} {r : zMr} {i c : Nat} (hi : i < 8) (hc : c < 8) (k : Q (some (.int (ch σ i c))) (gh x (ec σ, r))) : SM mn_M_charms [.ref 43, .int (nI i), .int (nI c)] (gh x (ec σ, r)) Q := by
  refine zin hZ 999 99 rfl rfl rfl ?_
  refine t_c0 hZ hc ?_
  refine t_i1 hZ hi ?_
  refine ⟨by decide, ?_⟩
  refine ⟨fun h1 => ⟨by decide, ?_⟩, fun h1 => ⟨by decide, ?_⟩⟩
  · refine t_i0 hZ hi ?_
    have h1 : 4 ≤ σ 5 c := h1
    unfold ch at k
    rw [if_neg (nlt_of h1)] at k
    refine ⟨fun g1 => ?_, fun g1 => ⟨fun g2 => ?_, fun g2 => ⟨fun g3 => ?_, fun g3 => ⟨fun g4 => ?_, fun g4 => ⟨fun g5 => ⟨1, by decide, rfl, by decide, ?_⟩, fun g5 => ?_⟩⟩⟩⟩⟩
    · rw [if_pos (show σ 0 i = 1 from g1)] at k; exact k
    · rw [if_neg (show ¬ σ 0 i = 1 from g1), if_pos (show σ 0 i = 2 from g2)] at k; exact k
    · rw [if_neg (show ¬ σ 0 i = 1 from g1), if_neg (show ¬ σ 0 i = 2 from g2), if_pos (show σ 0 i = 3 from g3)] at k; exact k
    · rw [if_neg (show ¬ σ 0 i = 1 from g1), if_neg (show ¬ σ 0 i = 2 from g2), if_neg (show ¬ σ 0 i = 3 from g3), if_pos (show σ 0 i = 4 from g4)] at k
      refine t_c2 hZ hc ?_
      refine ⟨fun g5 => ?_, fun g5 => ?_⟩
      · rw [if_neg (show ¬ σ 7 c = nI i from g5)] at k; exact k
      · rw [if_pos (show σ 7 c = nI i from g5)] at k; exact k
    · rw [if_neg (show ¬ σ 0 i = 1 from g1), if_neg (show ¬ σ 0 i = 2 from g2), if_neg (show ¬ σ 0 i = 3 from g3), if_neg (show ¬ σ 0 i = 4 from g4), if_pos (show σ 0 i = 5 from g5), ← ec_c (σ := σ) (k := 1) (by decide)] at k; exact k
    · rw [if_neg (show ¬ σ 0 i = 1 from g1), if_neg (show ¬ σ 0 i = 2 from g2), if_neg (show ¬ σ 0 i = 3 from g3), if_neg (show ¬ σ 0 i = 4 from g4), if_neg (show ¬ σ 0 i = 5 from g5)] at k; exact k
  · refine t_i0 hZ hi ?_
    have h1 : ¬ 4 ≤ σ 5 c := h1
    unfold ch at k
    rw [if_pos (lt_of h1)] at k
    refine ⟨fun g1 => ?_, fun g1 => ⟨fun g2 => ?_, fun g2 => ⟨fun g3 => ?_, fun g3 => ⟨fun g4 => ?_, fun g4 => ⟨fun g5 => ⟨1, by decide, rfl, by decide, ?_⟩, fun g5 => ?_⟩⟩⟩⟩⟩
    · rw [if_pos (show σ 0 i = 1 from g1)] at k; exact k
    · rw [if_neg (show ¬ σ 0 i = 1 from g1), if_pos (show σ 0 i = 2 from g2)] at k; exact k
    · rw [if_neg (show ¬ σ 0 i = 1 from g1), if_neg (show ¬ σ 0 i = 2 from g2), if_pos (show σ 0 i = 3 from g3)] at k; exact k
    · rw [if_neg (show ¬ σ 0 i = 1 from g1), if_neg (show ¬ σ 0 i = 2 from g2), if_neg (show ¬ σ 0 i = 3 from g3), if_pos (show σ 0 i = 4 from g4)] at k
      refine t_c2 hZ hc ?_
      refine ⟨fun g5 => ?_, fun g5 => ?_⟩
      · rw [if_neg (show ¬ σ 7 c = nI i from g5)] at k; exact k
      · rw [if_pos (show σ 7 c = nI i from g5)] at k; exact k
    · rw [if_neg (show ¬ σ 0 i = 1 from g1), if_neg (show ¬ σ 0 i = 2 from g2), if_neg (show ¬ σ 0 i = 3 from g3), if_neg (show ¬ σ 0 i = 4 from g4), if_pos (show σ 0 i = 5 from g5), ← ec_c (σ := σ) (k := 1) (by decide)] at k; exact k
    · rw [if_neg (show ¬ σ 0 i = 1 from g1), if_neg (show ¬ σ 0 i = 2 from g2), if_neg (show ¬ σ 0 i = 3 from g3), if_neg (show ¬ σ 0 i = 4 from g4), if_neg (show ¬ σ 0 i = 5 from g5)] at k; exact k
