/-! THE REFERENCE, first part: small methods -/
abbrev zXs : Type := zHl × zHl × zHl × Int32 × zTp × (Nat → zSh) × (Nat → Int32)
def gX (x : zXs) : zH := hX x.1 x.2.1 x.2.2.1 x.2.2.2.1 x.2.2.2.2.1 x.2.2.2.2.2.1 x.2.2.2.2.2.2
/-- what is kept, other; is one kept; tape, (taped, from, to, value, isWrong); bits, sizes, numbers, moved -/
abbrev zMq : Type := (Nat → Int32) × (Nat → Int32) × Int32 × (Nat → Int32) × zR × (Nat → Int32) × (Nat → Int32) × (Nat → Int64) × (Nat → Int64)
/-- aside, got, findings, and the rest -/
abbrev zMr : Type := (Nat → Int32) × (Nat → Int32) × (Nat → Int32) × zMq
abbrev zMs : Type := (Nat → Int32) × zMr
def gM (m : zMs) : zH := hM m.1 m.2.2.2.2.1 m.2.2.2.2.2.1 m.2.1 m.2.2.2.1 m.2.2.1 m.2.2.2.2.2.2.1 m.2.2.2.2.2.2.2.1 m.2.2.2.2.2.2.2.2.1 m.2.2.2.2.2.2.2.2.2.1 m.2.2.2.2.2.2.2.2.2.2.1 m.2.2.2.2.2.2.2.2.2.2.2.1 m.2.2.2.2.2.2.2.2.2.2.2.2
def gh (x : zXs) (m : zMs) : zH := gX x ++ gM m
-- numbers
theorem ile {a b : Int32} {m n : Nat} (ha : a = nI m) (hb : b = nI n) (hm : m < 2 ^ 31) (hn : n < 2 ^ 31) : a ≤ b ↔ m ≤ n := by rw [ha, hb]; exact nI_leI hm hn
theorem ilt {a b : Int32} {m n : Nat} (ha : a = nI m) (hb : b = nI n) (hm : m < 2 ^ 31) (hn : n < 2 ^ 31) : a < b ↔ m < n := by rw [ha, hb]; exact nI_ltI hm hn
theorem ieq {a b : Int32} {m n : Nat} (ha : a = nI m) (hb : b = nI n) (hm : m < 2 ^ 31) (hn : n < 2 ^ 31) : a = b ↔ m = n := by rw [ha, hb]; exact nI_eq hm hn
theorem lcmp_lt (x y : Int64) : lg_cmp x y < 0 ↔ x < y := by
  unfold lg_cmp
  by_cases h1 : y < x
  · simp only [h1, if_true]
    constructor
    · intro h; exact absurd h (by decide)
    · intro h; rw [Int64.lt_iff_toInt_lt] at h h1; omega
  · by_cases h2 : x = y
    · subst h2
      simp only [h1, if_true, if_false]
      constructor
      · intro h; exact absurd h (by decide)
      · intro h; exact h.elim
    · simp only [h1, h2, if_false]
      constructor
      · intro _
        rw [Int64.lt_iff_toInt_lt] at h1 ⊢
        have : x.toInt ≠ y.toInt := fun z => h2 (Int64.toInt_inj.mp z)
        omega
      · intro _; decide
theorem lcmp_gt (x y : Int64) : 0 < lg_cmp x y ↔ y < x := by
  unfold lg_cmp
  by_cases h1 : y < x
  · simp only [h1, if_true]
    constructor
    · intro _; trivial
    · intro _; decide
  · by_cases h2 : x = y
    · subst h2
      simp only [h1, if_true, if_false]
      constructor
      · intro h; exact absurd h (by decide)
      · intro h; exact h.elim
    · simp only [h1, h2, if_false]
      constructor
      · intro h; exact absurd h (by decide)
      · intro h; exact h.elim
theorem lcmp_eq (x y : Int64) : lg_cmp x y = 0 ↔ x = y := by
  unfold lg_cmp
  by_cases h1 : y < x
  · simp only [h1, if_true]
    constructor
    · intro h; exact absurd h (by decide)
    · intro h; subst h; rw [Int64.lt_iff_toInt_lt] at h1; omega
  · by_cases h2 : x = y
    · subst h2
      simp only [h1, if_true, if_false]
    · simp only [h1, h2, if_false]
      constructor
      · intro h; exact absurd h (by decide)
      · intro h; exact h.elim
theorem wide_le (a b : Int32) : a.toInt64 ≤ b.toInt64 ↔ a ≤ b := by
  rw [Int64.le_iff_toInt_le, Int32.toInt_toInt64, Int32.toInt_toInt64, Int32.le_iff_toInt_le]
theorem wide_lt (a b : Int32) : a.toInt64 < b.toInt64 ↔ a < b := by
  rw [Int64.lt_iff_toInt_lt, Int32.toInt_toInt64, Int32.toInt_toInt64, Int32.lt_iff_toInt_lt]
/-- one of the first n -/
def zIn (i : Int32) (n : Nat) : Prop := ∃ j, j < n ∧ i = nI j
theorem zIn_iff {i : Int32} {n : Nat} (hn : n ≤ 1000) : zIn i n ↔ 0 ≤ i ∧ i ≤ nI n - 1 := by
  have e0 : (0 : Int32).toInt = 0 := by decide
  have e1 : (1 : Int32).toInt = 1 := by decide
  have e2 : (nI n - 1).toInt = (n : Int) - 1 := by
    rw [zsub (by rw [nI_toInt (by omega), e1]; omega) (by rw [nI_toInt (by omega), e1]; omega), nI_toInt (by omega), e1]
  constructor
  · rintro ⟨j, hj, rfl⟩
    rw [zle, zle, e2, nI_toInt (by omega), e0]
    omega
  · rintro ⟨h1, h2⟩
    rw [zle, e0] at h1
    rw [zle, e2] at h2
    obtain ⟨j, hj, rfl⟩ := nI_of (x := i) (by rw [zlt, e0]; omega)
    rw [nI_toInt hj] at h2
    exact ⟨j, by omega, rfl⟩
-- the methods
theorem t_in {SM : zC} {SF : Nat → zQ → zP} (hZ : zZ SM SF) {Q : zQ} {h : zH} {v lo hi : Int64} (kt : lo ≤ v → v ≤ hi → Q (some (.int 1)) h) (kf : ¬ (lo ≤ v ∧ v ≤ hi) → Q (some (.int 0)) h) : SM mn_M_in [.long v, .long lo, .long hi] h Q := by
  refine zin hZ 999 50 rfl rfl rfl ?_
  refine ⟨fun h1 => ?_, fun h1 => ⟨fun h2 => ?_, fun h2 => ?_⟩⟩
  · rw [lcmp_lt] at h1
    exact ⟨Or.inl rfl, kf (fun z => by have := z.1; rw [Int64.le_iff_toInt_le] at this; rw [Int64.lt_iff_toInt_lt] at h1; omega)⟩
  · rw [lcmp_gt] at h2
    exact ⟨Or.inl rfl, kf (fun z => by have := z.2; rw [Int64.le_iff_toInt_le] at this; rw [Int64.lt_iff_toInt_lt] at h2; omega)⟩
  · rw [lcmp_lt] at h1
    rw [lcmp_gt] at h2
    exact ⟨Or.inr rfl, kt (by rw [Int64.le_iff_toInt_le]; rw [Int64.lt_iff_toInt_lt] at h1; omega) (by rw [Int64.le_iff_toInt_le]; rw [Int64.lt_iff_toInt_lt] at h2; omega)⟩
/-- of ints -/
theorem t_inI {SM : zC} {SF : Nat → zQ → zP} (hZ : zZ SM SF) {Q : zQ} {h : zH} {v lo hi : Int64} (x a b : Int32) (ex : v = x.toInt64) (ea : lo = a.toInt64) (eb : hi = b.toInt64) (kt : a ≤ x → x ≤ b → Q (some (.int 1)) h) (kf : ¬ (a ≤ x ∧ x ≤ b) → Q (some (.int 0)) h) : SM mn_M_in [.long v, .long lo, .long hi] h Q := by
  subst ex; subst ea; subst eb
  refine t_in hZ (fun h1 h2 => ?_) (fun h1 => ?_)
  · exact kt ((wide_le _ _).mp h1) ((wide_le _ _).mp h2)
  · exact kf (fun z => h1 ⟨(wide_le _ _).mpr z.1, (wide_le _ _).mpr z.2⟩)
theorem t_finds {SM : zC} {SF : Nat → zQ → zP} (hZ : zZ SM SF) {Q : zQ} {x : zXs} {s as g F : Nat → Int32} {q : zMq} {f : Int32} (j : Nat) (hj : j < 7) (e : -1000000001 - f = nI j) (k : Q (some (.int f)) (gh x (s, as, g, upd F j (F j + 1), q))) : SM mn_M_finds [.ref 43, .int f] (gh x (s, as, g, F, q)) Q := by
  refine zin hZ 999 50 rfl rfl rfl ?_
  exact ⟨j, hj, e, j, hj, e, k⟩
theorem t_becomes {SM : zC} {SF : Nat → zQ → zP} (hZ : zZ SM SF) {Q : zQ} {x : zXs} {s : Nat → Int32} {r : zMr} {v : Int32} {w : Nat} (hw : w < 68) (k : Q (some (.int (s w))) (gh x (upd s w v, r))) : SM mn_M_becomes [.ref 43, .int (nI w), .int v] (gh x (s, r)) Q := by
  refine zin hZ 999 50 rfl rfl rfl ?_
  exact ⟨w, hw, rfl, w, hw, rfl, k⟩
theorem t_spot {SM : zC} {SF : Nat → zQ → zP} (hZ : zZ SM SF) {Q : zQ} {h : zH} {i w : Nat} (k : Q (some (.int (nI (4 + 5 * i + w)))) h) : SM mn_M_spot [.int (nI i), .int (nI w)] h Q := by
  refine zin hZ 999 50 rfl rfl rfl ?_
  have e : (4 : Int32) + 5 * nI i + nI w = nI (4 + 5 * i + w) := by rw [show (4 : Int32) = nI 4 from rfl, show (5 : Int32) = nI 5 from rfl, pk_mul, nI_add, nI_add]
  show Q (some (.int (4 + 5 * nI i + nI w))) h
  rw [e]
  exact k
theorem t_cspot {SM : zC} {SF : Nat → zQ → zP} (hZ : zZ SM SF) {Q : zQ} {h : zH} {i w : Nat} (k : Q (some (.int (nI (44 + 3 * i + w)))) h) : SM mn_M_coupleSpot [.int (nI i), .int (nI w)] h Q := by
  refine zin hZ 999 50 rfl rfl rfl ?_
  have e : (44 : Int32) + 3 * nI i + nI w = nI (44 + 3 * i + w) := by rw [show (44 : Int32) = nI 44 from rfl, show (3 : Int32) = nI 3 from rfl, pk_mul, nI_add, nI_add]
  show Q (some (.int (44 + 3 * nI i + nI w))) h
  rw [e]
  exact k
theorem t_its {SM : zC} {SF : Nat → zQ → zP} (hZ : zZ SM SF) {Q : zQ} {x : zXs} {σ : zS} {r : zMr} {i w : Nat} (hi : i < 8) (hw : w < 5) (k : Q (some (.int (σ w i))) (gh x (ec σ, r))) : SM mn_M_its [.ref 43, .int (nI i), .int (nI w)] (gh x (ec σ, r)) Q := by
  refine zin hZ 999 50 rfl rfl rfl ?_
  refine t_spot hZ ?_
  refine ⟨4 + 5 * i + w, by omega, rfl, ?_⟩
  rw [← ec_i (σ := σ) hi hw] at k
  exact k
theorem t_theirs {SM : zC} {SF : Nat → zQ → zP} (hZ : zZ SM SF) {Q : zQ} {x : zXs} {σ : zS} {r : zMr} {c w : Nat} (hc : c < 8) (hw : w < 3) (k : Q (some (.int (σ (5 + w) c))) (gh x (ec σ, r))) : SM mn_M_theirs [.ref 43, .int (nI c), .int (nI w)] (gh x (ec σ, r)) Q := by
  refine zin hZ 999 50 rfl rfl rfl ?_
  refine t_cspot hZ ?_
  refine ⟨44 + 3 * c + w, by omega, rfl, ?_⟩
  rw [← ec_p (σ := σ) (c := c) hw] at k
  exact k
theorem t_isInlaw {SM : zC} {SF : Nat → zQ → zP} (hZ : zZ SM SF) {Q : zQ} {x : zXs} {σ : zS} {r : zMr} {i : Int32} {n : Nat} (hn : σ 8 2 = nI n) (h8 : n ≤ 8) (kt : zIn i n → Q (some (.int 1)) (gh x (ec σ, r))) (kf : ¬ zIn i n → Q (some (.int 0)) (gh x (ec σ, r))) : SM mn_M_isInlaw [.ref 43, .int i] (gh x (ec σ, r)) Q := by
  refine zin hZ 999 50 rfl rfl rfl ?_
  refine ⟨2, by decide, rfl, ?_⟩
  have e : (ec σ 2 : Int32) = nI n := by rw [ec_c (by decide), hn]
  refine t_inI hZ i 0 (nI n - 1) rfl (by decide) (by rw [← e]) (fun h1 h2 => ⟨Or.inr rfl, kt ((zIn_iff (by omega)).mpr ⟨h1, h2⟩)⟩) (fun h1 => ⟨Or.inl rfl, kf (fun z => h1 ((zIn_iff (by omega)).mp z))⟩)
theorem t_isCouple {SM : zC} {SF : Nat → zQ → zP} (hZ : zZ SM SF) {Q : zQ} {x : zXs} {σ : zS} {r : zMr} {i : Int32} {n : Nat} (hn : σ 8 3 = nI n) (h8 : n ≤ 8) (kt : zIn i n → Q (some (.int 1)) (gh x (ec σ, r))) (kf : ¬ zIn i n → Q (some (.int 0)) (gh x (ec σ, r))) : SM mn_M_isCouple [.ref 43, .int i] (gh x (ec σ, r)) Q := by
  refine zin hZ 999 50 rfl rfl rfl ?_
  refine ⟨3, by decide, rfl, ?_⟩
  have e : (ec σ 3 : Int32) = nI n := by rw [ec_c (by decide), hn]
  refine t_inI hZ i 0 (nI n - 1) rfl (by decide) (by rw [← e]) (fun h1 h2 => ⟨Or.inr rfl, kt ((zIn_iff (by omega)).mpr ⟨h1, h2⟩)⟩) (fun h1 => ⟨Or.inl rfl, kf (fun z => h1 ((zIn_iff (by omega)).mp z))⟩)
theorem t_isKind {SM : zC} {SF : Nat → zQ → zP} (hZ : zZ SM SF) {Q : zQ} {h : zH} {i : Int32} (kt : 0 ≤ i → i ≤ 5 → Q (some (.int 1)) h) (kf : ¬ (0 ≤ i ∧ i ≤ 5) → Q (some (.int 0)) h) : SM mn_M_isKind [.int i] h Q := by
  refine zin hZ 999 50 rfl rfl rfl ?_
  exact t_inI hZ i 0 5 rfl (by decide) (by decide) (fun h1 h2 => ⟨Or.inr rfl, kt h1 h2⟩) (fun h1 => ⟨Or.inl rfl, kf h1⟩)
theorem t_held {SM : zC} {SF : Nat → zQ → zP} (hZ : zZ SM SF) {Q : zQ} {h : zH} {v lo hi : Int32} (k : Q (some (.int (hd3 v lo hi))) h) : SM mn_M_held [.int v, .int lo, .int hi] h Q := by
  refine zin hZ 999 50 rfl rfl rfl ?_
  unfold hd3 at k
  refine ⟨fun h1 => ⟨fun h2 => ?_, fun h2 => ?_⟩, fun h1 => ?_⟩
  · rw [if_neg (fun z : v < lo => by rw [zlt] at z; rw [zle] at h1; omega), if_neg (fun z : hi < v => by rw [zlt] at z; rw [zle] at h2; omega)] at k
    exact k
  · rw [if_neg (fun z : v < lo => by rw [zlt] at z; rw [zle] at h1; omega), if_pos (by rw [zlt]; rw [zle] at h2; omega)] at k
    exact k
  · rw [if_pos (by rw [zlt]; rw [zle] at h1; omega)] at k
    exact k
theorem t_together_l {SM : zC} {SF : Nat → zQ → zP} (hZ : zZ SM SF) {Q : zQ} {x : zXs} {σ : zS} {r : zMr} {w n : Nat} (hn : σ 8 2 = nI n) (h8 : n ≤ 8) (hw : w < 5) (k : Q (some (.int (zsum (σ w) n))) (gh x (ec σ, r))) : ∀ d i, i + d = n → SF mn_M_together Q 4 [some (.ref 43), some (.int (nI w)), some (.int (zsum (σ w) i)), some (.int (nI i))] [] (0, 0) (gh x (ec σ, r)) := by
  have e : (ec σ 2 : Int32) = nI n := by rw [ec_c (by decide), hn]
  intro d
  induction d with
  | zero =>
    intro i hi
    refine zgo hZ 4 60 rfl ?_
    refine ⟨2, by decide, rfl, fun hc => ?_, fun hc => ?_⟩
    · rw [show i = n by omega]
      exact k
    · exact absurd ((ile e rfl (by omega) (by omega)).mpr (by omega)) hc
  | succ d ih =>
    intro i hi
    refine zgo hZ 4 60 rfl ?_
    refine ⟨2, by decide, rfl, fun hc => ?_, fun hc => ?_⟩
    · have := (ile e rfl (by omega) (by omega)).mp hc
      omega
    · refine t_its hZ (by omega) hw ?_
      have h1 := ih (i + 1) (by omega)
      rw [← nI_1] at h1
      exact h1
theorem t_together {SM : zC} {SF : Nat → zQ → zP} (hZ : zZ SM SF) {Q : zQ} {x : zXs} {σ : zS} {r : zMr} {w n : Nat} (hn : σ 8 2 = nI n) (h8 : n ≤ 8) (hw : w < 5) (k : Q (some (.int (zsum (σ w) n))) (gh x (ec σ, r))) : SM mn_M_together [.ref 43, .int (nI w)] (gh x (ec σ, r)) Q := by
  refine zin hZ 4 60 rfl rfl rfl ?_
  exact t_together_l hZ hn h8 hw k n 0 (by omega)
