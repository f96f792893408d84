/-! WHAT AN INSTITUTE DOES, as functions (no machine here) -/
abbrev zZ (SM : zC) (SF : Nat → zQ → zP) : Prop := zCl zm_tab zm_nl SM SF
theorem s2_s (σ : zS) (f i : Nat) (v : Int32) : s2 σ f i v f = upd (σ f) i v := by
  unfold s2
  rw [show Nat.beq f f = true from Nat.beq_refl f]
  rfl
theorem s2_n (σ : zS) {f g i : Nat} (h : g ≠ f) (v : Int32) : s2 σ f i v g = σ g := by
  unfold s2
  cases hb : Nat.beq g f with
  | true => exact absurd (Nat.eq_of_beq_eq_true hb) h
  | false => rfl
theorem s2_at (σ : zS) (f i : Nat) (v : Int32) : s2 σ f i v f i = v := by rw [s2_s]; simp [upd]
theorem s2_o (σ : zS) {f g i j : Nat} (h : g ≠ f ∨ j ≠ i) (v : Int32) : s2 σ f i v g j = σ g j := by
  by_cases hg : g = f
  · subst hg
    rw [s2_s]
    have hj : j ≠ i := by
      rcases h with h | h
      · exact absurd rfl h
      · exact h
    simp [upd, hj]
  · rw [s2_n σ hg]
-- the row of 68
theorem ec_c {σ : zS} {k : Nat} (h : k < 4) : ec σ k = σ 8 k := by unfold ec; rw [if_pos h]
theorem ec_i {σ : zS} {i w : Nat} (hi : i < 8) (hw : w < 5) : ec σ (4 + 5 * i + w) = σ w i := by
  unfold ec
  rw [if_neg (by omega), if_pos (by omega), show (4 + 5 * i + w - 4) % 5 = w by omega, show (4 + 5 * i + w - 4) / 5 = i by omega]
theorem ec_p {σ : zS} {c w : Nat} (hw : w < 3) : ec σ (44 + 3 * c + w) = σ (5 + w) c := by
  unfold ec
  rw [if_neg (by omega), if_neg (by omega), show (44 + 3 * c + w - 44) % 3 = w by omega, show (44 + 3 * c + w - 44) / 3 = c by omega]
theorem ec_uc (σ : zS) {k : Nat} (h : k < 4) (v : Int32) : upd (ec σ) k v = ec (s2 σ 8 k v) := by
  funext j
  unfold upd ec
  by_cases hj : j = k
  · subst hj
    rw [if_pos rfl, if_pos h, s2_at]
  · rw [if_neg hj]
    by_cases h4 : j < 4
    · rw [if_pos h4, if_pos h4, s2_o σ (Or.inr hj)]
    · rw [if_neg h4, if_neg h4]
      by_cases h5 : j < 44
      · rw [if_pos h5, if_pos h5, s2_o σ (Or.inl (by omega))]
      · rw [if_neg h5, if_neg h5, s2_o σ (Or.inl (by omega))]
theorem ec_ui (σ : zS) {i w : Nat} (hi : i < 8) (hw : w < 5) (v : Int32) : upd (ec σ) (4 + 5 * i + w) v = ec (s2 σ w i v) := by
  funext j
  unfold upd
  by_cases hj : j = 4 + 5 * i + w
  · subst hj
    rw [if_pos rfl, ec_i hi hw, s2_at]
  · rw [if_neg hj]
    unfold ec
    by_cases h4 : j < 4
    · rw [if_pos h4, if_pos h4, s2_o σ (Or.inl (by omega))]
    · rw [if_neg h4, if_neg h4]
      by_cases h5 : j < 44
      · rw [if_pos h5, if_pos h5, s2_o σ (by omega)]
      · rw [if_neg h5, if_neg h5, s2_o σ (Or.inl (by omega))]
theorem ec_up (σ : zS) {c w : Nat} (hw : w < 3) (v : Int32) : upd (ec σ) (44 + 3 * c + w) v = ec (s2 σ (5 + w) c v) := by
  funext j
  unfold upd
  by_cases hj : j = 44 + 3 * c + w
  · subst hj
    rw [if_pos rfl, ec_p hw, s2_at]
  · rw [if_neg hj]
    unfold ec
    by_cases h4 : j < 4
    · rw [if_pos h4, if_pos h4, s2_o σ (Or.inl (by omega))]
    · rw [if_neg h4, if_neg h4]
      by_cases h5 : j < 44
      · rw [if_pos h5, if_pos h5, s2_o σ (Or.inl (by omega))]
      · rw [if_neg h5, if_neg h5, s2_o σ (by omega)]
-- numbers
theorem zlt (a b : Int32) : a < b ↔ a.toInt < b.toInt := Int32.lt_iff_toInt_lt
theorem zle (a b : Int32) : a ≤ b ↔ a.toInt ≤ b.toInt := Int32.le_iff_toInt_le
theorem zeq (a b : Int32) : a = b ↔ a.toInt = b.toInt := Int32.toInt_inj.symm
theorem zrng (x : Int32) : -2147483648 ≤ x.toInt ∧ x.toInt < 2147483648 := by
  have h1 := Int32.le_toInt x
  have h2 := Int32.toInt_lt x
  omega
theorem zadd {x y : Int32} (h1 : -2147483648 ≤ x.toInt + y.toInt) (h2 : x.toInt + y.toInt < 2147483648) : (x + y).toInt = x.toInt + y.toInt := by
  rw [Int32.toInt_add]
  exact Int.bmod_eq_of_le (by omega) (by omega)
theorem zsub {x y : Int32} (h1 : -2147483648 ≤ x.toInt - y.toInt) (h2 : x.toInt - y.toInt < 2147483648) : (x - y).toInt = x.toInt - y.toInt := by
  rw [Int32.toInt_sub]
  exact Int.bmod_eq_of_le (by omega) (by omega)
/-- held to a range -/
def hd3 (v lo hi : Int32) : Int32 := if v < lo then lo else if hi < v then hi else v
theorem hd3_rng (v : Int32) {lo hi : Int32} (h : lo ≤ hi) : lo.toInt ≤ (hd3 v lo hi).toInt ∧ (hd3 v lo hi).toInt ≤ hi.toInt := by
  rw [zle] at h
  unfold hd3
  by_cases h1 : v < lo
  · rw [if_pos h1]; omega
  · rw [if_neg h1]
    by_cases h2 : hi < v
    · rw [if_pos h2]; omega
    · rw [if_neg h2]
      rw [zlt] at h1 h2
      omega
/-- the class's way to hold -/
theorem hold_eq (v : Int32) {lo hi : Int32} (h : lo ≤ hi) : (if lo < (if hi < v then hi else v) then (if hi < v then hi else v) else lo) = hd3 v lo hi := by
  unfold hd3
  rw [zle] at h
  by_cases h2 : hi < v
  · rw [if_pos h2]
    rw [zlt] at h2
    rw [if_neg (fun z : v < lo => by rw [zlt] at z; omega)]
    by_cases h3 : lo < hi
    · rw [if_pos h3]
    · rw [if_neg h3]
      rw [zlt] at h3
      rw [zeq]; omega
  · rw [if_neg h2]
    by_cases h1 : v < lo
    · rw [if_pos h1]
      rw [zlt] at h1
      rw [if_neg (fun z : lo < v => by rw [zlt] at z; omega)]
    · rw [if_neg h1]
      by_cases h3 : lo < v
      · rw [if_pos h3]
      · rw [if_neg h3]
        rw [zlt] at h1 h3
        rw [zeq]; omega
theorem min_eq {v : Int32} {hi : Int32} (h0 : 0 ≤ v) : (if hi < v then hi else v) = hd3 v 0 hi := by
  unfold hd3
  rw [if_neg (fun z : v < 0 => by rw [zlt] at z; rw [zle] at h0; omega)]
/-- a sum -/
def zsum (f : Nat → Int32) : Nat → Int32
  | 0 => 0
  | n + 1 => zsum f n + f n
-- how many in-laws, couples, which Sunday
def nn (σ : zS) : Nat := (σ 8 2).toNatClampNeg
def nc (σ : zS) : Nat := (σ 8 3).toNatClampNeg
def nd (σ : zS) : Nat := (σ 8 0).toNatClampNeg
/-- is an in-law free, by the set of those that are taken -/
abbrev fr (t : Int32) (i : Nat) : Prop := t &&& ((1 : Int32) <<< (nI i &&& 31)) = 0
/-- CHARMS -/
def ch (σ : zS) (i c : Nat) : Int32 :=
  if σ 0 i = 1 then (if σ 5 c < 4 then σ 1 i / 10 + 3 else σ 1 i / 10)
  else if σ 0 i = 2 then σ 1 i / 10 + σ 5 c / 2
  else if σ 0 i = 3 then 4
  else if σ 0 i = 4 then (if σ 7 c = nI i then (if σ 5 c < 4 then σ 1 i / 10 + 3 else σ 1 i / 10) + 7 else (if σ 5 c < 4 then σ 1 i / 10 + 3 else σ 1 i / 10) - 2)
  else if σ 0 i = 5 then σ 1 i / 10 + σ 5 c / 2 + σ 8 1 / 5
  else σ 1 i / 10
/-- DOES -/
def dz (σ : zS) (i c : Nat) : Int32 :=
  if σ 0 i = 1 then (if 7 ≤ σ 5 c then 1 else 2)
  else if σ 0 i = 2 then (if 10 ≤ σ 8 1 then 3 else 2)
  else if σ 0 i = 3 then 0
  else if σ 0 i = 4 then (if 60 ≤ σ 1 i then 12 else -4)
  else if σ 0 i = 5 then (if 10 ≤ σ 8 1 then 3 else 2) + 2
  else 2
/-- THAWS -/
def th (σ : zS) (i c : Nat) : Int32 :=
  if σ 0 i = 1 then 3 - σ 5 c / 3
  else if σ 0 i = 3 then 1
  else if σ 0 i = 4 then 3 - σ 5 c / 3 - 2
  else if σ 0 i = 5 then 6
  else 3
/-- CHILLS -/
def cl (σ : zS) (i : Nat) : Int32 :=
  if σ 0 i = 1 then 4
  else if σ 0 i = 2 then 2 - σ 8 1 / 10
  else if σ 0 i = 3 then 0
  else if σ 0 i = 4 then 4
  else if σ 0 i = 5 then (if 0 < 2 - σ 8 1 / 10 then 2 - σ 8 1 / 10 - 1 else 0)
  else 2
/-- whom a couple gets, of the first i -/
def pk (σ : zS) (c : Nat) (t : Int32) : Nat → Int32
  | 0 => -1
  | i + 1 => if (fr t i ∧ σ 2 i = 0) ∧ (pk σ c t i = -1 ∨ ch σ (pk σ c t i).toNatClampNeg c < ch σ i c) then nI i else pk σ c t i
/-- a couple has one -/
def hs (σ : zS) (c i : Nat) : zS :=
  s2 (s2 (s2 (s2 σ 6 c (hd3 (σ 6 c + dz σ i c) (-999) 999)) 7 c (nI i)) 4 i (hd3 (σ 4 i + 1) 0 9999)) 1 i (hd3 (σ 1 i + th σ i c) 0 99)
/-- a couple comes -/
def rc (H : zHl) (c : Nat) : zHl :=
  if pk H.1 c H.2.2 (nn H.1) = -1 then (s2 H.1 6 c (hd3 (H.1 6 c - 1) (-999) 999), upd H.2.1 c (-1), H.2.2)
  else (hs H.1 c (pk H.1 c H.2.2 (nn H.1)).toNatClampNeg, upd H.2.1 c (pk H.1 c H.2.2 (nn H.1)), H.2.2 ||| ((1 : Int32) <<< (pk H.1 c H.2.2 (nn H.1) &&& 31)))
/-- the first k couples -/
def csu (H : zHl) : Nat → zHl
  | 0 => (H.1, H.2.1, 0)
  | k + 1 => rc (csu H k) ((nd H.1 + k) % nc H.1)
/-- one that nobody had -/
def al1 (H : zHl) (i : Nat) : zHl :=
  if fr H.2.2 i then (s2 (s2 H.1 3 i (hd3 (H.1 3 i + 1) 0 9999)) 1 i (hd3 (H.1 1 i - cl H.1 i) 0 99), H.2) else H
def als (H : zHl) : Nat → zHl
  | 0 => H
  | i + 1 => al1 (als H i) i
/-- a Sunday -/
def su (H : zHl) : zHl := (s2 (als (csu H (nc H.1)) (nn H.1)).1 8 0 ((als (csu H (nc H.1)) (nn H.1)).1 8 0 + 1), (als (csu H (nc H.1)) (nn H.1)).2)
def sus (H : zHl) : Nat → zHl
  | 0 => H
  | n + 1 => su (sus H n)
-- what always holds of an institute (D: how late it may be)
def wfi (σ : zS) (i : Nat) : Prop :=
  (0 ≤ (σ 0 i).toInt ∧ (σ 0 i).toInt ≤ 5) ∧ (0 ≤ (σ 1 i).toInt ∧ (σ 1 i).toInt ≤ 99) ∧ (0 ≤ (σ 2 i).toInt ∧ (σ 2 i).toInt ≤ 1) ∧ (0 ≤ (σ 3 i).toInt ∧ (σ 3 i).toInt ≤ 9999) ∧ (0 ≤ (σ 4 i).toInt ∧ (σ 4 i).toInt ≤ 9999) ∧
  (0 ≤ (σ 5 i).toInt ∧ (σ 5 i).toInt ≤ 9) ∧ (-999 ≤ (σ 6 i).toInt ∧ (σ 6 i).toInt ≤ 999) ∧ (-1 ≤ (σ 7 i).toInt ∧ (σ 7 i).toInt ≤ 7)
def wf (D : Nat) (σ : zS) : Prop := (∀ i, i < 8 → wfi σ i) ∧ (σ 8 0 = nI (nd σ) ∧ nd σ ≤ D) ∧ (0 ≤ (σ 8 1).toInt ∧ (σ 8 1).toInt ≤ 20) ∧ (σ 8 2 = nI (nn σ) ∧ nn σ ≤ 8) ∧ (σ 8 3 = nI (nc σ) ∧ nc σ ≤ 8)
theorem upd_at (f : Nat → Int32) (i : Nat) (v : Int32) : upd f i v i = v := by simp [upd]
theorem upd_o (f : Nat → Int32) {i j : Nat} (h : j ≠ i) (v : Int32) : upd f i v j = f j := by simp [upd, h]
/-- a row of bounds, by field -/
def bnd (f : Nat) : Int × Int := match f with
  | 0 => (0, 5)
  | 1 => (0, 99)
  | 2 => (0, 1)
  | 3 => (0, 9999)
  | 4 => (0, 9999)
  | 5 => (0, 9)
  | 6 => (-999, 999)
  | _ => (-1, 7)
theorem wfi_iff (σ : zS) (i : Nat) : wfi σ i ↔ ∀ f, f < 8 → (bnd f).1 ≤ (σ f i).toInt ∧ (σ f i).toInt ≤ (bnd f).2 := by
  constructor
  · intro h f hf
    obtain ⟨a0, a1, a2, a3, a4, a5, a6, a7⟩ := h
    match f, hf with
    | 0, _ => exact a0
    | 1, _ => exact a1
    | 2, _ => exact a2
    | 3, _ => exact a3
    | 4, _ => exact a4
    | 5, _ => exact a5
    | 6, _ => exact a6
    | 7, _ => exact a7
  · intro h
    exact ⟨h 0 (by omega), h 1 (by omega), h 2 (by omega), h 3 (by omega), h 4 (by omega), h 5 (by omega), h 6 (by omega), h 7 (by omega)⟩
theorem wf_s2 {D : Nat} {σ : zS} (h : wf D σ) {f i : Nat} {v : Int32} (hf : f < 8) (hv : (bnd f).1 ≤ v.toInt ∧ v.toInt ≤ (bnd f).2) : wf D (s2 σ f i v) := by
  obtain ⟨h1, h2⟩ := h
  have e : s2 σ f i v 8 = σ 8 := s2_n σ (by omega) v
  refine ⟨fun j hj => ?_, ?_⟩
  · rw [wfi_iff]
    intro g hg
    by_cases hgf : g = f ∧ j = i
    · obtain ⟨rfl, rfl⟩ := hgf
      rw [s2_at]
      exact hv
    · rw [s2_o σ (by omega)]
      exact (wfi_iff σ j).mp (h1 j hj) g hg
  · unfold nd nn nc at *
    rw [e]
    exact h2
