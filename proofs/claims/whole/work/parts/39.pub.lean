/-! WHAT EACH CALL ANSWERS AND LEAVES (institute and findings): answer, institute, findings -/
abbrev zA3 : Type := Int32 × zS × (Nat → Int32)
def bey (σ : zS) (F : Nat → Int32) : zA3 := (-1000000001, σ, upd F 0 (F 0 + 1))
def fnx (c : Int32) (j : Nat) (σ : zS) (F : Nat → Int32) : zA3 := (c, σ, upd F j (F j + 1))
abbrev inI (σ : zS) (i : Int32) : Prop := 0 ≤ i ∧ i < σ 8 2
abbrev inC (σ : zS) (c : Int32) : Prop := 0 ≤ c ∧ c < σ 8 3
abbrev ix (i : Int32) : Nat := i.toNatClampNeg
theorem zIn_lt {i : Int32} {n : Nat} (hn : n ≤ 1000) : zIn i n ↔ 0 ≤ i ∧ i < nI n := by
  have e0 : (0 : Int32).toInt = 0 := by decide
  constructor
  · rintro ⟨j, hj, rfl⟩
    rw [zle, zlt, nI_toInt (by omega), nI_toInt (by omega), e0]
    omega
  · rintro ⟨h1, h2⟩
    rw [zle, e0] at h1
    obtain ⟨j, hj, rfl⟩ := nI_of (x := i) (by rw [zlt, e0]; omega)
    rw [zlt, nI_toInt hj, nI_toInt (by omega)] at h2
    exact ⟨j, by omega, rfl⟩
theorem inI_iff {D : Nat} {σ : zS} (h : wf D σ) (i : Int32) : inI σ i ↔ zIn i (nn σ) := by
  have h8 := h.2.2.2.1.2
  unfold inI
  rw [h.2.2.2.1.1, zIn_lt (by omega)]
theorem inC_iff {D : Nat} {σ : zS} (h : wf D σ) (i : Int32) : inC σ i ↔ zIn i (nc σ) := by
  have h8 := h.2.2.2.2.2
  unfold inC
  rw [h.2.2.2.2.1, zIn_lt (by omega)]
def sp_fire (σ : zS) (F : Nat → Int32) (v : Int32) : zA3 := if 0 ≤ v ∧ v ≤ 20 then (σ 8 1, s2 σ 8 1 v, F) else bey σ F
def sp_now (σ : zS) (F : Nat → Int32) (w : Int32) : zA3 :=
  if w = 0 then (σ 8 0, σ, F) else if w = 1 then (σ 8 1, σ, F) else if w = 2 then (fc σ, σ, F) else if w = 3 then (sset σ (nn σ), σ, F)
  else if w = 4 then (10000 + zsum (σ 6) (nc σ), σ, F) else if w = 5 then (zsum (σ 1) (nn σ), σ, F) else bey σ F
/-- one more in-law, one more couple -/
def addI (σ : zS) (kd : Int32) : zS := s2 (s2 (s2 (s2 (s2 (s2 σ 8 2 (nI (nn σ + 1))) 0 (nn σ) kd) 1 (nn σ) 40) 2 (nn σ) 0) 3 (nn σ) 0) 4 (nn σ) 0
def addC (σ : zS) (ld : Int32) : zS := s2 (s2 (s2 (s2 σ 8 3 (nI (nc σ + 1))) 5 (nc σ) ld) 6 (nc σ) 0) 7 (nc σ) (-1)
def sp_inlaw (σ : zS) (F : Nat → Int32) (kd : Int32) : zA3 :=
  if 0 ≤ kd ∧ kd ≤ 5 then (if nn σ = 8 then fnx (-1000000002) 1 σ F else (nI (nn σ), addI σ kd, F)) else bey σ F
def sp_of (σ : zS) (F : Nat → Int32) (i w : Int32) : zA3 :=
  if inI σ i ∧ (0 ≤ w ∧ w ≤ 5) then ((if w = 5 then cl σ (ix i) else σ (ix w) (ix i)), σ, F) else bey σ F
def sp_with (σ : zS) (F : Nat → Int32) (i c w : Int32) : zA3 :=
  if inI σ i ∧ inC σ c ∧ (0 ≤ w ∧ w ≤ 2) then ((if w = 0 then ch σ (ix i) (ix c) else if w = 1 then 100 + dz σ (ix i) (ix c) else 100 + th σ (ix i) (ix c)), σ, F) else bey σ F
def sp_set (σ : zS) (F : Nat → Int32) (i w v : Int32) : zA3 :=
  if inI σ i ∧ (1 ≤ w ∧ w ≤ 4) ∧ (0 ≤ v ∧ v ≤ (if w = 1 then 99 else if w = 2 then 1 else 9999)) then (σ (ix w) (ix i), s2 σ (ix w) (ix i) v, F) else bey σ F
def sp_turn (σ : zS) (F : Nat → Int32) (i kd : Int32) : zA3 :=
  if inI σ i ∧ (0 ≤ kd ∧ kd ≤ 5) then (σ 0 (ix i), s2 σ 0 (ix i) kd, F) else bey σ F
abbrev undr (kd of : Int32) : Prop := of = 0 ∨ kd = of ∨ (kd = 4 ∧ of = 1) ∨ (kd = 5 ∧ of = 2)
def sp_as (σ : zS) (F : Nat → Int32) (i kd : Int32) : zA3 :=
  if inI σ i ∧ (0 ≤ kd ∧ kd ≤ 5) then (if undr (σ 0 (ix i)) kd then (σ 1 (ix i), σ, F) else fnx (-1000000003) 2 σ F) else bey σ F
def sp_couple (σ : zS) (F : Nat → Int32) (ld : Int32) : zA3 :=
  if 0 ≤ ld ∧ ld ≤ 9 then (if nc σ = 8 then fnx (-1000000002) 1 σ F else (nI (nc σ), addC σ ld, F)) else bey σ F
def sp_coupleOf (σ : zS) (F : Nat → Int32) (c w : Int32) : zA3 :=
  if inC σ c ∧ (0 ≤ w ∧ w ≤ 3) then ((if w = 3 then gg σ 1 (ix c) else if w = 1 then 10000 + σ 6 (ix c) else σ (5 + ix w) (ix c)), σ, F) else bey σ F
def sp_give (σ : zS) (F : Nat → Int32) (c w v : Int32) : zA3 :=
  if inC σ c ∧ ((w = 0 ∧ 0 ≤ v ∧ v ≤ 9) ∨ (w = 1 ∧ -999 ≤ v ∧ v ≤ 999) ∨ (w = 2 ∧ -1 ≤ v ∧ v ≤ σ 8 2 - 1)) then (σ (5 + ix w) (ix c), s2 σ (5 + ix w) (ix c) v, F) else bey σ F
def sp_sundays (σ : zS) (F : Nat → Int32) (n : Int32) : zA3 :=
  if 1 ≤ n ∧ n ≤ 60 then (if 9999 < σ 8 0 + n then fnx (-1000000005) 4 σ F else (zsum (sg σ (ix n) 1) (nn σ), sg σ (ix n), F)) else bey σ F
def sp_on (σ : zS) (F : Nat → Int32) (c n w : Int32) : zA3 :=
  if inC σ c ∧ (0 ≤ n ∧ n ≤ 100) ∧ (0 ≤ w ∧ w ≤ 1) then (sg σ (ix n) (6 + ix w) (ix c), σ, F) else bey σ F
def sp_then (σ : zS) (F : Nat → Int32) (i n w : Int32) : zA3 :=
  if inI σ i ∧ (0 ≤ n ∧ n ≤ 100) ∧ (0 ≤ w ∧ w ≤ 2) then ((if w = 0 then sg σ (ix n) 1 (ix i) else if w = 1 then sg σ (ix n) 3 (ix i) else sg σ (ix n) 4 (ix i)), σ, F) else bey σ F
/-- the first of a, a + 1, .. (d of them) for which p; a + d if none -/
def fst1 (p : Nat → Bool) : Nat → Nat → Nat
  | a, 0 => a
  | a, d + 1 => if p a = true then a else fst1 p (a + 1) d
def sp_meets (σ : zS) (F : Nat → Int32) (c i : Int32) : zA3 :=
  if inC σ c ∧ inI σ i then (if fst1 (fun n => decide (gg σ n (ix c) = i)) 1 100 = 101 then fnx (-1000000004) 3 σ F else (nI (fst1 (fun n => decide (gg σ n (ix c) = i)) 1 100), σ, F)) else bey σ F
def sp_well (σ : zS) (F : Nat → Int32) (c v : Int32) : zA3 :=
  if inC σ c ∧ (-999 ≤ v ∧ v ≤ 999) then (if fst1 (fun n => decide (v ≤ sg σ n 6 (ix c))) 0 101 = 101 then fnx (-1000000004) 3 σ F else (nI (fst1 (fun n => decide (v ≤ sg σ n 6 (ix c))) 0 101), σ, F)) else bey σ F
def sp_cold (σ : zS) (F : Nat → Int32) (i : Int32) : zA3 :=
  if inI σ i then (if fst1 (fun n => decide (sg σ n 1 (ix i) = 0)) 0 101 = 101 then fnx (-1000000004) 3 σ F else (nI (fst1 (fun n => decide (sg σ n 1 (ix i) = 0)) 0 101), σ, F)) else bey σ F
/-- the least of 0 .. k - 1 for which f is most -/
def best (f : Nat → Int32) : Nat → Nat
  | 0 => 0
  | k + 1 => if f (best f k) < f k then k else best f k
def sp_kind (σ : zS) (F : Nat → Int32) (i n : Int32) : zA3 :=
  if inI σ i ∧ (1 ≤ n ∧ n ≤ 60) then (nI (best (fun k => sg (s2 σ 0 (ix i) (nI k)) (ix n) 4 (ix i)) 6), σ, F) else bey σ F
def sp_warm (σ : zS) (F : Nat → Int32) (i n v : Int32) : zA3 :=
  if inI σ i ∧ (1 ≤ n ∧ n ≤ 60) ∧ (0 ≤ v ∧ v ≤ 9999) then (if fst1 (fun k => decide (v ≤ sg (s2 σ 1 (ix i) (nI k)) (ix n) 4 (ix i))) 0 100 = 100 then fnx (-1000000004) 3 σ F else (nI (fst1 (fun k => decide (v ≤ sg (s2 σ 1 (ix i) (nI k)) (ix n) 4 (ix i))) 0 100), σ, F)) else bey σ F
/-- of the first k in-laws that aren't sat on, the least for which all are best; -1: none -/
def sitb (σ : zS) (n : Nat) : Nat → Int32
  | 0 => -1
  | k + 1 => if σ 2 k = 0 ∧ (sitb σ n k = -1 ∨ zsum (sg (s2 σ 2 (ix (sitb σ n k)) 1) n 6) (nc σ) < zsum (sg (s2 σ 2 k 1) n 6) (nc σ)) then nI k else sitb σ n k
def sp_sit (σ : zS) (F : Nat → Int32) (n : Int32) : zA3 :=
  if 1 ≤ n ∧ n ≤ 60 then (if sitb σ (ix n) (nn σ) = -1 then fnx (-1000000004) 3 σ F else (sitb σ (ix n) (nn σ), σ, F)) else bey σ F
def sp_loud (σ : zS) (F : Nat → Int32) (c n : Int32) : zA3 :=
  if inC σ c ∧ (1 ≤ n ∧ n ≤ 60) then (nI (best (fun k => sg (s2 σ 5 (ix c) (nI k)) (ix n) 6 (ix c)) 10), σ, F) else bey σ F
def sp_stoke (σ : zS) (F : Nat → Int32) (n : Int32) : zA3 :=
  if 1 ≤ n ∧ n ≤ 60 then (nI (best (fun k => zsum (sg (s2 σ 8 1 (nI k)) (ix n) 1) (nn σ)) 21), σ, F) else bey σ F
def sp_lonely (σ : zS) (F : Nat → Int32) (n : Int32) : zA3 :=
  if 0 ≤ n ∧ n ≤ 100 then (if nn σ = 0 then fnx (-1000000004) 3 σ F else (nI (best (fun k => sg σ (ix n) 3 k) (nn σ)), σ, F)) else bey σ F
