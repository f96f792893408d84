/-! THE STATE: what the cells hold. zS: an institute, by field and number: 0 KIND, 1 WARM, 2 SAT ON, 3 ALONE, 4 HAD of in-laws; 5 LOUD, 6 WELL, 7 LAST of couples; 8: SUNDAY, FIRE, how many in-laws, how many couples -/
abbrev zS : Type := Nat → Nat → Int32
def s2 (σ : zS) (f i : Nat) (v : Int32) : zS := fun g => cond (Nat.beq g f) (upd (σ g) i v) (σ g)
/-- the same in one row of 68 -/
def ec (σ : zS) : Nat → Int32 := fun k => if k < 4 then σ 8 k else if k < 44 then σ ((k - 4) % 5) ((k - 4) / 5) else σ (5 + (k - 44) % 3) ((k - 44) / 3)
/-- a hall: the institute, whom each couple had latest, who is taken -/
abbrev zHl : Type := zS × (Nat → Int32) × Int32
/-- the tape: bytes, length, sort, start, behind, number -/
abbrev zTp : Type := (Nat → Int32) × Int32 × Int32 × Int32 × Int32 × Int32
/-- a sheet: bits, size, numbers -/
abbrev zSh : Type := Int32 × Int32 × (Nat → Int64)
def zm_sh : Nat → Option Nat := fun j => if j = 0 then some 34 else if j = 1 then some 36 else if j = 2 then some 38 else if j = 3 then some 40 else none
/-- the class: hall, ahead, kept, is one kept, tape, sheets, findings -/
def hX (H A K : zHl) (k : Int32) (T : zTp) (S : Nat → zSh) (F : Nat → Int32) : zH := [
  .inr (3, [.ref 1, .ref 11, .ref 21, .int k, .ref 31, .ref 33, .ref 42]),
  .inr (0, [.int (H.1 8 0), .int (H.1 8 1), .int (H.1 8 2), .ref 2, .ref 3, .ref 4, .ref 5, .ref 6, .int (H.1 8 3), .ref 7, .ref 8, .ref 9, .ref 10, .int H.2.2]),
  .inl (0, 8, .inl (H.1 0)),
  .inl (0, 8, .inl (H.1 1)),
  .inl (0, 8, .inl (H.1 2)),
  .inl (0, 8, .inl (H.1 3)),
  .inl (0, 8, .inl (H.1 4)),
  .inl (0, 8, .inl (H.1 5)),
  .inl (0, 8, .inl (H.1 6)),
  .inl (0, 8, .inl (H.1 7)),
  .inl (0, 8, .inl H.2.1),
  .inr (0, [.int (A.1 8 0), .int (A.1 8 1), .int (A.1 8 2), .ref 12, .ref 13, .ref 14, .ref 15, .ref 16, .int (A.1 8 3), .ref 17, .ref 18, .ref 19, .ref 20, .int A.2.2]),
  .inl (0, 8, .inl (A.1 0)),
  .inl (0, 8, .inl (A.1 1)),
  .inl (0, 8, .inl (A.1 2)),
  .inl (0, 8, .inl (A.1 3)),
  .inl (0, 8, .inl (A.1 4)),
  .inl (0, 8, .inl (A.1 5)),
  .inl (0, 8, .inl (A.1 6)),
  .inl (0, 8, .inl (A.1 7)),
  .inl (0, 8, .inl A.2.1),
  .inr (0, [.int (K.1 8 0), .int (K.1 8 1), .int (K.1 8 2), .ref 22, .ref 23, .ref 24, .ref 25, .ref 26, .int (K.1 8 3), .ref 27, .ref 28, .ref 29, .ref 30, .int K.2.2]),
  .inl (0, 8, .inl (K.1 0)),
  .inl (0, 8, .inl (K.1 1)),
  .inl (0, 8, .inl (K.1 2)),
  .inl (0, 8, .inl (K.1 3)),
  .inl (0, 8, .inl (K.1 4)),
  .inl (0, 8, .inl (K.1 5)),
  .inl (0, 8, .inl (K.1 6)),
  .inl (0, 8, .inl (K.1 7)),
  .inl (0, 8, .inl K.2.1),
  .inr (2, [.ref 32, .int T.2.1, .int T.2.2.1, .int T.2.2.2.1, .int T.2.2.2.2.1, .int T.2.2.2.2.2]),
  .inl (0, 120, .inl T.1),
  .inl (2, 4, .inr (.inr (.inr (.inr zm_sh)))),
  .inr (1, [.int (S 0).1, .int (S 0).2.1, .ref 35]),
  .inl (1, 40, .inr (.inl (S 0).2.2)),
  .inr (1, [.int (S 1).1, .int (S 1).2.1, .ref 37]),
  .inl (1, 40, .inr (.inl (S 1).2.2)),
  .inr (1, [.int (S 2).1, .int (S 2).2.1, .ref 39]),
  .inl (1, 40, .inr (.inl (S 2).2.2)),
  .inr (1, [.int (S 3).1, .int (S 3).2.1, .ref 41]),
  .inl (1, 40, .inr (.inl (S 3).2.2)),
  .inl (0, 7, .inl F)]
/-- the reference: its row, what is kept, other, aside, findings, got; is one kept; the tape and (taped, from, to, value, isWrong); sheets: bits, sizes, numbers, moved -/
abbrev zR : Type := Int32 × Int32 × Int32 × Int32 × Int32
def hM (s ks ot as F got : Nat → Int32) (kp : Int32) (tp : Nat → Int32) (R : zR) (Bi Sz : Nat → Int32) (N mv : Nat → Int64) : zH := [
  .inr (4, [.ref 44, .ref 45, .ref 46, .ref 47, .ref 48, .ref 49, .int kp, .ref 50, .int R.1, .int R.2.1, .int R.2.2.1, .int R.2.2.2.1, .int R.2.2.2.2, .ref 51, .ref 52, .ref 53, .ref 54]),
  .inl (0, 68, .inl s),
  .inl (0, 68, .inl ks),
  .inl (0, 68, .inl ot),
  .inl (0, 68, .inl as),
  .inl (0, 7, .inl F),
  .inl (0, 8, .inl got),
  .inl (0, 120, .inl tp),
  .inl (0, 4, .inl Bi),
  .inl (0, 4, .inl Sz),
  .inl (1, 160, .inr (.inl N)),
  .inl (1, 40, .inr (.inl mv))]
