section
/-! THE SMALL MACHINE: methods as tables of predicate transformers over a heap of cells by their places (a reference is a place in the list); soundness against the machine stands in a later part -/
abbrev zH : Type := List va_E
abbrev zL : Type := List (Option Value)
abbrev zQ : Type := Option Value → zH → Prop
abbrev zC : Type := Nat → List Value → zH → zQ → Prop
abbrev zP : Type := Nat → zL → List Value → Nat × Nat → zH → Prop
abbrev zO : Type := zP → zC → zQ → zL → List Value → Nat × Nat → zH → Prop
def zm_g {α : Type} : List α → Nat → Option α
  | [], _ => none
  | a :: _, 0 => some a
  | _ :: l, n + 1 => zm_g l n
theorem zm_g_eq {α : Type} : ∀ (l : List α) (k : Nat), zm_g l k = l[k]?
  | [], _ => by simp [zm_g]
  | _ :: _, 0 => rfl
  | _ :: l, n + 1 => by rw [List.getElem?_cons_succ]; exact zm_g_eq l n
/-- a store at place i: a long that stands just below it is gone -/
def zm_x : zL → Nat → zL
  | [], _ => []
  | a :: l, 0 => a :: l
  | a :: l, 1 => (match a with | some (.long _) => none | some (.double _) => none | b => b) :: l
  | a :: l, n + 2 => a :: zm_x l (n + 1)
def zm_st (L : zL) (i : Nat) (v : Value) : zL := (zm_x L i).set i (some v)
def zm_st2 (L : zL) (i : Nat) (v : Value) : zL := ((zm_x L i).set i (some v)).set (i + 1) none
/-- the arguments of a call: n values off the stack, and the rest -/
def zm_sp : Nat → List Value → List Value → Option (List Value × List Value)
  | 0, acc, st => some (acc, st)
  | n + 1, acc, v :: st => zm_sp n (v :: acc) st
  | _ + 1, _, [] => none
def zm_cat : List Value → Nat
  | [] => 0
  | v :: l => v.category + zm_cat l
def zm_pu (r : Option Value) (st : List Value) : List Value := match r with
  | none => st
  | some v => v :: st
/-- a method's locals at its entry -/
def zm_en : List Value → Nat → zL
  | [], n => List.replicate n none
  | v :: vs, n => match v with
    | .long x => some (.long x) :: none :: zm_en vs (n - 2)
    | .double x => some (.double x) :: none :: zm_en vs (n - 2)
    | w => some w :: zm_en vs (n - 1)
-- constants and locals
def zo_c (v : Value) (nx : Nat) : zO := fun P _ _ L st u h => P nx L (v :: st) u h
def zo_il (i nx : Nat) : zO := fun P _ _ L st u h => match zm_g L i with
  | some (some (.int x)) => P nx L (.int x :: st) u h
  | _ => False
def zo_ll (i nx : Nat) : zO := fun P _ _ L st u h => match zm_g L i with
  | some (some (.long x)) => P nx L (.long x :: st) u h
  | _ => False
def zo_al (i nx : Nat) : zO := fun P _ _ L st u h => match zm_g L i with
  | some (some (.ref x)) => P nx L (.ref x :: st) u h
  | _ => False
def zo_is (i nx : Nat) : zO := fun P _ _ L st u h => match st with
  | .int x :: r => P nx (zm_st L i (.int x)) r u h
  | _ => False
def zo_as (i nx : Nat) : zO := fun P _ _ L st u h => match st with
  | .ref x :: r => P nx (zm_st L i (.ref x)) r u h
  | _ => False
def zo_ls (i nx : Nat) : zO := fun P _ _ L st u h => match st with
  | .long x :: r => P nx (zm_st2 L i (.long x)) r u h
  | _ => False
def zo_inc (i : Nat) (k : Int32) (nx : Nat) : zO := fun P _ _ L st u h => match zm_g L i with
  | some (some (.int x)) => P nx (L.set i (some (.int (x + k)))) st u h
  | _ => False
-- arithmetic
def zo_iadd (nx : Nat) : zO := fun P _ _ L st u h => match st with
  | .int y :: .int x :: r => P nx L (.int (x + y) :: r) u h
  | _ => False
def zo_isub (nx : Nat) : zO := fun P _ _ L st u h => match st with
  | .int y :: .int x :: r => P nx L (.int (x - y) :: r) u h
  | _ => False
def zo_imul (nx : Nat) : zO := fun P _ _ L st u h => match st with
  | .int y :: .int x :: r => P nx L (.int (x * y) :: r) u h
  | _ => False
def zo_iand (nx : Nat) : zO := fun P _ _ L st u h => match st with
  | .int y :: .int x :: r => P nx L (.int (x &&& y) :: r) u h
  | _ => False
def zo_ior (nx : Nat) : zO := fun P _ _ L st u h => match st with
  | .int y :: .int x :: r => P nx L (.int (x ||| y) :: r) u h
  | _ => False
def zo_ishl (nx : Nat) : zO := fun P _ _ L st u h => match st with
  | .int y :: .int x :: r => P nx L (.int (x <<< (y &&& 31)) :: r) u h
  | _ => False
def zo_ishr (nx : Nat) : zO := fun P _ _ L st u h => match st with
  | .int y :: .int x :: r => P nx L (.int (x >>> (y &&& 31)) :: r) u h
  | _ => False
def zo_idiv (nx : Nat) : zO := fun P _ _ L st u h => match st with
  | .int y :: .int x :: r => ¬ y = 0 ∧ P nx L (.int (x / y) :: r) u h
  | _ => False
def zo_irem (nx : Nat) : zO := fun P _ _ L st u h => match st with
  | .int y :: .int x :: r => ¬ y = 0 ∧ P nx L (.int (x - x / y * y) :: r) u h
  | _ => False
def zo_ladd (nx : Nat) : zO := fun P _ _ L st u h => match st with
  | .long y :: .long x :: r => P nx L (.long (x + y) :: r) u h
  | _ => False
def zo_lmul (nx : Nat) : zO := fun P _ _ L st u h => match st with
  | .long y :: .long x :: r => P nx L (.long (x * y) :: r) u h
  | _ => False
def zo_land (nx : Nat) : zO := fun P _ _ L st u h => match st with
  | .long y :: .long x :: r => P nx L (.long (x &&& y) :: r) u h
  | _ => False
def zo_lor (nx : Nat) : zO := fun P _ _ L st u h => match st with
  | .long y :: .long x :: r => P nx L (.long (x ||| y) :: r) u h
  | _ => False
def zo_lshl (nx : Nat) : zO := fun P _ _ L st u h => match st with
  | .int y :: .long x :: r => P nx L (.long (x <<< (y.toInt64 &&& 63)) :: r) u h
  | _ => False
def zo_lcmp (nx : Nat) : zO := fun P _ _ L st u h => match st with
  | .long y :: .long x :: r => P nx L (.int (lg_cmp x y) :: r) u h
  | _ => False
def zo_i2l (nx : Nat) : zO := fun P _ _ L st u h => match st with
  | .int x :: r => P nx L (.long x.toInt64 :: r) u h
  | _ => False
def zo_l2i (nx : Nat) : zO := fun P _ _ L st u h => match st with
  | .long x :: r => P nx L (.int x.toInt32 :: r) u h
  | _ => False
def zo_i2b (nx : Nat) : zO := fun P _ _ L st u h => match st with
  | .int x :: r => P nx L (.int x.toInt8.toInt32 :: r) u h
  | _ => False
def zo_i2s (nx : Nat) : zO := fun P _ _ L st u h => match st with
  | .int x :: r => P nx L (.int x.toInt16.toInt32 :: r) u h
  | _ => False
-- the stack (of values of one slot)
def zo_dup (nx : Nat) : zO := fun P _ _ L st u h => match st with
  | v :: r => cond (Nat.beq v.category 1) (P nx L (v :: v :: r) u h) False
  | _ => False
def zo_dup2 (nx : Nat) : zO := fun P _ _ L st u h => match st with
  | v :: w :: r => cond (Nat.beq v.category 1) (cond (Nat.beq w.category 1) (P nx L (v :: w :: v :: w :: r) u h) False) False
  | _ => False
def zo_dupx1 (nx : Nat) : zO := fun P _ _ L st u h => match st with
  | v :: w :: r => cond (Nat.beq v.category 1) (cond (Nat.beq w.category 1) (P nx L (v :: w :: v :: r) u h) False) False
  | _ => False
def zo_pop (nx : Nat) : zO := fun P _ _ L st u h => match st with
  | v :: r => cond (Nat.beq v.category 1) (P nx L r u h) False
  | _ => False
-- branches
def zo_goto (t : Nat) : zO := fun P _ _ L st u h => P t L st u h
def zo_ifeq (t nx : Nat) : zO := fun P _ _ L st u h => match st with
  | .int x :: r => (x = 0 → P t L r u h) ∧ (¬ x = 0 → P nx L r u h)
  | _ => False
def zo_ifne (t nx : Nat) : zO := fun P _ _ L st u h => match st with
  | .int x :: r => (¬ x = 0 → P t L r u h) ∧ (x = 0 → P nx L r u h)
  | _ => False
def zo_iflt (t nx : Nat) : zO := fun P _ _ L st u h => match st with
  | .int x :: r => (x < 0 → P t L r u h) ∧ (¬ x < 0 → P nx L r u h)
  | _ => False
def zo_ifge (t nx : Nat) : zO := fun P _ _ L st u h => match st with
  | .int x :: r => (0 ≤ x → P t L r u h) ∧ (¬ 0 ≤ x → P nx L r u h)
  | _ => False
def zo_ifgt (t nx : Nat) : zO := fun P _ _ L st u h => match st with
  | .int x :: r => (0 < x → P t L r u h) ∧ (¬ 0 < x → P nx L r u h)
  | _ => False
def zo_ifle (t nx : Nat) : zO := fun P _ _ L st u h => match st with
  | .int x :: r => (x ≤ 0 → P t L r u h) ∧ (¬ x ≤ 0 → P nx L r u h)
  | _ => False
def zo_ceq (t nx : Nat) : zO := fun P _ _ L st u h => match st with
  | .int y :: .int x :: r => (x = y → P t L r u h) ∧ (¬ x = y → P nx L r u h)
  | _ => False
def zo_cne (t nx : Nat) : zO := fun P _ _ L st u h => match st with
  | .int y :: .int x :: r => (¬ x = y → P t L r u h) ∧ (x = y → P nx L r u h)
  | _ => False
def zo_clt (t nx : Nat) : zO := fun P _ _ L st u h => match st with
  | .int y :: .int x :: r => (x < y → P t L r u h) ∧ (¬ x < y → P nx L r u h)
  | _ => False
def zo_cge (t nx : Nat) : zO := fun P _ _ L st u h => match st with
  | .int y :: .int x :: r => (y ≤ x → P t L r u h) ∧ (¬ y ≤ x → P nx L r u h)
  | _ => False
def zo_cgt (t nx : Nat) : zO := fun P _ _ L st u h => match st with
  | .int y :: .int x :: r => (y < x → P t L r u h) ∧ (¬ y < x → P nx L r u h)
  | _ => False
def zo_cle (t nx : Nat) : zO := fun P _ _ L st u h => match st with
  | .int y :: .int x :: r => (x ≤ y → P t L r u h) ∧ (¬ x ≤ y → P nx L r u h)
  | _ => False
/-- a switch over lo, lo + 1, ..: a case each, then the default -/
def zm_sw (P : Nat → Prop) (x : Int32) (d : Nat) : Int32 → List Nat → Prop
  | _, [] => P d
  | k, t :: ts => (x = k → P t) ∧ (¬ x = k → zm_sw P x d (k + 1) ts)
def zo_sw (lo : Int32) (ts : List Nat) (d : Nat) : zO := fun P _ _ L st u h => match st with
  | .int x :: r => zm_sw (fun t => P t L r u h) x d lo ts
  | _ => False
-- fields: slot k of an object of kind ci
def zo_get (ci k nx : Nat) : zO := fun P _ _ L st u h => match st with
  | .ref a :: r => match zm_g h a with
    | some (.inr (c, fs)) => cond (Nat.beq c ci) (match zm_g fs k with | some v => P nx L (v :: r) u h | none => False) False
    | _ => False
  | _ => False
def zo_puti (ci k nx : Nat) : zO := fun P _ _ L st u h => match st with
  | .int x :: .ref a :: r => match zm_g h a with
    | some (.inr (c, fs)) => cond (Nat.beq c ci) (cond (Nat.ble (k + 1) fs.length) (P nx L r u (h.set a (.inr (c, fs.set k (.int x))))) False) False
    | _ => False
  | _ => False
def zo_puta (ci k nx : Nat) : zO := fun P _ _ L st u h => match st with
  | .ref x :: .ref a :: r => match zm_g h a with
    | some (.inr (c, fs)) => cond (Nat.beq c ci) (cond (Nat.ble (k + 1) fs.length) (P nx L r u (h.set a (.inr (c, fs.set k (.ref x))))) False) False
    | _ => False
  | _ => False
/-- a field of truth: 0 or 1 -/
def zo_putz (ci k nx : Nat) : zO := fun P _ _ L st u h => match st with
  | .int x :: .ref a :: r => match zm_g h a with
    | some (.inr (c, fs)) => cond (Nat.beq c ci) (cond (Nat.ble (k + 1) fs.length) ((x = 0 ∨ x = 1) ∧ P nx L r u (h.set a (.inr (c, fs.set k (.int x))))) False) False
    | _ => False
  | _ => False
-- arrays: the place is the prover's to say
def zo_iald (nx : Nat) : zO := fun P _ _ L st u h => match st with
  | .int i :: .ref a :: r => match zm_g h a with
    | some (.inl (_, n, .inl f)) => cond (Nat.ble n 1000) (∃ j : Nat, j < n ∧ i = nI j ∧ P nx L (.int (f j) :: r) u h) False
    | _ => False
  | _ => False
def zo_lald (nx : Nat) : zO := fun P _ _ L st u h => match st with
  | .int i :: .ref a :: r => match zm_g h a with
    | some (.inl (_, n, .inr (.inl f))) => cond (Nat.ble n 1000) (∃ j : Nat, j < n ∧ i = nI j ∧ P nx L (.long (f j) :: r) u h) False
    | _ => False
  | _ => False
def zo_aald (nx : Nat) : zO := fun P _ _ L st u h => match st with
  | .int i :: .ref a :: r => match zm_g h a with
    | some (.inl (_, n, .inr (.inr (.inr (.inr f))))) => cond (Nat.ble n 1000) (∃ j : Nat, j < n ∧ i = nI j ∧ ∃ b : Nat, f j = some b ∧ P nx L (.ref b :: r) u h) False
    | _ => False
  | _ => False
def zo_iast (nx : Nat) : zO := fun P _ _ L st u h => match st with
  | .int x :: .int i :: .ref a :: r => match zm_g h a with
    | some (.inl (c, n, .inl f)) => cond (Nat.ble n 1000) (∃ j : Nat, j < n ∧ i = nI j ∧ P nx L r u (h.set a (.inl (c, n, .inl (upd f j x))))) False
    | _ => False
  | _ => False
def zo_last (nx : Nat) : zO := fun P _ _ L st u h => match st with
  | .long x :: .int i :: .ref a :: r => match zm_g h a with
    | some (.inl (c, n, .inr (.inl f))) => cond (Nat.ble n 1000) (∃ j : Nat, j < n ∧ i = nI j ∧ P nx L r u (h.set a (.inl (c, n, .inr (.inl (vp_updL f j x)))))) False
    | _ => False
  | _ => False
/-- a reference into a row of objects of kind ci -/
def zo_aast (ci nx : Nat) : zO := fun P _ _ L st u h => match st with
  | .ref v :: .int i :: .ref a :: r => match zm_g h a with
    | some (.inl (c, n, .inr (.inr (.inr (.inr f))))) => match zm_g h v with
      | some (.inr (c', _)) => cond (Nat.beq c' ci) (cond (Nat.ble n 1000) (∃ j : Nat, j < n ∧ i = nI j ∧ P nx L r u (h.set a (.inl (c, n, .inr (.inr (.inr (.inr (va_up f j (some v))))))))) False) False
      | _ => False
    | _ => False
  | _ => False
def zo_alen (nx : Nat) : zO := fun P _ _ L st u h => match st with
  | .ref a :: r => match zm_g h a with
    | some (.inl (_, n, .inl _)) => P nx L (.int (nI n) :: r) u h
    | some (.inl (_, n, .inr (.inl _))) => P nx L (.int (nI n) :: r) u h
    | _ => False
  | _ => False
/-- every reference within is one of the first n places, or one of the constants' -/
def zm_okv (n : Nat) : Value → Bool
  | .ref k => Nat.ble (k + 1) n || Nat.ble 1000 k
  | _ => true
def zm_okr (n : Nat) : Option Nat → Bool
  | some k => Nat.ble (k + 1) n || Nat.ble 1000 k
  | none => true
def zm_oke (n : Nat) : va_E → Bool
  | .inr (_, fs) => fs.all (zm_okv n)
  | .inl (_, k, .inr (.inr (.inr (.inr f)))) => (List.range k).all (fun j => zm_okr n (f j))
  | _ => true
def zm_okl (n : Nat) (L : zL) : Bool := L.all (fun o => match o with | some v => zm_okv n v | none => true)
def zm_sc (h : zH) (L : zL) (st : List Value) : Bool := Nat.ble h.length 900 && (h.all (zm_oke h.length) && (zm_okl h.length L && st.all (zm_okv h.length)))
-- making: an object of kind ci with its N fields fs, arrays
/-- there is room for one more of N slots, in a method that makes mc cells of ms slots -/
def zm_al (h : zH) (L : zL) (st : List Value) (u : Nat × Nat) (k N mc ms : Nat) : Bool := zm_sc h L st && (Nat.ble (u.1 + k) mc && Nat.ble (u.2 + N) ms)
def zo_new (ci : Nat) (fs : List Value) (N mc ms nx : Nat) : zO := fun P _ _ L st u h => zm_al h L st u 1 N mc ms = true ∧ P nx L (.ref h.length :: st) (u.1 + 1, u.2 + N) (h ++ [.inr (ci, fs)])
def zo_newi (mc ms nx : Nat) : zO := fun P _ _ L st u h => match st with
  | .int n :: r => ∃ N : Nat, N ≤ 1000 ∧ n = nI N ∧ zm_al h L r u 1 N mc ms = true ∧ P nx L (.ref h.length :: r) (u.1 + 1, u.2 + N) (h ++ [.inl (0, N, .inl (fun _ => 0))])
  | _ => False
def zo_newl (mc ms nx : Nat) : zO := fun P _ _ L st u h => match st with
  | .int n :: r => ∃ N : Nat, N ≤ 1000 ∧ n = nI N ∧ zm_al h L r u 1 N mc ms = true ∧ P nx L (.ref h.length :: r) (u.1 + 1, u.2 + N) (h ++ [.inl (1, N, .inr (.inl (fun _ => 0)))])
  | _ => False
def zo_newq (mc ms nx : Nat) : zO := fun P _ _ L st u h => match st with
  | .int n :: r => ∃ N : Nat, N ≤ 1000 ∧ n = nI N ∧ zm_al h L r u 1 N mc ms = true ∧ P nx L (.ref h.length :: r) (u.1 + 1, u.2 + N) (h ++ [.inl (2, N, .inr (.inr (.inr (.inr (fun _ => none)))))])
  | _ => False
def zo_obj (nx : Nat) : zO := fun P _ _ L st u h => match st with
  | .ref _ :: r => cond (Nat.ble (zm_cat r) 8) (P nx L r u h) False
  | _ => False
-- calls: method M with n arguments; of an object of kind ci; a constructor that makes mc cells of ms slots
def zo_cs (M n nx : Nat) : zO := fun P C _ L st u h => match zm_sp n [] st with
  | some (as, r) => cond (Nat.ble (zm_cat r) 8) (C M as h (fun v h' => P nx L (zm_pu v r) u h')) False
  | none => False
def zo_cv (ci M n nx : Nat) : zO := fun P C _ L st u h => match zm_sp n [] st with
  | some (as, .ref a :: r) => match zm_g h a with
    | some (.inr (c, _)) => cond (Nat.beq c ci) (cond (Nat.ble (zm_cat r) 8) (C M (.ref a :: as) h (fun v h' => P nx L (zm_pu v r) u h')) False) False
    | _ => False
  | _ => False
def zo_ci (M n mc ms cmc cms nx : Nat) : zO := fun P C _ L st u h => match zm_sp n [] st with
  | some (as, .ref a :: r) => cond (Nat.ble (zm_cat r) 8) (zm_al h L r u mc ms cmc cms = true ∧ C M (.ref a :: as) h (fun v h' => P nx L (zm_pu v r) (u.1 + mc, u.2 + ms) h')) False
  | _ => False
-- the library's own
def zo_max (nx : Nat) : zO := fun P _ _ L st u h => match st with
  | .int y :: .int x :: r => cond (Nat.ble (zm_cat r) 8) (P nx L (.int (if x < y then y else x) :: r) u h) False
  | _ => False
def zo_min (nx : Nat) : zO := fun P _ _ L st u h => match st with
  | .int y :: .int x :: r => cond (Nat.ble (zm_cat r) 8) (P nx L (.int (if y < x then y else x) :: r) u h) False
  | _ => False
def zo_cpi (nx : Nat) : zO := fun P _ _ L st u h => match st with
  | .int n :: .int dp :: .ref b :: .int sp :: .ref a :: r => match zm_g h a with
    | some (.inl (_, n0, .inl f)) => match zm_g h b with
      | some (.inl (c1, n1, .inl g)) => cond (Nat.ble (zm_cat r) 8) (∃ N D S : Nat, n = nI N ∧ dp = nI D ∧ sp = nI S ∧ S + N ≤ n0 ∧ D + N ≤ n1 ∧ n0 ≤ 1000 ∧ n1 ≤ 1000 ∧ P nx L r u (h.set b (.inl (c1, n1, .inl (va_cpy f g S D N))))) False
      | _ => False
    | _ => False
  | _ => False
def zo_cpl (nx : Nat) : zO := fun P _ _ L st u h => match st with
  | .int n :: .int dp :: .ref b :: .int sp :: .ref a :: r => match zm_g h a with
    | some (.inl (_, n0, .inr (.inl f))) => match zm_g h b with
      | some (.inl (c1, n1, .inr (.inl g))) => cond (Nat.ble (zm_cat r) 8) (∃ N D S : Nat, n = nI N ∧ dp = nI D ∧ sp = nI S ∧ S + N ≤ n0 ∧ D + N ≤ n1 ∧ n0 ≤ 1000 ∧ n1 ≤ 1000 ∧ P nx L r u (h.set b (.inl (c1, n1, .inr (.inl (va_cpy f g S D N)))))) False
      | _ => False
    | _ => False
  | _ => False
/-- a String constant is a place from 1000 on; its length, its signs -/
def zo_slen (tx : List (List Int32)) (nx : Nat) : zO := fun P _ _ L st u h => match st with
  | .ref a :: r => cond (Nat.ble (zm_cat r) 8) (∃ i : Nat, a = 1000 + i ∧ i < tx.length ∧ P nx L (.int (nI (tx.getD i []).length) :: r) u h) False
  | _ => False
def zo_sch (tx : List (List Int32)) (nx : Nat) : zO := fun P _ _ L st u h => match st with
  | .int k :: .ref a :: r => cond (Nat.ble (zm_cat r) 8) (∃ i j : Nat, a = 1000 + i ∧ i < tx.length ∧ j < (tx.getD i []).length ∧ k = nI j ∧ P nx L (.int ((tx.getD i []).getD j 0) :: r) u h) False
  | _ => False
/-- a row of constants: place 2000 -/
def zo_tld (xs : List Int32) (nx : Nat) : zO := fun P _ _ L st u h => match st with
  | .int i :: .ref a :: r => cond (Nat.beq a 2000) (∃ j : Nat, j < xs.length ∧ i = nI j ∧ P nx L (.int (xs.getD j 0) :: r) u h) False
  | _ => False
/-- the script: place 3000 -/
def zo_scr (xs : Nat → Int32) (n nx : Nat) : zO := fun P _ _ L st u h => match st with
  | .int i :: .ref a :: r => cond (Nat.beq a 3000) (∃ j : Nat, j < n ∧ i = nI j ∧ P nx L (.int (xs j) :: r) u h) False
  | _ => False
def zo_scl (n nx : Nat) : zO := fun P _ _ L st u h => match st with
  | .ref a :: r => cond (Nat.beq a 3000) (P nx L (.int (nI n) :: r) u h) False
  | _ => False
-- ends: a method that makes at most mc cells of ms slots
def zo_ir (mc ms : Nat) : zO := fun _ _ Q _ st u h => match st with
  | [.int x] => cond (Nat.ble u.1 mc) (cond (Nat.ble u.2 ms) (Q (some (.int x)) h) False) False
  | _ => False
def zo_zr (mc ms : Nat) : zO := fun _ _ Q _ st u h => match st with
  | [.int x] => cond (Nat.ble u.1 mc) (cond (Nat.ble u.2 ms) ((x = 0 ∨ x = 1) ∧ Q (some (.int x)) h) False) False
  | _ => False
def zo_lr (mc ms : Nat) : zO := fun _ _ Q _ st u h => match st with
  | [.long x] => cond (Nat.ble u.1 mc) (cond (Nat.ble u.2 ms) (Q (some (.long x)) h) False) False
  | _ => False
def zo_ar (mc ms : Nat) : zO := fun _ _ Q _ st u h => match st with
  | [.ref x] => cond (Nat.ble u.1 mc) (cond (Nat.ble u.2 ms) (Q (some (.ref x)) h) False) False
  | _ => False
def zo_vr (mc ms : Nat) : zO := fun _ _ Q _ st u h => match st with
  | [] => cond (Nat.ble u.1 mc) (cond (Nat.ble u.2 ms) (Q none h) False) False
  | _ => False
-- a method's table
abbrev zT : Type := List (Nat × zO)
def zm_lk : zT → Nat → zO
  | [], _ => fun _ _ _ _ _ _ _ => False
  | q :: l, pc => cond (Nat.beq q.1 pc) q.2 (zm_lk l pc)
/-- n steps in one method, up to the place 'stop' -/
def zF (T : zT) (stop : Nat) (R : zP) (C : zC) (Q : zQ) : Nat → zP
  | 0 => R
  | n + 1 => fun pc L st u h => cond (Nat.beq pc stop) (R pc L st u h) (zm_lk T pc (zF T stop R C Q n) C Q L st u h)
/-- the same cells: arrays agree as far as they go -/
def zm_eA (a b : va_E) : Prop := a = b ∨ (∃ c n f g, a = .inl (c, n, .inl f) ∧ b = .inl (c, n, .inl g) ∧ ∀ j, j < n → f j = g j) ∨ (∃ c n f g, a = .inl (c, n, .inr (.inl f)) ∧ b = .inl (c, n, .inr (.inl g)) ∧ ∀ j, j < n → f j = g j)
def zm_eH : zH → zH → Prop
  | [], [] => True
  | a :: l, b :: m => zm_eA a b ∧ zm_eH l m
  | _, _ => False
theorem zm_eA_rfl (a : va_E) : zm_eA a a := Or.inl rfl
theorem zm_eH_rfl : ∀ h : zH, zm_eH h h
  | [] => trivial
  | a :: l => ⟨zm_eA_rfl a, zm_eH_rfl l⟩
/-- what the machine gives: frames of method M, calls of method M; a program is a table a method, and how many locals it has -/
def zCl (tab : Nat → zT) (nl : Nat → Nat) (SM : zC) (SF : Nat → zQ → zP) : Prop :=
  (∀ (M : Nat) (Q : zQ) (P : zP), (∀ pc L st u h, P pc L st u h → SF M Q pc L st u h) → ∀ pc L st u h, zm_lk (tab M) pc P SM Q L st u h → SF M Q pc L st u h) ∧
  (∀ (M : Nat) (as : List Value) (h : zH) (Q : zQ), Nat.ble (zm_cat as) (nl M) = true → SF M Q 0 (zm_en as (nl M)) [] (0, 0) h → SM M as h Q) ∧
  (∀ (M : Nat) (Q : zQ) (pc : Nat) (L : zL) (st : List Value) (u : Nat × Nat) (h h' : zH), zm_eH h h' → SF M Q pc L st u h' → SF M Q pc L st u h)
theorem zF_le {tab : Nat → zT} {nl : Nat → Nat} {SM : zC} {SF : Nat → zQ → zP} (hZ : zCl tab nl SM SF) (M : Nat) (stop : Nat) (Q : zQ) : ∀ (n : Nat) pc L st u h, zF (tab M) stop (SF M Q) SM Q n pc L st u h → SF M Q pc L st u h
  | 0, _, _, _, _, _, k => k
  | n + 1, pc, L, st, u, h, k => by
    unfold zF at k
    cases hp : Nat.beq pc stop with
    | true => rw [hp] at k; exact k
    | false => rw [hp] at k; exact hZ.1 M Q _ (zF_le hZ M stop Q n) pc L st u h k
/-- from a place on -/
theorem zgo {tab : Nat → zT} {nl : Nat → Nat} {SM : zC} {SF : Nat → zQ → zP} (hZ : zCl tab nl SM SF) (stop n : Nat) {M : Nat} {T : zT} (hT : tab M = T) {Q : zQ} {pc : Nat} {L : zL} {st : List Value} {u : Nat × Nat} {h : zH}
    (k : zm_lk T pc (zF T stop (SF M Q) SM Q n) SM Q L st u h) : SF M Q pc L st u h := by
  subst hT
  exact hZ.1 M Q _ (zF_le hZ M stop Q n) pc L st u h k
/-- a method, from its entry on -/
theorem zin {tab : Nat → zT} {nl : Nat → Nat} {SM : zC} {SF : Nat → zQ → zP} (hZ : zCl tab nl SM SF) (stop n : Nat) {M : Nat} {T : zT} (hT : tab M = T) {N : Nat} (hN : nl M = N) {Q : zQ} {as : List Value} (hc : Nat.ble (zm_cat as) N = true) {h : zH}
    (k : zm_lk T 0 (zF T stop (SF M Q) SM Q n) SM Q (zm_en as N) [] (0, 0) h) : SM M as h Q := by
  subst hN
  exact hZ.2.1 M as h Q hc (zgo hZ stop n hT k)
theorem zsame {tab : Nat → zT} {nl : Nat → Nat} {SM : zC} {SF : Nat → zQ → zP} (hZ : zCl tab nl SM SF) {M : Nat} {Q : zQ} {pc : Nat} {L : zL} {st : List Value} {u : Nat × Nat} {h : zH} (h' : zH) (e : zm_eH h h') (k : SF M Q pc L st u h') : SF M Q pc L st u h := hZ.2.2 M Q pc L st u h h' e k
end
section
/-! THE TABLES (by program, out of javap's listing): a method a table; its number, its locals -/
def zm_tx : List (List Int32) := [[105, 110, 108, 97, 119], [109, 111, 116, 104, 101, 114], [102, 97, 116, 104, 101, 114], [117, 110, 99, 108, 101], [116, 97, 114, 116, 97, 114], [98, 108, 101, 115, 115, 101, 114], [99, 111, 117, 112, 108, 101], [102, 105, 114, 101], [115, 105, 116], [119, 97, 114, 109], [115, 97, 116], [104, 97, 100]]
def zm_ab : List Int32 := [-1, 0, 0, 0, 1, 2]
def tb_K_isUnder : zT := [
  (0, zo_il 0 1),
  (1, zo_is 2 2),
  (2, zo_c (.int 0) 3),
  (3, zo_is 3 4),
  (4, zo_il 3 5),
  (5, zo_c (.int 6) 7),
  (7, zo_cge 39 10),
  (10, zo_il 2 11),
  (11, zo_iflt 39 14),
  (14, zo_il 2 15),
  (15, zo_c (.int 6) 17),
  (17, zo_cge 39 20),
  (20, zo_il 2 21),
  (21, zo_il 1 22),
  (22, zo_cne 27 25),
  (25, zo_c (.int 1) 26),
  (26, zo_zr 0 0),
  (27, zo_c (.ref 2000) 30),
  (30, zo_il 2 31),
  (31, zo_tld zm_ab 32),
  (32, zo_is 2 33),
  (33, zo_inc 3 1 36),
  (36, zo_goto 4),
  (39, zo_c (.int 0) 40),
  (40, zo_zr 0 0)]
def tb_K_nameOf : zT := [
  (0, zo_il 0 1),
  (1, zo_sw 1 [36, 39, 42, 45, 48] 51),
  (36, zo_c (.ref 1001) 38),
  (38, zo_ar 0 0),
  (39, zo_c (.ref 1002) 41),
  (41, zo_ar 0 0),
  (42, zo_c (.ref 1003) 44),
  (44, zo_ar 0 0),
  (45, zo_c (.ref 1004) 47),
  (47, zo_ar 0 0),
  (48, zo_c (.ref 1005) 50),
  (50, zo_ar 0 0),
  (51, zo_c (.ref 1000) 53),
  (53, zo_ar 0 0)]
def tb_K_charms : zT := [
  (0, zo_il 1 1),
  (1, zo_c (.int 10) 3),
  (3, zo_idiv 4),
  (4, zo_is 5 6),
  (6, zo_il 5 8),
  (8, zo_il 2 9),
  (9, zo_c (.int 4) 10),
  (10, zo_cge 17 13),
  (13, zo_c (.int 3) 14),
  (14, zo_goto 18),
  (17, zo_c (.int 0) 18),
  (18, zo_iadd 19),
  (19, zo_is 6 21),
  (21, zo_il 5 23),
  (23, zo_il 2 24),
  (24, zo_c (.int 2) 25),
  (25, zo_idiv 26),
  (26, zo_iadd 27),
  (27, zo_is 7 29),
  (29, zo_il 0 30),
  (30, zo_sw 1 [64, 67, 70, 72, 88] 96),
  (64, zo_il 6 66),
  (66, zo_ir 0 0),
  (67, zo_il 7 69),
  (69, zo_ir 0 0),
  (70, zo_c (.int 4) 71),
  (71, zo_ir 0 0),
  (72, zo_il 6 74),
  (74, zo_c (.int 2) 75),
  (75, zo_isub 76),
  (76, zo_il 3 77),
  (77, zo_ifeq 85 80),
  (80, zo_c (.int 9) 82),
  (82, zo_goto 86),
  (85, zo_c (.int 0) 86),
  (86, zo_iadd 87),
  (87, zo_ir 0 0),
  (88, zo_il 7 90),
  (90, zo_il 4 92),
  (92, zo_c (.int 5) 93),
  (93, zo_idiv 94),
  (94, zo_iadd 95),
  (95, zo_ir 0 0),
  (96, zo_il 5 98),
  (98, zo_ir 0 0)]
def tb_K_does : zT := [
  (0, zo_c (.int 2) 1),
  (1, zo_is 4 3),
  (3, zo_il 4 5),
  (5, zo_il 3 6),
  (6, zo_c (.int 10) 8),
  (8, zo_clt 15 11),
  (11, zo_c (.int 1) 12),
  (12, zo_goto 16),
  (15, zo_c (.int 0) 16),
  (16, zo_iadd 17),
  (17, zo_is 5 19),
  (19, zo_il 0 20),
  (20, zo_sw 1 [56, 71, 74, 76, 90] 95),
  (56, zo_il 4 58),
  (58, zo_il 2 59),
  (59, zo_c (.int 7) 61),
  (61, zo_clt 68 64),
  (64, zo_c (.int 1) 65),
  (65, zo_goto 69),
  (68, zo_c (.int 0) 69),
  (69, zo_isub 70),
  (70, zo_ir 0 0),
  (71, zo_il 5 73),
  (73, zo_ir 0 0),
  (74, zo_c (.int 0) 75),
  (75, zo_ir 0 0),
  (76, zo_il 1 77),
  (77, zo_c (.int 60) 79),
  (79, zo_clt 87 82),
  (82, zo_c (.int 12) 84),
  (84, zo_goto 89),
  (87, zo_c (.int (-4)) 89),
  (89, zo_ir 0 0),
  (90, zo_il 5 92),
  (92, zo_c (.int 2) 93),
  (93, zo_iadd 94),
  (94, zo_ir 0 0),
  (95, zo_il 4 97),
  (97, zo_ir 0 0)]
def tb_K_thaws : zT := [
  (0, zo_c (.int 3) 1),
  (1, zo_is 2 2),
  (2, zo_il 2 3),
  (3, zo_il 1 4),
  (4, zo_c (.int 3) 5),
  (5, zo_idiv 6),
  (6, zo_isub 7),
  (7, zo_is 3 8),
  (8, zo_il 0 9),
  (9, zo_sw 1 [44, 56, 46, 48, 52] 56),
  (44, zo_il 3 45),
  (45, zo_ir 0 0),
  (46, zo_c (.int 1) 47),
  (47, zo_ir 0 0),
  (48, zo_il 3 49),
  (49, zo_c (.int 2) 50),
  (50, zo_isub 51),
  (51, zo_ir 0 0),
  (52, zo_c (.int 2) 53),
  (53, zo_il 2 54),
  (54, zo_imul 55),
  (55, zo_ir 0 0),
  (56, zo_il 2 57),
  (57, zo_ir 0 0)]
def tb_K_chills : zT := [
  (0, zo_c (.int 2) 1),
  (1, zo_is 2 2),
  (2, zo_il 2 3),
  (3, zo_il 1 4),
  (4, zo_c (.int 10) 6),
  (6, zo_idiv 7),
  (7, zo_isub 8),
  (8, zo_is 3 9),
  (9, zo_il 0 10),
  (10, zo_sw 1 [44, 48, 50, 44, 52] 60),
  (44, zo_il 2 45),
  (45, zo_c (.int 2) 46),
  (46, zo_iadd 47),
  (47, zo_ir 0 0),
  (48, zo_il 3 49),
  (49, zo_ir 0 0),
  (50, zo_c (.int 0) 51),
  (51, zo_ir 0 0),
  (52, zo_il 3 53),
  (53, zo_c (.int 1) 54),
  (54, zo_isub 55),
  (55, zo_c (.int 0) 56),
  (56, zo_max 59),
  (59, zo_ir 0 0),
  (60, zo_il 2 61),
  (61, zo_ir 0 0)]
def tb_J_fill : zT := [
  (0, zo_c (.int 0) 1),
  (1, zo_is 3 2),
  (2, zo_al 0 3),
  (3, zo_alen 4),
  (4, zo_is 4 6),
  (6, zo_il 3 7),
  (7, zo_il 4 9),
  (9, zo_cge 22 12),
  (12, zo_al 0 13),
  (13, zo_il 3 14),
  (14, zo_ll 1 15),
  (15, zo_last 16),
  (16, zo_inc 3 1 19),
  (19, zo_goto 6),
  (22, zo_vr 0 0)]
def tb_S_init : zT := [
  (0, zo_al 0 1),
  (1, zo_obj 4),
  (4, zo_al 0 5),
  (5, zo_c (.int 0) 6),
  (6, zo_puti 1 0 9),
  (9, zo_al 0 10),
  (10, zo_c (.int 0) 11),
  (11, zo_puti 1 1 14),
  (14, zo_al 0 15),
  (15, zo_c (.int 40) 17),
  (17, zo_newl 1 40 19),
  (19, zo_puta 1 2 22),
  (22, zo_vr 1 40)]
def tb_S_isMissing : zT := [
  (0, zo_al 0 1),
  (1, zo_get 1 0 4),
  (4, zo_ifne 11 7),
  (7, zo_c (.int 1) 8),
  (8, zo_goto 12),
  (11, zo_c (.int 0) 12),
  (12, zo_zr 0 0)]
def tb_S_lay : zT := [
  (0, zo_al 0 1),
  (1, zo_il 1 2),
  (2, zo_puti 1 0 5),
  (5, zo_al 0 6),
  (6, zo_il 1 7),
  (7, zo_ifne 14 10),
  (10, zo_c (.int 0) 11),
  (11, zo_goto 15),
  (14, zo_il 2 15),
  (15, zo_puti 1 1 18),
  (18, zo_al 0 19),
  (19, zo_get 1 2 22),
  (22, zo_c (.long 0) 23),
  (23, zo_cs 6 2 26),
  (26, zo_vr 0 0)]
def tb_S_put : zT := [
  (0, zo_al 0 1),
  (1, zo_get 1 0 4),
  (4, zo_c (.int 8) 6),
  (6, zo_cne 22 9),
  (9, zo_al 0 10),
  (10, zo_get 1 2 13),
  (13, zo_il 1 14),
  (14, zo_ll 2 15),
  (15, zo_l2i 16),
  (16, zo_i2b 17),
  (17, zo_i2l 18),
  (18, zo_last 19),
  (19, zo_goto 51),
  (22, zo_al 0 23),
  (23, zo_get 1 0 26),
  (26, zo_c (.int 16) 28),
  (28, zo_cne 44 31),
  (31, zo_al 0 32),
  (32, zo_get 1 2 35),
  (35, zo_il 1 36),
  (36, zo_ll 2 37),
  (37, zo_l2i 38),
  (38, zo_i2s 39),
  (39, zo_i2l 40),
  (40, zo_last 41),
  (41, zo_goto 51),
  (44, zo_al 0 45),
  (45, zo_get 1 2 48),
  (48, zo_il 1 49),
  (49, zo_ll 2 50),
  (50, zo_last 51),
  (51, zo_vr 0 0)]
def tb_S_hasRun : zT := [
  (0, zo_il 1 1),
  (1, zo_iflt 30 4),
  (4, zo_il 2 5),
  (5, zo_iflt 30 8),
  (8, zo_il 2 9),
  (9, zo_al 0 10),
  (10, zo_get 1 1 13),
  (13, zo_cgt 30 16),
  (16, zo_il 1 17),
  (17, zo_al 0 18),
  (18, zo_get 1 1 21),
  (21, zo_il 2 22),
  (22, zo_isub 23),
  (23, zo_cgt 30 26),
  (26, zo_c (.int 1) 27),
  (27, zo_goto 31),
  (30, zo_c (.int 0) 31),
  (31, zo_zr 0 0)]
def tb_H_init : zT := [
  (0, zo_al 0 1),
  (1, zo_obj 4),
  (4, zo_al 0 5),
  (5, zo_c (.int 0) 6),
  (6, zo_puti 0 0 9),
  (9, zo_al 0 10),
  (10, zo_c (.int 10) 12),
  (12, zo_puti 0 1 15),
  (15, zo_al 0 16),
  (16, zo_c (.int 0) 17),
  (17, zo_puti 0 2 20),
  (20, zo_al 0 21),
  (21, zo_c (.int 8) 23),
  (23, zo_newi 9 72 25),
  (25, zo_puta 0 3 28),
  (28, zo_al 0 29),
  (29, zo_c (.int 8) 31),
  (31, zo_newi 9 72 33),
  (33, zo_puta 0 4 36),
  (36, zo_al 0 37),
  (37, zo_c (.int 8) 39),
  (39, zo_newi 9 72 41),
  (41, zo_puta 0 5 44),
  (44, zo_al 0 45),
  (45, zo_c (.int 8) 47),
  (47, zo_newi 9 72 49),
  (49, zo_puta 0 6 52),
  (52, zo_al 0 53),
  (53, zo_c (.int 8) 55),
  (55, zo_newi 9 72 57),
  (57, zo_puta 0 7 60),
  (60, zo_al 0 61),
  (61, zo_c (.int 0) 62),
  (62, zo_puti 0 8 65),
  (65, zo_al 0 66),
  (66, zo_c (.int 8) 68),
  (68, zo_newi 9 72 70),
  (70, zo_puta 0 9 73),
  (73, zo_al 0 74),
  (74, zo_c (.int 8) 76),
  (76, zo_newi 9 72 78),
  (78, zo_puta 0 10 81),
  (81, zo_al 0 82),
  (82, zo_c (.int 8) 84),
  (84, zo_newi 9 72 86),
  (86, zo_puta 0 11 89),
  (89, zo_al 0 90),
  (90, zo_c (.int 8) 92),
  (92, zo_newi 9 72 94),
  (94, zo_puta 0 12 97),
  (97, zo_al 0 98),
  (98, zo_c (.int 0) 99),
  (99, zo_puti 0 13 102),
  (102, zo_vr 9 72)]
def tb_H_become : zT := [
  (0, zo_al 0 1),
  (1, zo_al 1 2),
  (2, zo_get 0 0 5),
  (5, zo_puti 0 0 8),
  (8, zo_al 0 9),
  (9, zo_al 1 10),
  (10, zo_get 0 1 13),
  (13, zo_puti 0 1 16),
  (16, zo_al 0 17),
  (17, zo_al 1 18),
  (18, zo_get 0 2 21),
  (21, zo_puti 0 2 24),
  (24, zo_al 1 25),
  (25, zo_get 0 3 28),
  (28, zo_c (.int 0) 29),
  (29, zo_al 0 30),
  (30, zo_get 0 3 33),
  (33, zo_c (.int 0) 34),
  (34, zo_c (.int 8) 36),
  (36, zo_cpi 39),
  (39, zo_al 1 40),
  (40, zo_get 0 4 43),
  (43, zo_c (.int 0) 44),
  (44, zo_al 0 45),
  (45, zo_get 0 4 48),
  (48, zo_c (.int 0) 49),
  (49, zo_c (.int 8) 51),
  (51, zo_cpi 54),
  (54, zo_al 1 55),
  (55, zo_get 0 5 58),
  (58, zo_c (.int 0) 59),
  (59, zo_al 0 60),
  (60, zo_get 0 5 63),
  (63, zo_c (.int 0) 64),
  (64, zo_c (.int 8) 66),
  (66, zo_cpi 69),
  (69, zo_al 1 70),
  (70, zo_get 0 6 73),
  (73, zo_c (.int 0) 74),
  (74, zo_al 0 75),
  (75, zo_get 0 6 78),
  (78, zo_c (.int 0) 79),
  (79, zo_c (.int 8) 81),
  (81, zo_cpi 84),
  (84, zo_al 1 85),
  (85, zo_get 0 7 88),
  (88, zo_c (.int 0) 89),
  (89, zo_al 0 90),
  (90, zo_get 0 7 93),
  (93, zo_c (.int 0) 94),
  (94, zo_c (.int 8) 96),
  (96, zo_cpi 99),
  (99, zo_al 0 100),
  (100, zo_al 1 101),
  (101, zo_get 0 8 104),
  (104, zo_puti 0 8 107),
  (107, zo_al 1 108),
  (108, zo_get 0 9 111),
  (111, zo_c (.int 0) 112),
  (112, zo_al 0 113),
  (113, zo_get 0 9 116),
  (116, zo_c (.int 0) 117),
  (117, zo_c (.int 8) 119),
  (119, zo_cpi 122),
  (122, zo_al 1 123),
  (123, zo_get 0 10 126),
  (126, zo_c (.int 0) 127),
  (127, zo_al 0 128),
  (128, zo_get 0 10 131),
  (131, zo_c (.int 0) 132),
  (132, zo_c (.int 8) 134),
  (134, zo_cpi 137),
  (137, zo_al 1 138),
  (138, zo_get 0 11 141),
  (141, zo_c (.int 0) 142),
  (142, zo_al 0 143),
  (143, zo_get 0 11 146),
  (146, zo_c (.int 0) 147),
  (147, zo_c (.int 8) 149),
  (149, zo_cpi 152),
  (152, zo_vr 0 0)]
def tb_H_addInlaw : zT := [
  (0, zo_al 0 1),
  (1, zo_get 0 2 4),
  (4, zo_c (.int 8) 6),
  (6, zo_clt 11 9),
  (9, zo_c (.int (-1)) 10),
  (10, zo_ir 0 0),
  (11, zo_al 0 12),
  (12, zo_get 0 2 15),
  (15, zo_is 2 16),
  (16, zo_al 0 17),
  (17, zo_get 0 3 20),
  (20, zo_il 2 21),
  (21, zo_il 1 22),
  (22, zo_iast 23),
  (23, zo_al 0 24),
  (24, zo_get 0 4 27),
  (27, zo_il 2 28),
  (28, zo_c (.int 40) 30),
  (30, zo_iast 31),
  (31, zo_al 0 32),
  (32, zo_get 0 5 35),
  (35, zo_il 2 36),
  (36, zo_c (.int 0) 37),
  (37, zo_iast 38),
  (38, zo_al 0 39),
  (39, zo_get 0 6 42),
  (42, zo_il 2 43),
  (43, zo_c (.int 0) 44),
  (44, zo_iast 45),
  (45, zo_al 0 46),
  (46, zo_get 0 7 49),
  (49, zo_il 2 50),
  (50, zo_c (.int 0) 51),
  (51, zo_iast 52),
  (52, zo_al 0 53),
  (53, zo_dup 54),
  (54, zo_get 0 2 57),
  (57, zo_c (.int 1) 58),
  (58, zo_iadd 59),
  (59, zo_puti 0 2 62),
  (62, zo_il 2 63),
  (63, zo_ir 0 0)]
def tb_H_addCouple : zT := [
  (0, zo_al 0 1),
  (1, zo_get 0 8 4),
  (4, zo_c (.int 8) 6),
  (6, zo_clt 11 9),
  (9, zo_c (.int (-1)) 10),
  (10, zo_ir 0 0),
  (11, zo_al 0 12),
  (12, zo_get 0 8 15),
  (15, zo_is 2 16),
  (16, zo_al 0 17),
  (17, zo_get 0 9 20),
  (20, zo_il 2 21),
  (21, zo_il 1 22),
  (22, zo_iast 23),
  (23, zo_al 0 24),
  (24, zo_get 0 10 27),
  (27, zo_il 2 28),
  (28, zo_c (.int 0) 29),
  (29, zo_iast 30),
  (30, zo_al 0 31),
  (31, zo_get 0 11 34),
  (34, zo_il 2 35),
  (35, zo_c (.int (-1)) 36),
  (36, zo_iast 37),
  (37, zo_al 0 38),
  (38, zo_dup 39),
  (39, zo_get 0 8 42),
  (42, zo_c (.int 1) 43),
  (43, zo_iadd 44),
  (44, zo_puti 0 8 47),
  (47, zo_il 2 48),
  (48, zo_ir 0 0)]
def tb_H_firstCouple : zT := [
  (0, zo_al 0 1),
  (1, zo_get 0 8 4),
  (4, zo_ifle 19 7),
  (7, zo_al 0 8),
  (8, zo_get 0 0 11),
  (11, zo_al 0 12),
  (12, zo_get 0 8 15),
  (15, zo_irem 16),
  (16, zo_goto 20),
  (19, zo_c (.int (-1)) 20),
  (20, zo_ir 0 0)]
def tb_H_satOnes : zT := [
  (0, zo_c (.int 0) 1),
  (1, zo_is 1 2),
  (2, zo_c (.int 0) 3),
  (3, zo_is 2 4),
  (4, zo_il 2 5),
  (5, zo_al 0 6),
  (6, zo_get 0 2 9),
  (9, zo_cge 33 12),
  (12, zo_al 0 13),
  (13, zo_get 0 5 16),
  (16, zo_il 2 17),
  (17, zo_iald 18),
  (18, zo_ifeq 27 21),
  (21, zo_il 1 22),
  (22, zo_c (.int 1) 23),
  (23, zo_il 2 24),
  (24, zo_ishl 25),
  (25, zo_ior 26),
  (26, zo_is 1 27),
  (27, zo_inc 2 1 30),
  (30, zo_goto 4),
  (33, zo_il 1 34),
  (34, zo_ir 0 0)]
def tb_H_wellOfAll : zT := [
  (0, zo_al 0 1),
  (1, zo_get 0 10 4),
  (4, zo_al 0 5),
  (5, zo_get 0 8 8),
  (8, zo_cs 30 2 11),
  (11, zo_ir 0 0)]
def tb_H_warmOfAll : zT := [
  (0, zo_al 0 1),
  (1, zo_get 0 4 4),
  (4, zo_al 0 5),
  (5, zo_get 0 2 8),
  (8, zo_cs 30 2 11),
  (11, zo_ir 0 0)]
def tb_H_hadOfAll : zT := [
  (0, zo_al 0 1),
  (1, zo_get 0 7 4),
  (4, zo_al 0 5),
  (5, zo_get 0 2 8),
  (8, zo_cs 30 2 11),
  (11, zo_ir 0 0)]
def tb_H_charmsOf : zT := [
  (0, zo_al 0 1),
  (1, zo_get 0 11 4),
  (4, zo_il 2 5),
  (5, zo_iald 6),
  (6, zo_il 1 7),
  (7, zo_cne 14 10),
  (10, zo_c (.int 1) 11),
  (11, zo_goto 15),
  (14, zo_c (.int 0) 15),
  (15, zo_is 3 16),
  (16, zo_al 0 17),
  (17, zo_get 0 3 20),
  (20, zo_il 1 21),
  (21, zo_iald 22),
  (22, zo_al 0 23),
  (23, zo_get 0 4 26),
  (26, zo_il 1 27),
  (27, zo_iald 28),
  (28, zo_al 0 29),
  (29, zo_get 0 9 32),
  (32, zo_il 2 33),
  (33, zo_iald 34),
  (34, zo_il 3 35),
  (35, zo_al 0 36),
  (36, zo_get 0 1 39),
  (39, zo_cs 2 5 42),
  (42, zo_ir 0 0)]
def tb_H_doesOf : zT := [
  (0, zo_al 0 1),
  (1, zo_get 0 3 4),
  (4, zo_il 1 5),
  (5, zo_iald 6),
  (6, zo_al 0 7),
  (7, zo_get 0 4 10),
  (10, zo_il 1 11),
  (11, zo_iald 12),
  (12, zo_al 0 13),
  (13, zo_get 0 9 16),
  (16, zo_il 2 17),
  (17, zo_iald 18),
  (18, zo_al 0 19),
  (19, zo_get 0 1 22),
  (22, zo_cs 3 4 25),
  (25, zo_ir 0 0)]
def tb_H_thawsOf : zT := [
  (0, zo_al 0 1),
  (1, zo_get 0 3 4),
  (4, zo_il 1 5),
  (5, zo_iald 6),
  (6, zo_al 0 7),
  (7, zo_get 0 9 10),
  (10, zo_il 2 11),
  (11, zo_iald 12),
  (12, zo_cs 4 2 15),
  (15, zo_ir 0 0)]
def tb_H_chillsOf : zT := [
  (0, zo_al 0 1),
  (1, zo_get 0 3 4),
  (4, zo_il 1 5),
  (5, zo_iald 6),
  (6, zo_al 0 7),
  (7, zo_get 0 1 10),
  (10, zo_cs 5 2 13),
  (13, zo_ir 0 0)]
def tb_H_goSundays : zT := [
  (0, zo_c (.int 0) 1),
  (1, zo_is 2 2),
  (2, zo_il 2 3),
  (3, zo_il 1 4),
  (4, zo_cge 17 7),
  (7, zo_al 0 8),
  (8, zo_cv 0 26 0 11),
  (11, zo_inc 2 1 14),
  (14, zo_goto 2),
  (17, zo_vr 0 0)]
def tb_H_goOneSunday : zT := [
  (0, zo_al 0 1),
  (1, zo_c (.int 0) 2),
  (2, zo_puti 0 13 5),
  (5, zo_al 0 6),
  (6, zo_cv 0 16 0 9),
  (9, zo_is 1 10),
  (10, zo_c (.int 0) 11),
  (11, zo_is 2 12),
  (12, zo_il 2 13),
  (13, zo_al 0 14),
  (14, zo_get 0 8 17),
  (17, zo_cge 49 20),
  (20, zo_al 0 21),
  (21, zo_il 1 22),
  (22, zo_cv 0 27 1 25),
  (25, zo_il 1 26),
  (26, zo_c (.int 1) 27),
  (27, zo_iadd 28),
  (28, zo_al 0 29),
  (29, zo_get 0 8 32),
  (32, zo_cge 41 35),
  (35, zo_il 1 36),
  (36, zo_c (.int 1) 37),
  (37, zo_iadd 38),
  (38, zo_goto 42),
  (41, zo_c (.int 0) 42),
  (42, zo_is 1 43),
  (43, zo_inc 2 1 46),
  (46, zo_goto 12),
  (49, zo_c (.int 0) 50),
  (50, zo_is 2 51),
  (51, zo_il 2 52),
  (52, zo_al 0 53),
  (53, zo_get 0 2 56),
  (56, zo_cge 117 59),
  (59, zo_al 0 60),
  (60, zo_il 2 61),
  (61, zo_cv 0 29 1 64),
  (64, zo_ifeq 111 67),
  (67, zo_al 0 68),
  (68, zo_get 0 6 71),
  (71, zo_il 2 72),
  (72, zo_al 0 73),
  (73, zo_get 0 6 76),
  (76, zo_il 2 77),
  (77, zo_iald 78),
  (78, zo_c (.int 1) 79),
  (79, zo_iadd 80),
  (80, zo_c (.int 9999) 83),
  (83, zo_min 86),
  (86, zo_iast 87),
  (87, zo_al 0 88),
  (88, zo_get 0 4 91),
  (91, zo_il 2 92),
  (92, zo_al 0 93),
  (93, zo_get 0 4 96),
  (96, zo_il 2 97),
  (97, zo_iald 98),
  (98, zo_al 0 99),
  (99, zo_il 2 100),
  (100, zo_cv 0 24 1 103),
  (103, zo_isub 104),
  (104, zo_c (.int 0) 105),
  (105, zo_c (.int 99) 107),
  (107, zo_cs 31 3 110),
  (110, zo_iast 111),
  (111, zo_inc 2 1 114),
  (114, zo_goto 51),
  (117, zo_al 0 118),
  (118, zo_dup 119),
  (119, zo_get 0 0 122),
  (122, zo_c (.int 1) 123),
  (123, zo_iadd 124),
  (124, zo_puti 0 0 127),
  (127, zo_vr 0 0)]
def tb_H_receive : zT := [
  (0, zo_al 0 1),
  (1, zo_il 1 2),
  (2, zo_cv 0 28 1 5),
  (5, zo_is 2 6),
  (6, zo_al 0 7),
  (7, zo_get 0 12 10),
  (10, zo_il 1 11),
  (11, zo_il 2 12),
  (12, zo_iast 13),
  (13, zo_il 2 14),
  (14, zo_c (.int (-1)) 15),
  (15, zo_cne 42 18),
  (18, zo_al 0 19),
  (19, zo_get 0 10 22),
  (22, zo_il 1 23),
  (23, zo_al 0 24),
  (24, zo_get 0 10 27),
  (27, zo_il 1 28),
  (28, zo_iald 29),
  (29, zo_c (.int 1) 30),
  (30, zo_isub 31),
  (31, zo_c (.int (-999)) 34),
  (34, zo_c (.int 999) 37),
  (37, zo_cs 31 3 40),
  (40, zo_iast 41),
  (41, zo_vr 0 0),
  (42, zo_al 0 43),
  (43, zo_dup 44),
  (44, zo_get 0 13 47),
  (47, zo_c (.int 1) 48),
  (48, zo_il 2 49),
  (49, zo_ishl 50),
  (50, zo_ior 51),
  (51, zo_puti 0 13 54),
  (54, zo_al 0 55),
  (55, zo_get 0 10 58),
  (58, zo_il 1 59),
  (59, zo_al 0 60),
  (60, zo_get 0 10 63),
  (63, zo_il 1 64),
  (64, zo_iald 65),
  (65, zo_al 0 66),
  (66, zo_il 2 67),
  (67, zo_il 1 68),
  (68, zo_cv 0 22 2 71),
  (71, zo_iadd 72),
  (72, zo_c (.int (-999)) 75),
  (75, zo_c (.int 999) 78),
  (78, zo_cs 31 3 81),
  (81, zo_iast 82),
  (82, zo_al 0 83),
  (83, zo_get 0 11 86),
  (86, zo_il 1 87),
  (87, zo_il 2 88),
  (88, zo_iast 89),
  (89, zo_al 0 90),
  (90, zo_get 0 7 93),
  (93, zo_il 2 94),
  (94, zo_al 0 95),
  (95, zo_get 0 7 98),
  (98, zo_il 2 99),
  (99, zo_iald 100),
  (100, zo_c (.int 1) 101),
  (101, zo_iadd 102),
  (102, zo_c (.int 9999) 105),
  (105, zo_min 108),
  (108, zo_iast 109),
  (109, zo_al 0 110),
  (110, zo_get 0 4 113),
  (113, zo_il 2 114),
  (114, zo_al 0 115),
  (115, zo_get 0 4 118),
  (118, zo_il 2 119),
  (119, zo_iald 120),
  (120, zo_al 0 121),
  (121, zo_il 2 122),
  (122, zo_il 1 123),
  (123, zo_cv 0 23 2 126),
  (126, zo_iadd 127),
  (127, zo_c (.int 0) 128),
  (128, zo_c (.int 99) 130),
  (130, zo_cs 31 3 133),
  (133, zo_iast 134),
  (134, zo_vr 0 0)]
def tb_H_chosenBy : zT := [
  (0, zo_c (.int (-1)) 1),
  (1, zo_is 2 2),
  (2, zo_c (.int 0) 3),
  (3, zo_is 3 4),
  (4, zo_c (.int 0) 5),
  (5, zo_is 4 7),
  (7, zo_il 4 9),
  (9, zo_al 0 10),
  (10, zo_get 0 2 13),
  (13, zo_cge 67 16),
  (16, zo_al 0 17),
  (17, zo_il 4 19),
  (19, zo_cv 0 29 1 22),
  (22, zo_ifeq 61 25),
  (25, zo_al 0 26),
  (26, zo_get 0 5 29),
  (29, zo_il 4 31),
  (31, zo_iald 32),
  (32, zo_ifne 61 35),
  (35, zo_al 0 36),
  (36, zo_il 4 38),
  (38, zo_il 1 39),
  (39, zo_cv 0 21 2 42),
  (42, zo_is 5 44),
  (44, zo_il 2 45),
  (45, zo_c (.int (-1)) 46),
  (46, zo_ceq 55 49),
  (49, zo_il 5 51),
  (51, zo_il 3 52),
  (52, zo_cle 61 55),
  (55, zo_il 4 57),
  (57, zo_is 2 58),
  (58, zo_il 5 60),
  (60, zo_is 3 61),
  (61, zo_inc 4 1 64),
  (64, zo_goto 7),
  (67, zo_il 2 68),
  (68, zo_ir 0 0)]
def tb_H_isFree : zT := [
  (0, zo_al 0 1),
  (1, zo_get 0 13 4),
  (4, zo_c (.int 1) 5),
  (5, zo_il 1 6),
  (6, zo_ishl 7),
  (7, zo_iand 8),
  (8, zo_ifne 15 11),
  (11, zo_c (.int 1) 12),
  (12, zo_goto 16),
  (15, zo_c (.int 0) 16),
  (16, zo_zr 0 0)]
def tb_H_sum : zT := [
  (0, zo_c (.int 0) 1),
  (1, zo_is 2 2),
  (2, zo_c (.int 0) 3),
  (3, zo_is 3 4),
  (4, zo_il 3 5),
  (5, zo_il 1 6),
  (6, zo_cge 27 9),
  (9, zo_il 3 10),
  (10, zo_al 0 11),
  (11, zo_alen 12),
  (12, zo_cge 27 15),
  (15, zo_il 2 16),
  (16, zo_al 0 17),
  (17, zo_il 3 18),
  (18, zo_iald 19),
  (19, zo_iadd 20),
  (20, zo_is 2 21),
  (21, zo_inc 3 1 24),
  (24, zo_goto 4),
  (27, zo_il 2 28),
  (28, zo_ir 0 0)]
def tb_H_hold : zT := [
  (0, zo_il 1 1),
  (1, zo_il 0 2),
  (2, zo_il 2 3),
  (3, zo_min 6),
  (6, zo_max 9),
  (9, zo_ir 0 0)]
def tb_T_init : zT := [
  (0, zo_al 0 1),
  (1, zo_obj 4),
  (4, zo_al 0 5),
  (5, zo_c (.int 120) 7),
  (7, zo_newi 1 120 9),
  (9, zo_puta 2 0 12),
  (12, zo_al 0 13),
  (13, zo_c (.int 0) 14),
  (14, zo_puti 2 1 17),
  (17, zo_al 0 18),
  (18, zo_c (.int 0) 19),
  (19, zo_puti 2 2 22),
  (22, zo_al 0 23),
  (23, zo_c (.int 0) 24),
  (24, zo_puti 2 3 27),
  (27, zo_al 0 28),
  (28, zo_c (.int 0) 29),
  (29, zo_puti 2 4 32),
  (32, zo_al 0 33),
  (33, zo_c (.int 0) 34),
  (34, zo_puti 2 5 37),
  (37, zo_vr 1 120)]
def tb_T_tellTo : zT := [
  (0, zo_al 0 1),
  (1, zo_c (.int 0) 2),
  (2, zo_puti 2 4 5),
  (5, zo_c (.int 1) 6),
  (6, zo_is 2 7),
  (7, zo_il 2 8),
  (8, zo_c (.int 120) 10),
  (10, zo_cgt 62 13),
  (13, zo_al 0 14),
  (14, zo_cv 2 39 0 17),
  (17, zo_al 0 18),
  (18, zo_al 1 19),
  (19, zo_cv 2 34 1 22),
  (22, zo_ifne 32 25),
  (25, zo_c (.int (-1)) 26),
  (26, zo_al 0 27),
  (27, zo_get 2 3 30),
  (30, zo_isub 31),
  (31, zo_ir 0 0),
  (32, zo_al 0 33),
  (33, zo_get 2 2 36),
  (36, zo_ifne 41 39),
  (39, zo_il 2 40),
  (40, zo_ir 0 0),
  (41, zo_al 0 42),
  (42, zo_get 2 2 45),
  (45, zo_c (.int 3) 46),
  (46, zo_ceq 56 49),
  (49, zo_c (.int (-1)) 50),
  (50, zo_al 0 51),
  (51, zo_get 2 3 54),
  (54, zo_isub 55),
  (55, zo_ir 0 0),
  (56, zo_inc 2 1 59),
  (59, zo_goto 7),
  (62, zo_c (.int (-1)) 63),
  (63, zo_al 0 64),
  (64, zo_get 2 3 67),
  (67, zo_isub 68),
  (68, zo_ir 0 0)]
def tb_T_tellItem : zT := [
  (0, zo_c (.int 0) 1),
  (1, zo_is 2 2),
  (2, zo_il 2 3),
  (3, zo_c (.int 6) 5),
  (5, zo_cge 32 8),
  (8, zo_al 0 9),
  (9, zo_il 2 10),
  (10, zo_cs 1 1 13),
  (13, zo_cv 2 42 1 16),
  (16, zo_ifeq 26 19),
  (19, zo_al 0 20),
  (20, zo_al 1 21),
  (21, zo_il 2 22),
  (22, zo_cv 2 35 2 25),
  (25, zo_zr 0 0),
  (26, zo_inc 2 1 29),
  (29, zo_goto 2),
  (32, zo_al 0 33),
  (33, zo_c (.ref 1006) 35),
  (35, zo_cv 2 42 1 38),
  (38, zo_ifeq 47 41),
  (41, zo_al 0 42),
  (42, zo_al 1 43),
  (43, zo_cv 2 36 1 46),
  (46, zo_zr 0 0),
  (47, zo_al 0 48),
  (48, zo_c (.ref 1007) 50),
  (50, zo_cv 2 42 1 53),
  (53, zo_ifeq 62 56),
  (56, zo_al 0 57),
  (57, zo_al 1 58),
  (58, zo_cv 2 37 1 61),
  (61, zo_zr 0 0),
  (62, zo_al 0 63),
  (63, zo_c (.ref 1008) 65),
  (65, zo_cv 2 42 1 68),
  (68, zo_ifeq 83 71),
  (71, zo_al 0 72),
  (72, zo_al 1 73),
  (73, zo_cv 2 38 1 76),
  (76, zo_ifeq 83 79),
  (79, zo_c (.int 1) 80),
  (80, zo_goto 84),
  (83, zo_c (.int 0) 84),
  (84, zo_zr 0 0)]
def tb_T_tellInlaw : zT := [
  (0, zo_al 1 1),
  (1, zo_il 2 2),
  (2, zo_cv 0 14 1 5),
  (5, zo_is 3 6),
  (6, zo_il 3 7),
  (7, zo_c (.int (-1)) 8),
  (8, zo_cne 13 11),
  (11, zo_c (.int 0) 12),
  (12, zo_zr 0 0),
  (13, zo_al 0 14),
  (14, zo_cv 2 39 0 17),
  (17, zo_al 0 18),
  (18, zo_c (.ref 1009) 20),
  (20, zo_cv 2 42 1 23),
  (23, zo_ifeq 55 26),
  (26, zo_al 0 27),
  (27, zo_cv 2 39 0 30),
  (30, zo_al 0 31),
  (31, zo_c (.int 99) 33),
  (33, zo_cv 2 43 1 36),
  (36, zo_ifne 41 39),
  (39, zo_c (.int 0) 40),
  (40, zo_zr 0 0),
  (41, zo_al 1 42),
  (42, zo_get 0 4 45),
  (45, zo_il 3 46),
  (46, zo_al 0 47),
  (47, zo_get 2 5 50),
  (50, zo_iast 51),
  (51, zo_al 0 52),
  (52, zo_cv 2 39 0 55),
  (55, zo_al 0 56),
  (56, zo_c (.ref 1010) 58),
  (58, zo_cv 2 42 1 61),
  (61, zo_ifeq 75 64),
  (64, zo_al 1 65),
  (65, zo_get 0 5 68),
  (68, zo_il 3 69),
  (69, zo_c (.int 1) 70),
  (70, zo_iast 71),
  (71, zo_al 0 72),
  (72, zo_cv 2 39 0 75),
  (75, zo_c (.int 1) 76),
  (76, zo_zr 0 0)]
def tb_T_tellCouple : zT := [
  (0, zo_al 1 1),
  (1, zo_c (.int 0) 2),
  (2, zo_cv 0 15 1 5),
  (5, zo_is 2 6),
  (6, zo_il 2 7),
  (7, zo_c (.int (-1)) 8),
  (8, zo_cne 13 11),
  (11, zo_c (.int 0) 12),
  (12, zo_zr 0 0),
  (13, zo_al 0 14),
  (14, zo_cv 2 39 0 17),
  (17, zo_al 0 18),
  (18, zo_c (.int 9) 20),
  (20, zo_cv 2 43 1 23),
  (23, zo_ifne 28 26),
  (26, zo_c (.int 0) 27),
  (27, zo_zr 0 0),
  (28, zo_al 1 29),
  (29, zo_get 0 9 32),
  (32, zo_il 2 33),
  (33, zo_al 0 34),
  (34, zo_get 2 5 37),
  (37, zo_iast 38),
  (38, zo_al 0 39),
  (39, zo_cv 2 39 0 42),
  (42, zo_al 0 43),
  (43, zo_c (.ref 1011) 45),
  (45, zo_cv 2 42 1 48),
  (48, zo_ifeq 84 51),
  (51, zo_al 0 52),
  (52, zo_cv 2 39 0 55),
  (55, zo_al 0 56),
  (56, zo_al 1 57),
  (57, zo_get 0 2 60),
  (60, zo_c (.int 1) 61),
  (61, zo_isub 62),
  (62, zo_cv 2 43 1 65),
  (65, zo_ifne 70 68),
  (68, zo_c (.int 0) 69),
  (69, zo_zr 0 0),
  (70, zo_al 1 71),
  (71, zo_get 0 11 74),
  (74, zo_il 2 75),
  (75, zo_al 0 76),
  (76, zo_get 2 5 79),
  (79, zo_iast 80),
  (80, zo_al 0 81),
  (81, zo_cv 2 39 0 84),
  (84, zo_c (.int 1) 85),
  (85, zo_zr 0 0)]
def tb_T_tellFire : zT := [
  (0, zo_al 0 1),
  (1, zo_cv 2 39 0 4),
  (4, zo_al 0 5),
  (5, zo_c (.int 20) 7),
  (7, zo_cv 2 43 1 10),
  (10, zo_ifne 15 13),
  (13, zo_c (.int 0) 14),
  (14, zo_zr 0 0),
  (15, zo_al 1 16),
  (16, zo_al 0 17),
  (17, zo_get 2 5 20),
  (20, zo_puti 0 1 23),
  (23, zo_al 0 24),
  (24, zo_cv 2 39 0 27),
  (27, zo_c (.int 1) 28),
  (28, zo_zr 0 0)]
def tb_T_tellSit : zT := [
  (0, zo_al 0 1),
  (1, zo_cv 2 39 0 4),
  (4, zo_al 0 5),
  (5, zo_al 1 6),
  (6, zo_get 0 2 9),
  (9, zo_c (.int 1) 10),
  (10, zo_isub 11),
  (11, zo_cv 2 43 1 14),
  (14, zo_ifne 19 17),
  (17, zo_c (.int 0) 18),
  (18, zo_zr 0 0),
  (19, zo_al 1 20),
  (20, zo_get 0 5 23),
  (23, zo_al 0 24),
  (24, zo_get 2 5 27),
  (27, zo_c (.int 1) 28),
  (28, zo_iast 29),
  (29, zo_al 0 30),
  (30, zo_cv 2 39 0 33),
  (33, zo_c (.int 1) 34),
  (34, zo_zr 0 0)]
def tb_T_advance : zT := [
  (0, zo_al 0 1),
  (1, zo_get 2 4 4),
  (4, zo_al 0 5),
  (5, zo_get 2 1 8),
  (8, zo_cge 38 11),
  (11, zo_al 0 12),
  (12, zo_get 2 0 15),
  (15, zo_al 0 16),
  (16, zo_get 2 4 19),
  (19, zo_iald 20),
  (20, zo_c (.int 32) 22),
  (22, zo_cne 38 25),
  (25, zo_al 0 26),
  (26, zo_dup 27),
  (27, zo_get 2 4 30),
  (30, zo_c (.int 1) 31),
  (31, zo_iadd 32),
  (32, zo_puti 2 4 35),
  (35, zo_goto 0),
  (38, zo_al 0 39),
  (39, zo_al 0 40),
  (40, zo_get 2 4 43),
  (43, zo_puti 2 3 46),
  (46, zo_al 0 47),
  (47, zo_get 2 3 50),
  (50, zo_al 0 51),
  (51, zo_get 2 1 54),
  (54, zo_clt 65 57),
  (57, zo_al 0 58),
  (58, zo_c (.int 0) 59),
  (59, zo_puti 2 2 62),
  (62, zo_goto 152),
  (65, zo_al 0 66),
  (66, zo_get 2 0 69),
  (69, zo_al 0 70),
  (70, zo_get 2 3 73),
  (73, zo_iald 74),
  (74, zo_cs 44 1 77),
  (77, zo_ifeq 92 80),
  (80, zo_al 0 81),
  (81, zo_c (.int 1) 82),
  (82, zo_puti 2 2 85),
  (85, zo_al 0 86),
  (86, zo_cv 2 40 0 89),
  (89, zo_goto 152),
  (92, zo_al 0 93),
  (93, zo_get 2 0 96),
  (96, zo_al 0 97),
  (97, zo_get 2 3 100),
  (100, zo_iald 101),
  (101, zo_cs 45 1 104),
  (104, zo_ifeq 119 107),
  (107, zo_al 0 108),
  (108, zo_c (.int 2) 109),
  (109, zo_puti 2 2 112),
  (112, zo_al 0 113),
  (113, zo_cv 2 41 0 116),
  (116, zo_goto 152),
  (119, zo_al 0 120),
  (120, zo_al 0 121),
  (121, zo_get 2 0 124),
  (124, zo_al 0 125),
  (125, zo_get 2 3 128),
  (128, zo_iald 129),
  (129, zo_c (.int 59) 131),
  (131, zo_cne 138 134),
  (134, zo_c (.int 3) 135),
  (135, zo_goto 139),
  (138, zo_c (.int 4) 139),
  (139, zo_puti 2 2 142),
  (142, zo_al 0 143),
  (143, zo_dup 144),
  (144, zo_get 2 4 147),
  (147, zo_c (.int 1) 148),
  (148, zo_iadd 149),
  (149, zo_puti 2 4 152),
  (152, zo_vr 0 0)]
def tb_T_takeWord : zT := [
  (0, zo_al 0 1),
  (1, zo_get 2 4 4),
  (4, zo_al 0 5),
  (5, zo_get 2 1 8),
  (8, zo_cge 39 11),
  (11, zo_al 0 12),
  (12, zo_get 2 0 15),
  (15, zo_al 0 16),
  (16, zo_get 2 4 19),
  (19, zo_iald 20),
  (20, zo_cs 44 1 23),
  (23, zo_ifeq 39 26),
  (26, zo_al 0 27),
  (27, zo_dup 28),
  (28, zo_get 2 4 31),
  (31, zo_c (.int 1) 32),
  (32, zo_iadd 33),
  (33, zo_puti 2 4 36),
  (36, zo_goto 0),
  (39, zo_vr 0 0)]
def tb_T_takeNumber : zT := [
  (0, zo_al 0 1),
  (1, zo_c (.int 0) 2),
  (2, zo_puti 2 5 5),
  (5, zo_al 0 6),
  (6, zo_get 2 4 9),
  (9, zo_al 0 10),
  (10, zo_get 2 1 13),
  (13, zo_cge 74 16),
  (16, zo_al 0 17),
  (17, zo_get 2 0 20),
  (20, zo_al 0 21),
  (21, zo_get 2 4 24),
  (24, zo_iald 25),
  (25, zo_cs 45 1 28),
  (28, zo_ifeq 74 31),
  (31, zo_al 0 32),
  (32, zo_c (.int 10) 34),
  (34, zo_al 0 35),
  (35, zo_get 2 5 38),
  (38, zo_imul 39),
  (39, zo_al 0 40),
  (40, zo_get 2 0 43),
  (43, zo_al 0 44),
  (44, zo_get 2 4 47),
  (47, zo_iald 48),
  (48, zo_iadd 49),
  (49, zo_c (.int 48) 51),
  (51, zo_isub 52),
  (52, zo_c (.int 1000) 55),
  (55, zo_min 58),
  (58, zo_puti 2 5 61),
  (61, zo_al 0 62),
  (62, zo_dup 63),
  (63, zo_get 2 4 66),
  (66, zo_c (.int 1) 67),
  (67, zo_iadd 68),
  (68, zo_puti 2 4 71),
  (71, zo_goto 5),
  (74, zo_vr 0 0)]
def tb_T_isWord : zT := [
  (0, zo_al 0 1),
  (1, zo_get 2 2 4),
  (4, zo_c (.int 1) 5),
  (5, zo_cne 24 8),
  (8, zo_al 0 9),
  (9, zo_get 2 4 12),
  (12, zo_al 0 13),
  (13, zo_get 2 3 16),
  (16, zo_isub 17),
  (17, zo_al 1 18),
  (18, zo_slen zm_tx 21),
  (21, zo_ceq 26 24),
  (24, zo_c (.int 0) 25),
  (25, zo_zr 0 0),
  (26, zo_c (.int 0) 27),
  (27, zo_is 2 28),
  (28, zo_il 2 29),
  (29, zo_al 1 30),
  (30, zo_slen zm_tx 33),
  (33, zo_cge 63 36),
  (36, zo_al 0 37),
  (37, zo_get 2 0 40),
  (40, zo_al 0 41),
  (41, zo_get 2 3 44),
  (44, zo_il 2 45),
  (45, zo_iadd 46),
  (46, zo_iald 47),
  (47, zo_al 1 48),
  (48, zo_il 2 49),
  (49, zo_sch zm_tx 52),
  (52, zo_ceq 57 55),
  (55, zo_c (.int 0) 56),
  (56, zo_zr 0 0),
  (57, zo_inc 2 1 60),
  (60, zo_goto 28),
  (63, zo_c (.int 1) 64),
  (64, zo_zr 0 0)]
def tb_T_isNumberTo : zT := [
  (0, zo_al 0 1),
  (1, zo_get 2 2 4),
  (4, zo_c (.int 2) 5),
  (5, zo_cne 20 8),
  (8, zo_al 0 9),
  (9, zo_get 2 5 12),
  (12, zo_il 1 13),
  (13, zo_cgt 20 16),
  (16, zo_c (.int 1) 17),
  (17, zo_goto 21),
  (20, zo_c (.int 0) 21),
  (21, zo_zr 0 0)]
def tb_T_isLetter : zT := [
  (0, zo_il 0 1),
  (1, zo_c (.int 97) 3),
  (3, zo_clt 16 6),
  (6, zo_il 0 7),
  (7, zo_c (.int 122) 9),
  (9, zo_cgt 16 12),
  (12, zo_c (.int 1) 13),
  (13, zo_goto 17),
  (16, zo_c (.int 0) 17),
  (17, zo_zr 0 0)]
def tb_T_isDigit : zT := [
  (0, zo_il 0 1),
  (1, zo_c (.int 48) 3),
  (3, zo_clt 16 6),
  (6, zo_il 0 7),
  (7, zo_c (.int 57) 9),
  (9, zo_cgt 16 12),
  (12, zo_c (.int 1) 13),
  (13, zo_goto 17),
  (16, zo_c (.int 0) 17),
  (17, zo_zr 0 0)]
def tb_X_init : zT := [
  (0, zo_al 0 1),
  (1, zo_obj 4),
  (4, zo_al 0 5),
  (5, zo_new 0 [.int 0, .int 0, .int 0, .null, .null, .null, .null, .null, .int 0, .null, .null, .null, .null, .int 0] 14 42 567 8),
  (8, zo_dup 9),
  (9, zo_ci 12 0 9 72 42 567 12),
  (12, zo_puta 3 0 15),
  (15, zo_al 0 16),
  (16, zo_new 0 [.int 0, .int 0, .int 0, .null, .null, .null, .null, .null, .int 0, .null, .null, .null, .null, .int 0] 14 42 567 19),
  (19, zo_dup 20),
  (20, zo_ci 12 0 9 72 42 567 23),
  (23, zo_puta 3 1 26),
  (26, zo_al 0 27),
  (27, zo_new 0 [.int 0, .int 0, .int 0, .null, .null, .null, .null, .null, .int 0, .null, .null, .null, .null, .int 0] 14 42 567 30),
  (30, zo_dup 31),
  (31, zo_ci 12 0 9 72 42 567 34),
  (34, zo_puta 3 2 37),
  (37, zo_al 0 38),
  (38, zo_c (.int 0) 39),
  (39, zo_putz 3 3 42),
  (42, zo_al 0 43),
  (43, zo_new 2 [.null, .int 0, .int 0, .int 0, .int 0, .int 0] 6 42 567 46),
  (46, zo_dup 47),
  (47, zo_ci 32 0 1 120 42 567 50),
  (50, zo_puta 3 4 53),
  (53, zo_al 0 54),
  (54, zo_c (.int 4) 55),
  (55, zo_newq 42 567 58),
  (58, zo_puta 3 5 61),
  (61, zo_c (.int 0) 62),
  (62, zo_is 1 63),
  (63, zo_il 1 64),
  (64, zo_c (.int 4) 65),
  (65, zo_cge 87 68),
  (68, zo_al 0 69),
  (69, zo_get 3 5 72),
  (72, zo_il 1 73),
  (73, zo_new 1 [.int 0, .int 0, .null] 3 42 567 76),
  (76, zo_dup 77),
  (77, zo_ci 7 0 1 40 42 567 80),
  (80, zo_aast 1 81),
  (81, zo_inc 1 1 84),
  (84, zo_goto 63),
  (87, zo_al 0 88),
  (88, zo_c (.int 7) 90),
  (90, zo_newi 42 567 92),
  (92, zo_puta 3 6 95),
  (95, zo_vr 42 567)]
def tb_X_fire : zT := [
  (0, zo_il 1 1),
  (1, zo_c (.int 0) 2),
  (2, zo_c (.int 20) 4),
  (4, zo_cs 91 3 7),
  (7, zo_ifeq 17 10),
  (10, zo_al 0 11),
  (11, zo_c (.int (-1000000001)) 13),
  (13, zo_cv 3 84 1 16),
  (16, zo_ir 0 0),
  (17, zo_al 0 18),
  (18, zo_get 3 0 21),
  (21, zo_get 0 1 24),
  (24, zo_is 2 25),
  (25, zo_al 0 26),
  (26, zo_get 3 0 29),
  (29, zo_il 1 30),
  (30, zo_puti 0 1 33),
  (33, zo_il 2 34),
  (34, zo_ir 0 0)]
def tb_X_now : zT := [
  (0, zo_il 1 1),
  (1, zo_sw 0 [40, 48, 56, 64, 72, 84] 92),
  (40, zo_al 0 41),
  (41, zo_get 3 0 44),
  (44, zo_get 0 0 47),
  (47, zo_ir 0 0),
  (48, zo_al 0 49),
  (49, zo_get 3 0 52),
  (52, zo_get 0 1 55),
  (55, zo_ir 0 0),
  (56, zo_al 0 57),
  (57, zo_get 3 0 60),
  (60, zo_cv 0 16 0 63),
  (63, zo_ir 0 0),
  (64, zo_al 0 65),
  (65, zo_get 3 0 68),
  (68, zo_cv 0 17 0 71),
  (71, zo_ir 0 0),
  (72, zo_c (.int 10000) 75),
  (75, zo_al 0 76),
  (76, zo_get 3 0 79),
  (79, zo_cv 0 18 0 82),
  (82, zo_iadd 83),
  (83, zo_ir 0 0),
  (84, zo_al 0 85),
  (85, zo_get 3 0 88),
  (88, zo_cv 0 19 0 91),
  (91, zo_ir 0 0),
  (92, zo_al 0 93),
  (93, zo_c (.int (-1000000001)) 95),
  (95, zo_cv 3 84 1 98),
  (98, zo_ir 0 0)]
def tb_X_inlaw : zT := [
  (0, zo_il 1 1),
  (1, zo_cs 89 1 4),
  (4, zo_ifeq 14 7),
  (7, zo_al 0 8),
  (8, zo_c (.int (-1000000001)) 10),
  (10, zo_cv 3 84 1 13),
  (13, zo_ir 0 0),
  (14, zo_al 0 15),
  (15, zo_get 3 0 18),
  (18, zo_get 0 2 21),
  (21, zo_c (.int 8) 23),
  (23, zo_clt 33 26),
  (26, zo_al 0 27),
  (27, zo_c (.int (-1000000002)) 29),
  (29, zo_cv 3 84 1 32),
  (32, zo_ir 0 0),
  (33, zo_al 0 34),
  (34, zo_get 3 0 37),
  (37, zo_il 1 38),
  (38, zo_cv 0 14 1 41),
  (41, zo_ir 0 0)]
def tb_X_of : zT := [
  (0, zo_al 0 1),
  (1, zo_il 1 2),
  (2, zo_cv 3 87 1 5),
  (5, zo_ifeq 15 8),
  (8, zo_al 0 9),
  (9, zo_c (.int (-1000000001)) 11),
  (11, zo_cv 3 84 1 14),
  (14, zo_ir 0 0),
  (15, zo_il 2 16),
  (16, zo_sw 0 [56, 66, 76, 86, 96, 106] 115),
  (56, zo_al 0 57),
  (57, zo_get 3 0 60),
  (60, zo_get 0 3 63),
  (63, zo_il 1 64),
  (64, zo_iald 65),
  (65, zo_ir 0 0),
  (66, zo_al 0 67),
  (67, zo_get 3 0 70),
  (70, zo_get 0 4 73),
  (73, zo_il 1 74),
  (74, zo_iald 75),
  (75, zo_ir 0 0),
  (76, zo_al 0 77),
  (77, zo_get 3 0 80),
  (80, zo_get 0 5 83),
  (83, zo_il 1 84),
  (84, zo_iald 85),
  (85, zo_ir 0 0),
  (86, zo_al 0 87),
  (87, zo_get 3 0 90),
  (90, zo_get 0 6 93),
  (93, zo_il 1 94),
  (94, zo_iald 95),
  (95, zo_ir 0 0),
  (96, zo_al 0 97),
  (97, zo_get 3 0 100),
  (100, zo_get 0 7 103),
  (103, zo_il 1 104),
  (104, zo_iald 105),
  (105, zo_ir 0 0),
  (106, zo_al 0 107),
  (107, zo_get 3 0 110),
  (110, zo_il 1 111),
  (111, zo_cv 0 24 1 114),
  (114, zo_ir 0 0),
  (115, zo_al 0 116),
  (116, zo_c (.int (-1000000001)) 118),
  (118, zo_cv 3 84 1 121),
  (121, zo_ir 0 0)]
def tb_X_with : zT := [
  (0, zo_al 0 1),
  (1, zo_il 1 2),
  (2, zo_cv 3 87 1 5),
  (5, zo_ifne 16 8),
  (8, zo_al 0 9),
  (9, zo_il 2 10),
  (10, zo_cv 3 88 1 13),
  (13, zo_ifeq 23 16),
  (16, zo_al 0 17),
  (17, zo_c (.int (-1000000001)) 19),
  (19, zo_cv 3 84 1 22),
  (22, zo_ir 0 0),
  (23, zo_il 3 24),
  (24, zo_sw 0 [52, 62, 75] 88),
  (52, zo_al 0 53),
  (53, zo_get 3 0 56),
  (56, zo_il 1 57),
  (57, zo_il 2 58),
  (58, zo_cv 0 21 2 61),
  (61, zo_ir 0 0),
  (62, zo_c (.int 100) 64),
  (64, zo_al 0 65),
  (65, zo_get 3 0 68),
  (68, zo_il 1 69),
  (69, zo_il 2 70),
  (70, zo_cv 0 22 2 73),
  (73, zo_iadd 74),
  (74, zo_ir 0 0),
  (75, zo_c (.int 100) 77),
  (77, zo_al 0 78),
  (78, zo_get 3 0 81),
  (81, zo_il 1 82),
  (82, zo_il 2 83),
  (83, zo_cv 0 23 2 86),
  (86, zo_iadd 87),
  (87, zo_ir 0 0),
  (88, zo_al 0 89),
  (89, zo_c (.int (-1000000001)) 91),
  (91, zo_cv 3 84 1 94),
  (94, zo_ir 0 0)]
def tb_X_set : zT := [
  (0, zo_al 0 1),
  (1, zo_il 1 2),
  (2, zo_cv 3 87 1 5),
  (5, zo_ifeq 15 8),
  (8, zo_al 0 9),
  (9, zo_c (.int (-1000000001)) 11),
  (11, zo_cv 3 84 1 14),
  (14, zo_ir 0 0),
  (15, zo_il 2 16),
  (16, zo_sw 1 [48, 65, 81, 99] 117),
  (48, zo_al 0 49),
  (49, zo_al 0 50),
  (50, zo_get 3 0 53),
  (53, zo_get 0 4 56),
  (56, zo_il 1 57),
  (57, zo_il 3 58),
  (58, zo_c (.int 0) 59),
  (59, zo_c (.int 99) 61),
  (61, zo_cv 3 85 5 64),
  (64, zo_ir 0 0),
  (65, zo_al 0 66),
  (66, zo_al 0 67),
  (67, zo_get 3 0 70),
  (70, zo_get 0 5 73),
  (73, zo_il 1 74),
  (74, zo_il 3 75),
  (75, zo_c (.int 0) 76),
  (76, zo_c (.int 1) 77),
  (77, zo_cv 3 85 5 80),
  (80, zo_ir 0 0),
  (81, zo_al 0 82),
  (82, zo_al 0 83),
  (83, zo_get 3 0 86),
  (86, zo_get 0 6 89),
  (89, zo_il 1 90),
  (90, zo_il 3 91),
  (91, zo_c (.int 0) 92),
  (92, zo_c (.int 9999) 95),
  (95, zo_cv 3 85 5 98),
  (98, zo_ir 0 0),
  (99, zo_al 0 100),
  (100, zo_al 0 101),
  (101, zo_get 3 0 104),
  (104, zo_get 0 7 107),
  (107, zo_il 1 108),
  (108, zo_il 3 109),
  (109, zo_c (.int 0) 110),
  (110, zo_c (.int 9999) 113),
  (113, zo_cv 3 85 5 116),
  (116, zo_ir 0 0),
  (117, zo_al 0 118),
  (118, zo_c (.int (-1000000001)) 120),
  (120, zo_cv 3 84 1 123),
  (123, zo_ir 0 0)]
def tb_X_turn : zT := [
  (0, zo_al 0 1),
  (1, zo_il 1 2),
  (2, zo_cv 3 87 1 5),
  (5, zo_ifeq 15 8),
  (8, zo_al 0 9),
  (9, zo_c (.int (-1000000001)) 11),
  (11, zo_cv 3 84 1 14),
  (14, zo_ir 0 0),
  (15, zo_al 0 16),
  (16, zo_al 0 17),
  (17, zo_get 3 0 20),
  (20, zo_get 0 3 23),
  (23, zo_il 1 24),
  (24, zo_il 2 25),
  (25, zo_c (.int 0) 26),
  (26, zo_c (.int 5) 27),
  (27, zo_cv 3 85 5 30),
  (30, zo_ir 0 0)]
def tb_X_as : zT := [
  (0, zo_al 0 1),
  (1, zo_il 1 2),
  (2, zo_cv 3 87 1 5),
  (5, zo_ifne 15 8),
  (8, zo_il 2 9),
  (9, zo_cs 89 1 12),
  (12, zo_ifeq 22 15),
  (15, zo_al 0 16),
  (16, zo_c (.int (-1000000001)) 18),
  (18, zo_cv 3 84 1 21),
  (21, zo_ir 0 0),
  (22, zo_al 0 23),
  (23, zo_get 3 0 26),
  (26, zo_get 0 3 29),
  (29, zo_il 1 30),
  (30, zo_iald 31),
  (31, zo_il 2 32),
  (32, zo_cs 0 2 35),
  (35, zo_ifne 45 38),
  (38, zo_al 0 39),
  (39, zo_c (.int (-1000000003)) 41),
  (41, zo_cv 3 84 1 44),
  (44, zo_ir 0 0),
  (45, zo_al 0 46),
  (46, zo_get 3 0 49),
  (49, zo_get 0 4 52),
  (52, zo_il 1 53),
  (53, zo_iald 54),
  (54, zo_ir 0 0)]
def tb_X_couple : zT := [
  (0, zo_il 1 1),
  (1, zo_c (.int 0) 2),
  (2, zo_c (.int 9) 4),
  (4, zo_cs 91 3 7),
  (7, zo_ifeq 17 10),
  (10, zo_al 0 11),
  (11, zo_c (.int (-1000000001)) 13),
  (13, zo_cv 3 84 1 16),
  (16, zo_ir 0 0),
  (17, zo_al 0 18),
  (18, zo_get 3 0 21),
  (21, zo_get 0 8 24),
  (24, zo_c (.int 8) 26),
  (26, zo_clt 36 29),
  (29, zo_al 0 30),
  (30, zo_c (.int (-1000000002)) 32),
  (32, zo_cv 3 84 1 35),
  (35, zo_ir 0 0),
  (36, zo_al 0 37),
  (37, zo_get 3 0 40),
  (40, zo_il 1 41),
  (41, zo_cv 0 15 1 44),
  (44, zo_ir 0 0)]
def tb_X_coupleOf : zT := [
  (0, zo_al 0 1),
  (1, zo_il 1 2),
  (2, zo_cv 3 88 1 5),
  (5, zo_ifeq 15 8),
  (8, zo_al 0 9),
  (9, zo_c (.int (-1000000001)) 11),
  (11, zo_cv 3 84 1 14),
  (14, zo_ir 0 0),
  (15, zo_il 2 16),
  (16, zo_sw 0 [48, 58, 72, 82] 110),
  (48, zo_al 0 49),
  (49, zo_get 3 0 52),
  (52, zo_get 0 9 55),
  (55, zo_il 1 56),
  (56, zo_iald 57),
  (57, zo_ir 0 0),
  (58, zo_c (.int 10000) 61),
  (61, zo_al 0 62),
  (62, zo_get 3 0 65),
  (65, zo_get 0 10 68),
  (68, zo_il 1 69),
  (69, zo_iald 70),
  (70, zo_iadd 71),
  (71, zo_ir 0 0),
  (72, zo_al 0 73),
  (73, zo_get 3 0 76),
  (76, zo_get 0 11 79),
  (79, zo_il 1 80),
  (80, zo_iald 81),
  (81, zo_ir 0 0),
  (82, zo_al 0 83),
  (83, zo_get 3 1 86),
  (86, zo_al 0 87),
  (87, zo_get 3 0 90),
  (90, zo_cv 0 13 1 93),
  (93, zo_al 0 94),
  (94, zo_get 3 1 97),
  (97, zo_cv 0 26 0 100),
  (100, zo_al 0 101),
  (101, zo_get 3 1 104),
  (104, zo_get 0 12 107),
  (107, zo_il 1 108),
  (108, zo_iald 109),
  (109, zo_ir 0 0),
  (110, zo_al 0 111),
  (111, zo_c (.int (-1000000001)) 113),
  (113, zo_cv 3 84 1 116),
  (116, zo_ir 0 0)]
def tb_X_give : zT := [
  (0, zo_al 0 1),
  (1, zo_il 1 2),
  (2, zo_cv 3 88 1 5),
  (5, zo_ifeq 15 8),
  (8, zo_al 0 9),
  (9, zo_c (.int (-1000000001)) 11),
  (11, zo_cv 3 84 1 14),
  (14, zo_ir 0 0),
  (15, zo_il 2 16),
  (16, zo_sw 0 [44, 61, 81] 105),
  (44, zo_al 0 45),
  (45, zo_al 0 46),
  (46, zo_get 3 0 49),
  (49, zo_get 0 9 52),
  (52, zo_il 1 53),
  (53, zo_il 3 54),
  (54, zo_c (.int 0) 55),
  (55, zo_c (.int 9) 57),
  (57, zo_cv 3 85 5 60),
  (60, zo_ir 0 0),
  (61, zo_al 0 62),
  (62, zo_al 0 63),
  (63, zo_get 3 0 66),
  (66, zo_get 0 10 69),
  (69, zo_il 1 70),
  (70, zo_il 3 71),
  (71, zo_c (.int (-999)) 74),
  (74, zo_c (.int 999) 77),
  (77, zo_cv 3 85 5 80),
  (80, zo_ir 0 0),
  (81, zo_al 0 82),
  (82, zo_al 0 83),
  (83, zo_get 3 0 86),
  (86, zo_get 0 11 89),
  (89, zo_il 1 90),
  (90, zo_il 3 91),
  (91, zo_c (.int (-1)) 92),
  (92, zo_al 0 93),
  (93, zo_get 3 0 96),
  (96, zo_get 0 2 99),
  (99, zo_c (.int 1) 100),
  (100, zo_isub 101),
  (101, zo_cv 3 85 5 104),
  (104, zo_ir 0 0),
  (105, zo_al 0 106),
  (106, zo_c (.int (-1000000001)) 108),
  (108, zo_cv 3 84 1 111),
  (111, zo_ir 0 0)]
def tb_X_sundays : zT := [
  (0, zo_il 1 1),
  (1, zo_c (.int 1) 2),
  (2, zo_c (.int 60) 4),
  (4, zo_cs 91 3 7),
  (7, zo_ifeq 17 10),
  (10, zo_al 0 11),
  (11, zo_c (.int (-1000000001)) 13),
  (13, zo_cv 3 84 1 16),
  (16, zo_ir 0 0),
  (17, zo_al 0 18),
  (18, zo_get 3 0 21),
  (21, zo_get 0 0 24),
  (24, zo_il 1 25),
  (25, zo_iadd 26),
  (26, zo_c (.int 9999) 29),
  (29, zo_cle 39 32),
  (32, zo_al 0 33),
  (33, zo_c (.int (-1000000005)) 35),
  (35, zo_cv 3 84 1 38),
  (38, zo_ir 0 0),
  (39, zo_al 0 40),
  (40, zo_get 3 0 43),
  (43, zo_il 1 44),
  (44, zo_cv 0 25 1 47),
  (47, zo_al 0 48),
  (48, zo_get 3 0 51),
  (51, zo_cv 0 19 0 54),
  (54, zo_ir 0 0)]
def tb_X_on : zT := [
  (0, zo_al 0 1),
  (1, zo_il 1 2),
  (2, zo_cv 3 88 1 5),
  (5, zo_ifne 27 8),
  (8, zo_il 2 9),
  (9, zo_c (.int 0) 10),
  (10, zo_c (.int 100) 12),
  (12, zo_cs 91 3 15),
  (15, zo_ifne 27 18),
  (18, zo_il 3 19),
  (19, zo_c (.int 0) 20),
  (20, zo_c (.int 1) 21),
  (21, zo_cs 91 3 24),
  (24, zo_ifeq 34 27),
  (27, zo_al 0 28),
  (28, zo_c (.int (-1000000001)) 30),
  (30, zo_cv 3 84 1 33),
  (33, zo_ir 0 0),
  (34, zo_al 0 35),
  (35, zo_get 3 1 38),
  (38, zo_al 0 39),
  (39, zo_get 3 0 42),
  (42, zo_cv 0 13 1 45),
  (45, zo_al 0 46),
  (46, zo_get 3 1 49),
  (49, zo_il 2 50),
  (50, zo_cv 0 25 1 53),
  (53, zo_il 3 54),
  (54, zo_ifne 69 57),
  (57, zo_al 0 58),
  (58, zo_get 3 1 61),
  (61, zo_get 0 10 64),
  (64, zo_il 1 65),
  (65, zo_iald 66),
  (66, zo_goto 78),
  (69, zo_al 0 70),
  (70, zo_get 3 1 73),
  (73, zo_get 0 11 76),
  (76, zo_il 1 77),
  (77, zo_iald 78),
  (78, zo_ir 0 0)]
def tb_X_then : zT := [
  (0, zo_al 0 1),
  (1, zo_il 1 2),
  (2, zo_cv 3 87 1 5),
  (5, zo_ifne 27 8),
  (8, zo_il 2 9),
  (9, zo_c (.int 0) 10),
  (10, zo_c (.int 100) 12),
  (12, zo_cs 91 3 15),
  (15, zo_ifne 27 18),
  (18, zo_il 3 19),
  (19, zo_c (.int 0) 20),
  (20, zo_c (.int 2) 21),
  (21, zo_cs 91 3 24),
  (24, zo_ifeq 34 27),
  (27, zo_al 0 28),
  (28, zo_c (.int (-1000000001)) 30),
  (30, zo_cv 3 84 1 33),
  (33, zo_ir 0 0),
  (34, zo_al 0 35),
  (35, zo_get 3 1 38),
  (38, zo_al 0 39),
  (39, zo_get 3 0 42),
  (42, zo_cv 0 13 1 45),
  (45, zo_al 0 46),
  (46, zo_get 3 1 49),
  (49, zo_il 2 50),
  (50, zo_cv 0 25 1 53),
  (53, zo_il 3 54),
  (54, zo_ifne 67 57),
  (57, zo_al 0 58),
  (58, zo_get 3 1 61),
  (61, zo_get 0 4 64),
  (64, zo_il 1 65),
  (65, zo_iald 66),
  (66, zo_ir 0 0),
  (67, zo_il 3 68),
  (68, zo_c (.int 1) 69),
  (69, zo_cne 84 72),
  (72, zo_al 0 73),
  (73, zo_get 3 1 76),
  (76, zo_get 0 6 79),
  (79, zo_il 1 80),
  (80, zo_iald 81),
  (81, zo_goto 93),
  (84, zo_al 0 85),
  (85, zo_get 3 1 88),
  (88, zo_get 0 7 91),
  (91, zo_il 1 92),
  (92, zo_iald 93),
  (93, zo_ir 0 0)]
def tb_X_meets : zT := [
  (0, zo_al 0 1),
  (1, zo_il 1 2),
  (2, zo_cv 3 88 1 5),
  (5, zo_ifne 16 8),
  (8, zo_al 0 9),
  (9, zo_il 2 10),
  (10, zo_cv 3 87 1 13),
  (13, zo_ifeq 23 16),
  (16, zo_al 0 17),
  (17, zo_c (.int (-1000000001)) 19),
  (19, zo_cv 3 84 1 22),
  (22, zo_ir 0 0),
  (23, zo_al 0 24),
  (24, zo_get 3 1 27),
  (27, zo_al 0 28),
  (28, zo_get 3 0 31),
  (31, zo_cv 0 13 1 34),
  (34, zo_c (.int 1) 35),
  (35, zo_is 3 36),
  (36, zo_il 3 37),
  (37, zo_c (.int 100) 39),
  (39, zo_cgt 70 42),
  (42, zo_al 0 43),
  (43, zo_get 3 1 46),
  (46, zo_cv 0 26 0 49),
  (49, zo_al 0 50),
  (50, zo_get 3 1 53),
  (53, zo_get 0 12 56),
  (56, zo_il 1 57),
  (57, zo_iald 58),
  (58, zo_il 2 59),
  (59, zo_cne 64 62),
  (62, zo_il 3 63),
  (63, zo_ir 0 0),
  (64, zo_inc 3 1 67),
  (67, zo_goto 36),
  (70, zo_al 0 71),
  (71, zo_c (.int (-1000000004)) 73),
  (73, zo_cv 3 84 1 76),
  (76, zo_ir 0 0)]
def tb_X_well : zT := [
  (0, zo_al 0 1),
  (1, zo_il 1 2),
  (2, zo_cv 3 88 1 5),
  (5, zo_ifne 21 8),
  (8, zo_il 2 9),
  (9, zo_c (.int (-999)) 12),
  (12, zo_c (.int 999) 15),
  (15, zo_cs 91 3 18),
  (18, zo_ifeq 28 21),
  (21, zo_al 0 22),
  (22, zo_c (.int (-1000000001)) 24),
  (24, zo_cv 3 84 1 27),
  (27, zo_ir 0 0),
  (28, zo_al 0 29),
  (29, zo_get 3 1 32),
  (32, zo_al 0 33),
  (33, zo_get 3 0 36),
  (36, zo_cv 0 13 1 39),
  (39, zo_c (.int 0) 40),
  (40, zo_is 3 41),
  (41, zo_il 3 42),
  (42, zo_c (.int 100) 44),
  (44, zo_cgt 75 47),
  (47, zo_al 0 48),
  (48, zo_get 3 1 51),
  (51, zo_get 0 10 54),
  (54, zo_il 1 55),
  (55, zo_iald 56),
  (56, zo_il 2 57),
  (57, zo_clt 62 60),
  (60, zo_il 3 61),
  (61, zo_ir 0 0),
  (62, zo_al 0 63),
  (63, zo_get 3 1 66),
  (66, zo_cv 0 26 0 69),
  (69, zo_inc 3 1 72),
  (72, zo_goto 41),
  (75, zo_al 0 76),
  (76, zo_c (.int (-1000000004)) 78),
  (78, zo_cv 3 84 1 81),
  (81, zo_ir 0 0)]
def tb_X_cold : zT := [
  (0, zo_al 0 1),
  (1, zo_il 1 2),
  (2, zo_cv 3 87 1 5),
  (5, zo_ifeq 15 8),
  (8, zo_al 0 9),
  (9, zo_c (.int (-1000000001)) 11),
  (11, zo_cv 3 84 1 14),
  (14, zo_ir 0 0),
  (15, zo_al 0 16),
  (16, zo_get 3 1 19),
  (19, zo_al 0 20),
  (20, zo_get 3 0 23),
  (23, zo_cv 0 13 1 26),
  (26, zo_c (.int 0) 27),
  (27, zo_is 2 28),
  (28, zo_il 2 29),
  (29, zo_c (.int 100) 31),
  (31, zo_cgt 61 34),
  (34, zo_al 0 35),
  (35, zo_get 3 1 38),
  (38, zo_get 0 4 41),
  (41, zo_il 1 42),
  (42, zo_iald 43),
  (43, zo_ifne 48 46),
  (46, zo_il 2 47),
  (47, zo_ir 0 0),
  (48, zo_al 0 49),
  (49, zo_get 3 1 52),
  (52, zo_cv 0 26 0 55),
  (55, zo_inc 2 1 58),
  (58, zo_goto 28),
  (61, zo_al 0 62),
  (62, zo_c (.int (-1000000004)) 64),
  (64, zo_cv 3 84 1 67),
  (67, zo_ir 0 0)]
def tb_X_kind : zT := [
  (0, zo_al 0 1),
  (1, zo_il 1 2),
  (2, zo_cv 3 87 1 5),
  (5, zo_ifne 18 8),
  (8, zo_il 2 9),
  (9, zo_c (.int 1) 10),
  (10, zo_c (.int 60) 12),
  (12, zo_cs 91 3 15),
  (15, zo_ifeq 25 18),
  (18, zo_al 0 19),
  (19, zo_c (.int (-1000000001)) 21),
  (21, zo_cv 3 84 1 24),
  (24, zo_ir 0 0),
  (25, zo_c (.int 0) 26),
  (26, zo_is 3 27),
  (27, zo_c (.int (-1)) 28),
  (28, zo_is 4 30),
  (30, zo_c (.int 0) 31),
  (31, zo_is 5 33),
  (33, zo_il 5 35),
  (35, zo_c (.int 6) 37),
  (37, zo_cge 104 40),
  (40, zo_al 0 41),
  (41, zo_get 3 1 44),
  (44, zo_al 0 45),
  (45, zo_get 3 0 48),
  (48, zo_cv 0 13 1 51),
  (51, zo_al 0 52),
  (52, zo_get 3 1 55),
  (55, zo_get 0 3 58),
  (58, zo_il 1 59),
  (59, zo_il 5 61),
  (61, zo_iast 62),
  (62, zo_al 0 63),
  (63, zo_get 3 1 66),
  (66, zo_il 2 67),
  (67, zo_cv 0 25 1 70),
  (70, zo_al 0 71),
  (71, zo_get 3 1 74),
  (74, zo_get 0 7 77),
  (77, zo_il 1 78),
  (78, zo_iald 79),
  (79, zo_il 4 81),
  (81, zo_cle 98 84),
  (84, zo_il 5 86),
  (86, zo_is 3 87),
  (87, zo_al 0 88),
  (88, zo_get 3 1 91),
  (91, zo_get 0 7 94),
  (94, zo_il 1 95),
  (95, zo_iald 96),
  (96, zo_is 4 98),
  (98, zo_inc 5 1 101),
  (101, zo_goto 33),
  (104, zo_il 3 105),
  (105, zo_ir 0 0)]
def tb_X_warm : zT := [
  (0, zo_al 0 1),
  (1, zo_il 1 2),
  (2, zo_cv 3 87 1 5),
  (5, zo_ifne 29 8),
  (8, zo_il 2 9),
  (9, zo_c (.int 1) 10),
  (10, zo_c (.int 60) 12),
  (12, zo_cs 91 3 15),
  (15, zo_ifne 29 18),
  (18, zo_il 3 19),
  (19, zo_c (.int 0) 20),
  (20, zo_c (.int 9999) 23),
  (23, zo_cs 91 3 26),
  (26, zo_ifeq 36 29),
  (29, zo_al 0 30),
  (30, zo_c (.int (-1000000001)) 32),
  (32, zo_cv 3 84 1 35),
  (35, zo_ir 0 0),
  (36, zo_c (.int 0) 37),
  (37, zo_is 4 39),
  (39, zo_il 4 41),
  (41, zo_c (.int 99) 43),
  (43, zo_cgt 98 46),
  (46, zo_al 0 47),
  (47, zo_get 3 1 50),
  (50, zo_al 0 51),
  (51, zo_get 3 0 54),
  (54, zo_cv 0 13 1 57),
  (57, zo_al 0 58),
  (58, zo_get 3 1 61),
  (61, zo_get 0 4 64),
  (64, zo_il 1 65),
  (65, zo_il 4 67),
  (67, zo_iast 68),
  (68, zo_al 0 69),
  (69, zo_get 3 1 72),
  (72, zo_il 2 73),
  (73, zo_cv 0 25 1 76),
  (76, zo_al 0 77),
  (77, zo_get 3 1 80),
  (80, zo_get 0 7 83),
  (83, zo_il 1 84),
  (84, zo_iald 85),
  (85, zo_il 3 86),
  (86, zo_clt 92 89),
  (89, zo_il 4 91),
  (91, zo_ir 0 0),
  (92, zo_inc 4 1 95),
  (95, zo_goto 39),
  (98, zo_al 0 99),
  (99, zo_c (.int (-1000000004)) 101),
  (101, zo_cv 3 84 1 104),
  (104, zo_ir 0 0)]
def tb_X_sit : zT := [
  (0, zo_il 1 1),
  (1, zo_c (.int 1) 2),
  (2, zo_c (.int 60) 4),
  (4, zo_cs 91 3 7),
  (7, zo_ifeq 17 10),
  (10, zo_al 0 11),
  (11, zo_c (.int (-1000000001)) 13),
  (13, zo_cv 3 84 1 16),
  (16, zo_ir 0 0),
  (17, zo_c (.int (-1)) 18),
  (18, zo_is 2 19),
  (19, zo_c (.int 0) 20),
  (20, zo_is 3 21),
  (21, zo_c (.int 0) 22),
  (22, zo_is 4 24),
  (24, zo_il 4 26),
  (26, zo_al 0 27),
  (27, zo_get 3 0 30),
  (30, zo_get 0 2 33),
  (33, zo_cge 111 36),
  (36, zo_al 0 37),
  (37, zo_get 3 0 40),
  (40, zo_get 0 5 43),
  (43, zo_il 4 45),
  (45, zo_iald 46),
  (46, zo_ifne 105 49),
  (49, zo_al 0 50),
  (50, zo_get 3 1 53),
  (53, zo_al 0 54),
  (54, zo_get 3 0 57),
  (57, zo_cv 0 13 1 60),
  (60, zo_al 0 61),
  (61, zo_get 3 1 64),
  (64, zo_get 0 5 67),
  (67, zo_il 4 69),
  (69, zo_c (.int 1) 70),
  (70, zo_iast 71),
  (71, zo_al 0 72),
  (72, zo_get 3 1 75),
  (75, zo_il 1 76),
  (76, zo_cv 0 25 1 79),
  (79, zo_al 0 80),
  (80, zo_get 3 1 83),
  (83, zo_cv 0 18 0 86),
  (86, zo_is 5 88),
  (88, zo_il 2 89),
  (89, zo_c (.int (-1)) 90),
  (90, zo_ceq 99 93),
  (93, zo_il 5 95),
  (95, zo_il 3 96),
  (96, zo_cle 105 99),
  (99, zo_il 4 101),
  (101, zo_is 2 102),
  (102, zo_il 5 104),
  (104, zo_is 3 105),
  (105, zo_inc 4 1 108),
  (108, zo_goto 24),
  (111, zo_il 2 112),
  (112, zo_c (.int (-1)) 113),
  (113, zo_cne 125 116),
  (116, zo_al 0 117),
  (117, zo_c (.int (-1000000004)) 119),
  (119, zo_cv 3 84 1 122),
  (122, zo_goto 126),
  (125, zo_il 2 126),
  (126, zo_ir 0 0)]
def tb_X_loud : zT := [
  (0, zo_al 0 1),
  (1, zo_il 1 2),
  (2, zo_cv 3 88 1 5),
  (5, zo_ifne 18 8),
  (8, zo_il 2 9),
  (9, zo_c (.int 1) 10),
  (10, zo_c (.int 60) 12),
  (12, zo_cs 91 3 15),
  (15, zo_ifeq 25 18),
  (18, zo_al 0 19),
  (19, zo_c (.int (-1000000001)) 21),
  (21, zo_cv 3 84 1 24),
  (24, zo_ir 0 0),
  (25, zo_c (.int 0) 26),
  (26, zo_is 3 27),
  (27, zo_c (.int (-1000)) 30),
  (30, zo_is 4 32),
  (32, zo_c (.int 0) 33),
  (33, zo_is 5 35),
  (35, zo_il 5 37),
  (37, zo_c (.int 9) 39),
  (39, zo_cgt 106 42),
  (42, zo_al 0 43),
  (43, zo_get 3 1 46),
  (46, zo_al 0 47),
  (47, zo_get 3 0 50),
  (50, zo_cv 0 13 1 53),
  (53, zo_al 0 54),
  (54, zo_get 3 1 57),
  (57, zo_get 0 9 60),
  (60, zo_il 1 61),
  (61, zo_il 5 63),
  (63, zo_iast 64),
  (64, zo_al 0 65),
  (65, zo_get 3 1 68),
  (68, zo_il 2 69),
  (69, zo_cv 0 25 1 72),
  (72, zo_al 0 73),
  (73, zo_get 3 1 76),
  (76, zo_get 0 10 79),
  (79, zo_il 1 80),
  (80, zo_iald 81),
  (81, zo_il 4 83),
  (83, zo_cle 100 86),
  (86, zo_il 5 88),
  (88, zo_is 3 89),
  (89, zo_al 0 90),
  (90, zo_get 3 1 93),
  (93, zo_get 0 10 96),
  (96, zo_il 1 97),
  (97, zo_iald 98),
  (98, zo_is 4 100),
  (100, zo_inc 5 1 103),
  (103, zo_goto 35),
  (106, zo_il 3 107),
  (107, zo_ir 0 0)]
def tb_X_stoke : zT := [
  (0, zo_il 1 1),
  (1, zo_c (.int 1) 2),
  (2, zo_c (.int 60) 4),
  (4, zo_cs 91 3 7),
  (7, zo_ifeq 17 10),
  (10, zo_al 0 11),
  (11, zo_c (.int (-1000000001)) 13),
  (13, zo_cv 3 84 1 16),
  (16, zo_ir 0 0),
  (17, zo_c (.int 0) 18),
  (18, zo_is 2 19),
  (19, zo_c (.int (-1)) 20),
  (20, zo_is 3 21),
  (21, zo_c (.int 0) 22),
  (22, zo_is 4 24),
  (24, zo_il 4 26),
  (26, zo_c (.int 20) 28),
  (28, zo_cgt 86 31),
  (31, zo_al 0 32),
  (32, zo_get 3 1 35),
  (35, zo_al 0 36),
  (36, zo_get 3 0 39),
  (39, zo_cv 0 13 1 42),
  (42, zo_al 0 43),
  (43, zo_get 3 1 46),
  (46, zo_il 4 48),
  (48, zo_puti 0 1 51),
  (51, zo_al 0 52),
  (52, zo_get 3 1 55),
  (55, zo_il 1 56),
  (56, zo_cv 0 25 1 59),
  (59, zo_al 0 60),
  (60, zo_get 3 1 63),
  (63, zo_cv 0 19 0 66),
  (66, zo_is 5 68),
  (68, zo_il 5 70),
  (70, zo_il 3 71),
  (71, zo_cle 80 74),
  (74, zo_il 4 76),
  (76, zo_is 2 77),
  (77, zo_il 5 79),
  (79, zo_is 3 80),
  (80, zo_inc 4 1 83),
  (83, zo_goto 24),
  (86, zo_il 2 87),
  (87, zo_ir 0 0)]
def tb_X_lonely : zT := [
  (0, zo_il 1 1),
  (1, zo_c (.int 0) 2),
  (2, zo_c (.int 100) 4),
  (4, zo_cs 91 3 7),
  (7, zo_ifeq 17 10),
  (10, zo_al 0 11),
  (11, zo_c (.int (-1000000001)) 13),
  (13, zo_cv 3 84 1 16),
  (16, zo_ir 0 0),
  (17, zo_al 0 18),
  (18, zo_get 3 0 21),
  (21, zo_get 0 2 24),
  (24, zo_ifne 34 27),
  (27, zo_al 0 28),
  (28, zo_c (.int (-1000000004)) 30),
  (30, zo_cv 3 84 1 33),
  (33, zo_ir 0 0),
  (34, zo_al 0 35),
  (35, zo_get 3 1 38),
  (38, zo_al 0 39),
  (39, zo_get 3 0 42),
  (42, zo_cv 0 13 1 45),
  (45, zo_al 0 46),
  (46, zo_get 3 1 49),
  (49, zo_il 1 50),
  (50, zo_cv 0 25 1 53),
  (53, zo_c (.int 0) 54),
  (54, zo_is 2 55),
  (55, zo_c (.int 1) 56),
  (56, zo_is 3 57),
  (57, zo_il 3 58),
  (58, zo_al 0 59),
  (59, zo_get 3 1 62),
  (62, zo_get 0 2 65),
  (65, zo_cge 97 68),
  (68, zo_al 0 69),
  (69, zo_get 3 1 72),
  (72, zo_get 0 6 75),
  (75, zo_il 3 76),
  (76, zo_iald 77),
  (77, zo_al 0 78),
  (78, zo_get 3 1 81),
  (81, zo_get 0 6 84),
  (84, zo_il 2 85),
  (85, zo_iald 86),
  (86, zo_cle 91 89),
  (89, zo_il 3 90),
  (90, zo_is 2 91),
  (91, zo_inc 3 1 94),
  (94, zo_goto 57),
  (97, zo_il 2 98),
  (98, zo_ir 0 0)]
def tb_X_feed : zT := [
  (0, zo_il 2 1),
  (1, zo_c (.int 1) 2),
  (2, zo_c (.int 4) 3),
  (3, zo_cs 91 3 6),
  (6, zo_ifeq 16 9),
  (9, zo_al 0 10),
  (10, zo_c (.int (-1000000001)) 12),
  (12, zo_cv 3 84 1 15),
  (15, zo_ir 0 0),
  (16, zo_al 0 17),
  (17, zo_get 3 4 20),
  (20, zo_get 2 1 23),
  (23, zo_il 2 24),
  (24, zo_iadd 25),
  (25, zo_c (.int 120) 27),
  (27, zo_cle 37 30),
  (30, zo_al 0 31),
  (31, zo_c (.int (-1000000002)) 33),
  (33, zo_cv 3 84 1 36),
  (36, zo_ir 0 0),
  (37, zo_il 2 38),
  (38, zo_c (.int 1) 39),
  (39, zo_isub 40),
  (40, zo_is 3 41),
  (41, zo_il 3 42),
  (42, zo_iflt 89 45),
  (45, zo_al 0 46),
  (46, zo_get 3 4 49),
  (49, zo_get 2 0 52),
  (52, zo_al 0 53),
  (53, zo_get 3 4 56),
  (56, zo_get 2 1 59),
  (59, zo_il 1 60),
  (60, zo_c (.int 8) 62),
  (62, zo_il 3 63),
  (63, zo_imul 64),
  (64, zo_ishr 65),
  (65, zo_c (.int 255) 68),
  (68, zo_iand 69),
  (69, zo_iast 70),
  (70, zo_al 0 71),
  (71, zo_get 3 4 74),
  (74, zo_dup 75),
  (75, zo_get 2 1 78),
  (78, zo_c (.int 1) 79),
  (79, zo_iadd 80),
  (80, zo_puti 2 1 83),
  (83, zo_inc 3 (-1) 86),
  (86, zo_goto 41),
  (89, zo_al 0 90),
  (90, zo_get 3 4 93),
  (93, zo_get 2 1 96),
  (96, zo_ir 0 0)]
def tb_X_wipe : zT := [
  (0, zo_al 0 1),
  (1, zo_get 3 4 4),
  (4, zo_get 2 1 7),
  (7, zo_is 1 8),
  (8, zo_al 0 9),
  (9, zo_get 3 4 12),
  (12, zo_c (.int 0) 13),
  (13, zo_puti 2 1 16),
  (16, zo_il 1 17),
  (17, zo_ir 0 0)]
def tb_X_institute : zT := [
  (0, zo_al 0 1),
  (1, zo_get 3 1 4),
  (4, zo_al 0 5),
  (5, zo_get 3 0 8),
  (8, zo_cv 0 13 1 11),
  (11, zo_al 0 12),
  (12, zo_get 3 4 15),
  (15, zo_al 0 16),
  (16, zo_get 3 1 19),
  (19, zo_cv 2 33 1 22),
  (22, zo_is 1 23),
  (23, zo_il 1 24),
  (24, zo_iflt 38 27),
  (27, zo_al 0 28),
  (28, zo_get 3 0 31),
  (31, zo_al 0 32),
  (32, zo_get 3 1 35),
  (35, zo_cv 0 13 1 38),
  (38, zo_al 0 39),
  (39, zo_get 3 4 42),
  (42, zo_c (.int 0) 43),
  (43, zo_puti 2 1 46),
  (46, zo_il 1 47),
  (47, zo_ir 0 0)]
def tb_X_sheet : zT := [
  (0, zo_il 1 1),
  (1, zo_cs 90 1 4),
  (4, zo_ifne 29 7),
  (7, zo_il 2 8),
  (8, zo_ifeq 36 11),
  (11, zo_il 2 12),
  (12, zo_c (.int 8) 14),
  (14, zo_ceq 36 17),
  (17, zo_il 2 18),
  (18, zo_c (.int 16) 20),
  (20, zo_ceq 36 23),
  (23, zo_il 2 24),
  (24, zo_c (.int 64) 26),
  (26, zo_ceq 36 29),
  (29, zo_al 0 30),
  (30, zo_c (.int (-1000000001)) 32),
  (32, zo_cv 3 84 1 35),
  (35, zo_ir 0 0),
  (36, zo_il 3 37),
  (37, zo_ifge 47 40),
  (40, zo_al 0 41),
  (41, zo_c (.int (-1000000007)) 43),
  (43, zo_cv 3 84 1 46),
  (46, zo_ir 0 0),
  (47, zo_il 3 48),
  (48, zo_c (.int 40) 50),
  (50, zo_cle 60 53),
  (53, zo_al 0 54),
  (54, zo_c (.int (-1000000001)) 56),
  (56, zo_cv 3 84 1 59),
  (59, zo_ir 0 0),
  (60, zo_al 0 61),
  (61, zo_get 3 5 64),
  (64, zo_il 1 65),
  (65, zo_aald 66),
  (66, zo_il 2 67),
  (67, zo_il 3 68),
  (68, zo_cv 1 9 2 71),
  (71, zo_al 0 72),
  (72, zo_get 3 5 75),
  (75, zo_il 1 76),
  (76, zo_aald 77),
  (77, zo_get 1 1 80),
  (80, zo_ir 0 0)]
def tb_X_write : zT := [
  (0, zo_il 1 1),
  (1, zo_cs 90 1 4),
  (4, zo_ifeq 15 7),
  (7, zo_al 0 8),
  (8, zo_c (.int (-1000000001)) 10),
  (10, zo_cv 3 84 1 13),
  (13, zo_i2l 14),
  (14, zo_lr 0 0),
  (15, zo_al 0 16),
  (16, zo_get 3 5 19),
  (19, zo_il 1 20),
  (20, zo_aald 21),
  (21, zo_as 5 23),
  (23, zo_al 5 25),
  (25, zo_cv 1 8 0 28),
  (28, zo_ifeq 39 31),
  (31, zo_al 0 32),
  (32, zo_c (.int (-1000000006)) 34),
  (34, zo_cv 3 84 1 37),
  (37, zo_i2l 38),
  (38, zo_lr 0 0),
  (39, zo_il 2 40),
  (40, zo_c (.int 0) 41),
  (41, zo_al 5 43),
  (43, zo_get 1 1 46),
  (46, zo_c (.int 1) 47),
  (47, zo_isub 48),
  (48, zo_cs 91 3 51),
  (51, zo_ifeq 62 54),
  (54, zo_al 0 55),
  (55, zo_c (.int (-1000000001)) 57),
  (57, zo_cv 3 84 1 60),
  (60, zo_i2l 61),
  (61, zo_lr 0 0),
  (62, zo_al 5 64),
  (64, zo_get 1 2 67),
  (67, zo_il 2 68),
  (68, zo_lald 69),
  (69, zo_ls 6 71),
  (71, zo_al 5 73),
  (73, zo_il 2 74),
  (74, zo_ll 3 75),
  (75, zo_cv 1 10 2 78),
  (78, zo_ll 6 80),
  (80, zo_lr 0 0)]
def tb_X_copy : zT := [
  (0, zo_il 1 1),
  (1, zo_cs 90 1 4),
  (4, zo_ifne 14 7),
  (7, zo_il 3 8),
  (8, zo_cs 90 1 11),
  (11, zo_ifeq 21 14),
  (14, zo_al 0 15),
  (15, zo_c (.int (-1000000001)) 17),
  (17, zo_cv 3 84 1 20),
  (20, zo_ir 0 0),
  (21, zo_al 0 22),
  (22, zo_get 3 5 25),
  (25, zo_il 1 26),
  (26, zo_aald 27),
  (27, zo_as 6 29),
  (29, zo_al 0 30),
  (30, zo_get 3 5 33),
  (33, zo_il 3 34),
  (34, zo_aald 35),
  (35, zo_as 7 37),
  (37, zo_al 6 39),
  (39, zo_cv 1 8 0 42),
  (42, zo_ifne 53 45),
  (45, zo_al 7 47),
  (47, zo_cv 1 8 0 50),
  (50, zo_ifeq 60 53),
  (53, zo_al 0 54),
  (54, zo_c (.int (-1000000006)) 56),
  (56, zo_cv 3 84 1 59),
  (59, zo_ir 0 0),
  (60, zo_al 6 62),
  (62, zo_get 1 0 65),
  (65, zo_al 7 67),
  (67, zo_get 1 0 70),
  (70, zo_ceq 80 73),
  (73, zo_al 0 74),
  (74, zo_c (.int (-1000000003)) 76),
  (76, zo_cv 3 84 1 79),
  (79, zo_ir 0 0),
  (80, zo_al 6 82),
  (82, zo_il 2 83),
  (83, zo_il 5 85),
  (85, zo_cv 1 11 2 88),
  (88, zo_ifeq 103 91),
  (91, zo_al 7 93),
  (93, zo_il 4 95),
  (95, zo_il 5 97),
  (97, zo_cv 1 11 2 100),
  (100, zo_ifne 110 103),
  (103, zo_al 0 104),
  (104, zo_c (.int (-1000000001)) 106),
  (106, zo_cv 3 84 1 109),
  (109, zo_ir 0 0),
  (110, zo_al 6 112),
  (112, zo_get 1 2 115),
  (115, zo_il 2 116),
  (116, zo_al 7 118),
  (118, zo_get 1 2 121),
  (121, zo_il 4 123),
  (123, zo_il 5 125),
  (125, zo_cpl 128),
  (128, zo_il 5 130),
  (130, zo_ir 0 0)]
def tb_X_lays : zT := [
  (0, zo_il 1 1),
  (1, zo_cs 90 1 4),
  (4, zo_ifeq 14 7),
  (7, zo_al 0 8),
  (8, zo_c (.int (-1000000001)) 10),
  (10, zo_cv 3 84 1 13),
  (13, zo_ir 0 0),
  (14, zo_al 0 15),
  (15, zo_get 3 5 18),
  (18, zo_il 1 19),
  (19, zo_aald 20),
  (20, zo_as 2 21),
  (21, zo_al 2 22),
  (22, zo_cv 1 8 0 25),
  (25, zo_ifeq 35 28),
  (28, zo_al 0 29),
  (29, zo_c (.int (-1000000006)) 31),
  (31, zo_cv 3 84 1 34),
  (34, zo_ir 0 0),
  (35, zo_c (.int 0) 36),
  (36, zo_is 3 37),
  (37, zo_c (.int 0) 38),
  (38, zo_is 4 40),
  (40, zo_il 4 42),
  (42, zo_al 2 43),
  (43, zo_get 1 1 46),
  (46, zo_cge 108 49),
  (49, zo_il 4 51),
  (51, zo_al 0 52),
  (52, zo_get 3 0 55),
  (55, zo_get 0 2 58),
  (58, zo_cge 108 61),
  (61, zo_al 2 62),
  (62, zo_get 1 2 65),
  (65, zo_il 4 67),
  (67, zo_lald 68),
  (68, zo_ls 5 70),
  (70, zo_ll 5 72),
  (72, zo_c (.long 0) 73),
  (73, zo_lcmp 74),
  (74, zo_iflt 102 77),
  (77, zo_ll 5 79),
  (79, zo_c (.long 99) 82),
  (82, zo_lcmp 83),
  (83, zo_ifgt 102 86),
  (86, zo_al 0 87),
  (87, zo_get 3 0 90),
  (90, zo_get 0 4 93),
  (93, zo_il 4 95),
  (95, zo_ll 5 97),
  (97, zo_l2i 98),
  (98, zo_iast 99),
  (99, zo_inc 3 1 102),
  (102, zo_inc 4 1 105),
  (105, zo_goto 40),
  (108, zo_il 3 109),
  (109, zo_ir 0 0)]
def tb_X_book : zT := [
  (0, zo_il 1 1),
  (1, zo_cs 90 1 4),
  (4, zo_ifeq 14 7),
  (7, zo_al 0 8),
  (8, zo_c (.int (-1000000001)) 10),
  (10, zo_cv 3 84 1 13),
  (13, zo_ir 0 0),
  (14, zo_al 0 15),
  (15, zo_get 3 5 18),
  (18, zo_il 1 19),
  (19, zo_aald 20),
  (20, zo_as 3 21),
  (21, zo_al 3 22),
  (22, zo_cv 1 8 0 25),
  (25, zo_ifeq 35 28),
  (28, zo_al 0 29),
  (29, zo_c (.int (-1000000006)) 31),
  (31, zo_cv 3 84 1 34),
  (34, zo_ir 0 0),
  (35, zo_al 0 36),
  (36, zo_il 2 37),
  (37, zo_cv 3 88 1 40),
  (40, zo_ifeq 50 43),
  (43, zo_al 0 44),
  (44, zo_c (.int (-1000000001)) 46),
  (46, zo_cv 3 84 1 49),
  (49, zo_ir 0 0),
  (50, zo_al 0 51),
  (51, zo_get 3 1 54),
  (54, zo_al 0 55),
  (55, zo_get 3 0 58),
  (58, zo_cv 0 13 1 61),
  (61, zo_c (.int 0) 62),
  (62, zo_is 4 64),
  (64, zo_il 4 66),
  (66, zo_al 3 67),
  (67, zo_get 1 1 70),
  (70, zo_cge 102 73),
  (73, zo_al 3 74),
  (74, zo_il 4 76),
  (76, zo_al 0 77),
  (77, zo_get 3 1 80),
  (80, zo_get 0 10 83),
  (83, zo_il 2 84),
  (84, zo_iald 85),
  (85, zo_i2l 86),
  (86, zo_cv 1 10 2 89),
  (89, zo_al 0 90),
  (90, zo_get 3 1 93),
  (93, zo_cv 0 26 0 96),
  (96, zo_inc 4 1 99),
  (99, zo_goto 64),
  (102, zo_al 3 103),
  (103, zo_get 1 1 106),
  (106, zo_ir 0 0)]
def tb_X_read : zT := [
  (0, zo_il 1 1),
  (1, zo_cs 90 1 4),
  (4, zo_ifeq 14 7),
  (7, zo_al 0 8),
  (8, zo_c (.int (-1000000001)) 10),
  (10, zo_cv 3 84 1 13),
  (13, zo_ir 0 0),
  (14, zo_al 0 15),
  (15, zo_get 3 5 18),
  (18, zo_il 1 19),
  (19, zo_aald 20),
  (20, zo_as 4 22),
  (22, zo_al 4 24),
  (24, zo_cv 1 8 0 27),
  (27, zo_ifeq 37 30),
  (30, zo_al 0 31),
  (31, zo_c (.int (-1000000006)) 33),
  (33, zo_cv 3 84 1 36),
  (36, zo_ir 0 0),
  (37, zo_al 0 38),
  (38, zo_il 2 39),
  (39, zo_cv 3 88 1 42),
  (42, zo_ifne 53 45),
  (45, zo_al 0 46),
  (46, zo_il 3 47),
  (47, zo_cv 3 87 1 50),
  (50, zo_ifeq 60 53),
  (53, zo_al 0 54),
  (54, zo_c (.int (-1000000001)) 56),
  (56, zo_cv 3 84 1 59),
  (59, zo_ir 0 0),
  (60, zo_c (.int 0) 61),
  (61, zo_is 5 63),
  (63, zo_c (.int 0) 64),
  (64, zo_is 6 66),
  (66, zo_il 6 68),
  (68, zo_c (.int 6) 70),
  (70, zo_cge 141 73),
  (73, zo_c (.int 0) 74),
  (74, zo_is 7 76),
  (76, zo_il 7 78),
  (78, zo_c (.int 9) 80),
  (80, zo_cgt 135 83),
  (83, zo_al 0 84),
  (84, zo_get 3 1 87),
  (87, zo_al 0 88),
  (88, zo_get 3 0 91),
  (91, zo_cv 0 13 1 94),
  (94, zo_al 0 95),
  (95, zo_get 3 1 98),
  (98, zo_get 0 3 101),
  (101, zo_il 3 102),
  (102, zo_il 6 104),
  (104, zo_iast 105),
  (105, zo_al 0 106),
  (106, zo_get 3 1 109),
  (109, zo_get 0 9 112),
  (112, zo_il 2 113),
  (113, zo_il 7 115),
  (115, zo_iast 116),
  (116, zo_al 0 117),
  (117, zo_al 4 119),
  (119, zo_il 2 120),
  (120, zo_cv 3 86 2 123),
  (123, zo_ifeq 129 126),
  (126, zo_inc 5 1 129),
  (129, zo_inc 7 1 132),
  (132, zo_goto 76),
  (135, zo_inc 6 1 138),
  (138, zo_goto 66),
  (141, zo_il 5 143),
  (143, zo_ir 0 0)]
def tb_X_image : zT := [
  (0, zo_al 0 1),
  (1, zo_get 3 2 4),
  (4, zo_al 0 5),
  (5, zo_get 3 0 8),
  (8, zo_cv 0 13 1 11),
  (11, zo_al 0 12),
  (12, zo_c (.int 1) 13),
  (13, zo_putz 3 3 16),
  (16, zo_c (.int 1) 17),
  (17, zo_ir 0 0)]
def tb_X_undo : zT := [
  (0, zo_al 0 1),
  (1, zo_get 3 3 4),
  (4, zo_ifne 14 7),
  (7, zo_al 0 8),
  (8, zo_c (.int (-1000000004)) 10),
  (10, zo_cv 3 84 1 13),
  (13, zo_ir 0 0),
  (14, zo_al 0 15),
  (15, zo_get 3 0 18),
  (18, zo_al 0 19),
  (19, zo_get 3 2 22),
  (22, zo_cv 0 13 1 25),
  (25, zo_al 0 26),
  (26, zo_get 3 0 29),
  (29, zo_get 0 2 32),
  (32, zo_ir 0 0)]
def tb_X_tear : zT := [
  (0, zo_al 0 1),
  (1, zo_get 3 3 4),
  (4, zo_ifeq 11 7),
  (7, zo_c (.int 1) 8),
  (8, zo_goto 12),
  (11, zo_c (.int 0) 12),
  (12, zo_is 1 13),
  (13, zo_al 0 14),
  (14, zo_c (.int 0) 15),
  (15, zo_putz 3 3 18),
  (18, zo_il 1 19),
  (19, zo_ir 0 0)]
def tb_X_count : zT := [
  (0, zo_il 1 1),
  (1, zo_sw 0 [32, 40, 48, 56] 64),
  (32, zo_al 0 33),
  (33, zo_get 3 0 36),
  (36, zo_get 0 2 39),
  (39, zo_ir 0 0),
  (40, zo_al 0 41),
  (41, zo_get 3 0 44),
  (44, zo_get 0 8 47),
  (47, zo_ir 0 0),
  (48, zo_al 0 49),
  (49, zo_get 3 4 52),
  (52, zo_get 2 1 55),
  (55, zo_ir 0 0),
  (56, zo_al 0 57),
  (57, zo_get 3 0 60),
  (60, zo_cv 0 20 0 63),
  (63, zo_ir 0 0),
  (64, zo_al 0 65),
  (65, zo_c (.int (-1000000001)) 67),
  (67, zo_cv 3 84 1 70),
  (70, zo_ir 0 0)]
def tb_X_status : zT := [
  (0, zo_il 1 1),
  (1, zo_c (.int (-1)) 2),
  (2, zo_c (.int 6) 4),
  (4, zo_cs 91 3 7),
  (7, zo_ifeq 17 10),
  (10, zo_al 0 11),
  (11, zo_c (.int (-1000000001)) 13),
  (13, zo_cv 3 84 1 16),
  (16, zo_ir 0 0),
  (17, zo_il 1 18),
  (18, zo_iflt 28 21),
  (21, zo_al 0 22),
  (22, zo_get 3 6 25),
  (25, zo_il 1 26),
  (26, zo_iald 27),
  (27, zo_ir 0 0),
  (28, zo_c (.int 0) 29),
  (29, zo_is 2 30),
  (30, zo_c (.int 0) 31),
  (31, zo_is 3 32),
  (32, zo_il 3 33),
  (33, zo_c (.int 7) 35),
  (35, zo_cge 53 38),
  (38, zo_il 2 39),
  (39, zo_al 0 40),
  (40, zo_get 3 6 43),
  (43, zo_il 3 44),
  (44, zo_iald 45),
  (45, zo_iadd 46),
  (46, zo_is 2 47),
  (47, zo_inc 3 1 50),
  (50, zo_goto 32),
  (53, zo_il 2 54),
  (54, zo_ir 0 0)]
def tb_X_tell : zT := [
  (0, zo_c (.int (-1000000001)) 2),
  (2, zo_il 1 3),
  (3, zo_isub 4),
  (4, zo_is 2 5),
  (5, zo_il 2 6),
  (6, zo_c (.int 0) 7),
  (7, zo_c (.int 6) 9),
  (9, zo_cs 91 3 12),
  (12, zo_ifne 25 15),
  (15, zo_al 0 16),
  (16, zo_get 3 6 19),
  (19, zo_il 2 20),
  (20, zo_dup2 21),
  (21, zo_iald 22),
  (22, zo_c (.int 1) 23),
  (23, zo_iadd 24),
  (24, zo_iast 25),
  (25, zo_il 1 26),
  (26, zo_ir 0 0)]
def tb_X_put : zT := [
  (0, zo_il 3 1),
  (1, zo_il 4 3),
  (3, zo_il 5 5),
  (5, zo_cs 91 3 8),
  (8, zo_ifeq 18 11),
  (11, zo_al 0 12),
  (12, zo_c (.int (-1000000001)) 14),
  (14, zo_cv 3 84 1 17),
  (17, zo_ir 0 0),
  (18, zo_al 1 19),
  (19, zo_il 2 20),
  (20, zo_iald 21),
  (21, zo_is 6 23),
  (23, zo_al 1 24),
  (24, zo_il 2 25),
  (25, zo_il 3 26),
  (26, zo_iast 27),
  (27, zo_il 6 29),
  (29, zo_ir 0 0)]
def tb_X_goesAsBooked : zT := [
  (0, zo_c (.int 0) 1),
  (1, zo_is 3 2),
  (2, zo_il 3 3),
  (3, zo_al 1 4),
  (4, zo_get 1 1 7),
  (7, zo_cge 45 10),
  (10, zo_al 0 11),
  (11, zo_get 3 1 14),
  (14, zo_get 0 10 17),
  (17, zo_il 2 18),
  (18, zo_iald 19),
  (19, zo_i2l 20),
  (20, zo_al 1 21),
  (21, zo_get 1 2 24),
  (24, zo_il 3 25),
  (25, zo_lald 26),
  (26, zo_lcmp 27),
  (27, zo_ifeq 32 30),
  (30, zo_c (.int 0) 31),
  (31, zo_zr 0 0),
  (32, zo_al 0 33),
  (33, zo_get 3 1 36),
  (36, zo_cv 0 26 0 39),
  (39, zo_inc 3 1 42),
  (42, zo_goto 2),
  (45, zo_c (.int 1) 46),
  (46, zo_zr 0 0)]
def tb_X_isNoInlaw : zT := [
  (0, zo_il 1 1),
  (1, zo_c (.int 0) 2),
  (2, zo_al 0 3),
  (3, zo_get 3 0 6),
  (6, zo_get 0 2 9),
  (9, zo_c (.int 1) 10),
  (10, zo_isub 11),
  (11, zo_cs 91 3 14),
  (14, zo_zr 0 0)]
def tb_X_isNoCouple : zT := [
  (0, zo_il 1 1),
  (1, zo_c (.int 0) 2),
  (2, zo_al 0 3),
  (3, zo_get 3 0 6),
  (6, zo_get 0 8 9),
  (9, zo_c (.int 1) 10),
  (10, zo_isub 11),
  (11, zo_cs 91 3 14),
  (14, zo_zr 0 0)]
def tb_X_isNoKind : zT := [
  (0, zo_il 0 1),
  (1, zo_c (.int 0) 2),
  (2, zo_c (.int 5) 3),
  (3, zo_cs 91 3 6),
  (6, zo_zr 0 0)]
def tb_X_isNoSheet : zT := [
  (0, zo_il 0 1),
  (1, zo_c (.int 0) 2),
  (2, zo_c (.int 3) 3),
  (3, zo_cs 91 3 6),
  (6, zo_zr 0 0)]
def tb_X_isOutside : zT := [
  (0, zo_il 0 1),
  (1, zo_il 1 2),
  (2, zo_clt 10 5),
  (5, zo_il 0 6),
  (6, zo_il 2 7),
  (7, zo_cle 14 10),
  (10, zo_c (.int 1) 11),
  (11, zo_goto 15),
  (14, zo_c (.int 0) 15),
  (15, zo_zr 0 0)]
def tb_M_init : zT := [
  (0, zo_al 0 1),
  (1, zo_obj 4),
  (4, zo_al 0 5),
  (5, zo_c (.int 68) 7),
  (7, zo_newi 11 615 9),
  (9, zo_puta 4 0 12),
  (12, zo_al 0 13),
  (13, zo_c (.int 68) 15),
  (15, zo_newi 11 615 17),
  (17, zo_puta 4 1 20),
  (20, zo_al 0 21),
  (21, zo_c (.int 68) 23),
  (23, zo_newi 11 615 25),
  (25, zo_puta 4 2 28),
  (28, zo_al 0 29),
  (29, zo_c (.int 68) 31),
  (31, zo_newi 11 615 33),
  (33, zo_puta 4 3 36),
  (36, zo_al 0 37),
  (37, zo_c (.int 7) 39),
  (39, zo_newi 11 615 41),
  (41, zo_puta 4 4 44),
  (44, zo_al 0 45),
  (45, zo_c (.int 8) 47),
  (47, zo_newi 11 615 49),
  (49, zo_puta 4 5 52),
  (52, zo_al 0 53),
  (53, zo_c (.int 120) 55),
  (55, zo_newi 11 615 57),
  (57, zo_puta 4 7 60),
  (60, zo_al 0 61),
  (61, zo_c (.int 4) 62),
  (62, zo_newi 11 615 64),
  (64, zo_puta 4 13 67),
  (67, zo_al 0 68),
  (68, zo_c (.int 4) 69),
  (69, zo_newi 11 615 71),
  (71, zo_puta 4 14 74),
  (74, zo_al 0 75),
  (75, zo_c (.int 160) 78),
  (78, zo_newl 11 615 80),
  (80, zo_puta 4 15 83),
  (83, zo_al 0 84),
  (84, zo_c (.int 40) 86),
  (86, zo_newl 11 615 88),
  (88, zo_puta 4 16 91),
  (91, zo_al 0 92),
  (92, zo_get 4 0 95),
  (95, zo_c (.int 1) 96),
  (96, zo_c (.int 10) 98),
  (98, zo_iast 99),
  (99, zo_vr 11 615)]
def tb_M_in : zT := [
  (0, zo_ll 0 1),
  (1, zo_ll 2 2),
  (2, zo_lcmp 3),
  (3, zo_iflt 17 6),
  (6, zo_ll 0 7),
  (7, zo_ll 4 9),
  (9, zo_lcmp 10),
  (10, zo_ifgt 17 13),
  (13, zo_c (.int 1) 14),
  (14, zo_goto 18),
  (17, zo_c (.int 0) 18),
  (18, zo_zr 0 0)]
def tb_M_finds : zT := [
  (0, zo_al 0 1),
  (1, zo_get 4 4 4),
  (4, zo_c (.int (-1000000001)) 6),
  (6, zo_il 1 7),
  (7, zo_isub 8),
  (8, zo_dup2 9),
  (9, zo_iald 10),
  (10, zo_c (.int 1) 11),
  (11, zo_iadd 12),
  (12, zo_iast 13),
  (13, zo_il 1 14),
  (14, zo_ir 0 0)]
def tb_M_saves : zT := [
  (0, zo_c (.int 0) 1),
  (1, zo_is 1 2),
  (2, zo_il 1 3),
  (3, zo_c (.int 68) 5),
  (5, zo_cge 26 8),
  (8, zo_al 0 9),
  (9, zo_get 4 2 12),
  (12, zo_il 1 13),
  (13, zo_al 0 14),
  (14, zo_get 4 0 17),
  (17, zo_il 1 18),
  (18, zo_iald 19),
  (19, zo_iast 20),
  (20, zo_inc 1 1 23),
  (23, zo_goto 2),
  (26, zo_vr 0 0)]
def tb_M_putsBack : zT := [
  (0, zo_c (.int 0) 1),
  (1, zo_is 1 2),
  (2, zo_il 1 3),
  (3, zo_c (.int 68) 5),
  (5, zo_cge 26 8),
  (8, zo_al 0 9),
  (9, zo_get 4 0 12),
  (12, zo_il 1 13),
  (13, zo_al 0 14),
  (14, zo_get 4 2 17),
  (17, zo_il 1 18),
  (18, zo_iald 19),
  (19, zo_iast 20),
  (20, zo_inc 1 1 23),
  (23, zo_goto 2),
  (26, zo_vr 0 0)]
def tb_M_laysAside : zT := [
  (0, zo_c (.int 0) 1),
  (1, zo_is 1 2),
  (2, zo_il 1 3),
  (3, zo_c (.int 68) 5),
  (5, zo_cge 26 8),
  (8, zo_al 0 9),
  (9, zo_get 4 3 12),
  (12, zo_il 1 13),
  (13, zo_al 0 14),
  (14, zo_get 4 0 17),
  (17, zo_il 1 18),
  (18, zo_iald 19),
  (19, zo_iast 20),
  (20, zo_inc 1 1 23),
  (23, zo_goto 2),
  (26, zo_vr 0 0)]
def tb_M_takesBack : zT := [
  (0, zo_c (.int 0) 1),
  (1, zo_is 2 2),
  (2, zo_il 2 3),
  (3, zo_c (.int 68) 5),
  (5, zo_cge 26 8),
  (8, zo_al 0 9),
  (9, zo_get 4 0 12),
  (12, zo_il 2 13),
  (13, zo_al 0 14),
  (14, zo_get 4 3 17),
  (17, zo_il 2 18),
  (18, zo_iald 19),
  (19, zo_iast 20),
  (20, zo_inc 2 1 23),
  (23, zo_goto 2),
  (26, zo_il 1 27),
  (27, zo_ir 0 0)]
def tb_M_becomes : zT := [
  (0, zo_al 0 1),
  (1, zo_get 4 0 4),
  (4, zo_il 1 5),
  (5, zo_iald 6),
  (6, zo_is 3 7),
  (7, zo_al 0 8),
  (8, zo_get 4 0 11),
  (11, zo_il 1 12),
  (12, zo_il 2 13),
  (13, zo_iast 14),
  (14, zo_il 3 15),
  (15, zo_ir 0 0)]
def tb_M_spot : zT := [
  (0, zo_c (.int 4) 1),
  (1, zo_c (.int 5) 2),
  (2, zo_il 0 3),
  (3, zo_imul 4),
  (4, zo_iadd 5),
  (5, zo_il 1 6),
  (6, zo_iadd 7),
  (7, zo_ir 0 0)]
def tb_M_coupleSpot : zT := [
  (0, zo_c (.int 44) 2),
  (2, zo_c (.int 3) 3),
  (3, zo_il 0 4),
  (4, zo_imul 5),
  (5, zo_iadd 6),
  (6, zo_il 1 7),
  (7, zo_iadd 8),
  (8, zo_ir 0 0)]
def tb_M_its : zT := [
  (0, zo_al 0 1),
  (1, zo_get 4 0 4),
  (4, zo_il 1 5),
  (5, zo_il 2 6),
  (6, zo_cs 100 2 9),
  (9, zo_iald 10),
  (10, zo_ir 0 0)]
def tb_M_theirs : zT := [
  (0, zo_al 0 1),
  (1, zo_get 4 0 4),
  (4, zo_il 1 5),
  (5, zo_il 2 6),
  (6, zo_cs 101 2 9),
  (9, zo_iald 10),
  (10, zo_ir 0 0)]
def tb_M_isInlaw : zT := [
  (0, zo_il 1 1),
  (1, zo_i2l 2),
  (2, zo_c (.long 0) 3),
  (3, zo_al 0 4),
  (4, zo_get 4 0 7),
  (7, zo_c (.int 2) 8),
  (8, zo_iald 9),
  (9, zo_c (.int 1) 10),
  (10, zo_isub 11),
  (11, zo_i2l 12),
  (12, zo_cs 93 3 15),
  (15, zo_zr 0 0)]
def tb_M_isCouple : zT := [
  (0, zo_il 1 1),
  (1, zo_i2l 2),
  (2, zo_c (.long 0) 3),
  (3, zo_al 0 4),
  (4, zo_get 4 0 7),
  (7, zo_c (.int 3) 8),
  (8, zo_iald 9),
  (9, zo_c (.int 1) 10),
  (10, zo_isub 11),
  (11, zo_i2l 12),
  (12, zo_cs 93 3 15),
  (15, zo_zr 0 0)]
def tb_M_isKind : zT := [
  (0, zo_il 0 1),
  (1, zo_i2l 2),
  (2, zo_c (.long 0) 3),
  (3, zo_c (.long 5) 6),
  (6, zo_cs 93 3 9),
  (9, zo_zr 0 0)]
def tb_M_held : zT := [
  (0, zo_il 0 1),
  (1, zo_il 1 2),
  (2, zo_cge 9 5),
  (5, zo_il 1 6),
  (6, zo_goto 19),
  (9, zo_il 0 10),
  (10, zo_il 2 11),
  (11, zo_cle 18 14),
  (14, zo_il 2 15),
  (15, zo_goto 19),
  (18, zo_il 0 19),
  (19, zo_ir 0 0)]
def tb_M_together : zT := [
  (0, zo_c (.int 0) 1),
  (1, zo_is 2 2),
  (2, zo_c (.int 0) 3),
  (3, zo_is 3 4),
  (4, zo_il 3 5),
  (5, zo_al 0 6),
  (6, zo_get 4 0 9),
  (9, zo_c (.int 2) 10),
  (10, zo_iald 11),
  (11, zo_cge 29 14),
  (14, zo_il 2 15),
  (15, zo_al 0 16),
  (16, zo_il 3 17),
  (17, zo_il 1 18),
  (18, zo_cv 4 102 2 21),
  (21, zo_iadd 22),
  (22, zo_is 2 23),
  (23, zo_inc 3 1 26),
  (26, zo_goto 4),
  (29, zo_il 2 30),
  (30, zo_ir 0 0)]
def tb_M_wells : zT := [
  (0, zo_c (.int 0) 1),
  (1, zo_is 1 2),
  (2, zo_c (.int 0) 3),
  (3, zo_is 2 4),
  (4, zo_il 2 5),
  (5, zo_al 0 6),
  (6, zo_get 4 0 9),
  (9, zo_c (.int 3) 10),
  (10, zo_iald 11),
  (11, zo_cge 29 14),
  (14, zo_il 1 15),
  (15, zo_al 0 16),
  (16, zo_il 2 17),
  (17, zo_c (.int 1) 18),
  (18, zo_cv 4 103 2 21),
  (21, zo_iadd 22),
  (22, zo_is 1 23),
  (23, zo_inc 2 1 26),
  (26, zo_goto 4),
  (29, zo_il 1 30),
  (30, zo_ir 0 0)]
def tb_M_fire : zT := [
  (0, zo_il 1 1),
  (1, zo_i2l 2),
  (2, zo_c (.long 0) 3),
  (3, zo_c (.long 20) 6),
  (6, zo_cs 93 3 9),
  (9, zo_ifeq 21 12),
  (12, zo_al 0 13),
  (13, zo_c (.int 1) 14),
  (14, zo_il 1 15),
  (15, zo_cv 4 99 2 18),
  (18, zo_goto 27),
  (21, zo_al 0 22),
  (22, zo_c (.int (-1000000001)) 24),
  (24, zo_cv 4 94 1 27),
  (27, zo_ir 0 0)]
def tb_M_firstCouple : zT := [
  (0, zo_al 0 1),
  (1, zo_get 4 0 4),
  (4, zo_c (.int 3) 5),
  (5, zo_iald 6),
  (6, zo_ifne 13 9),
  (9, zo_c (.int (-1)) 10),
  (10, zo_goto 26),
  (13, zo_al 0 14),
  (14, zo_get 4 0 17),
  (17, zo_c (.int 0) 18),
  (18, zo_iald 19),
  (19, zo_al 0 20),
  (20, zo_get 4 0 23),
  (23, zo_c (.int 3) 24),
  (24, zo_iald 25),
  (25, zo_irem 26),
  (26, zo_ir 0 0)]
def tb_M_satOn : zT := [
  (0, zo_c (.int 0) 1),
  (1, zo_is 1 2),
  (2, zo_c (.int 0) 3),
  (3, zo_is 2 4),
  (4, zo_il 2 5),
  (5, zo_al 0 6),
  (6, zo_get 4 0 9),
  (9, zo_c (.int 2) 10),
  (10, zo_iald 11),
  (11, zo_cge 31 14),
  (14, zo_il 1 15),
  (15, zo_al 0 16),
  (16, zo_il 2 17),
  (17, zo_c (.int 2) 18),
  (18, zo_cv 4 102 2 21),
  (21, zo_il 2 22),
  (22, zo_ishl 23),
  (23, zo_ior 24),
  (24, zo_is 1 25),
  (25, zo_inc 2 1 28),
  (28, zo_goto 4),
  (31, zo_il 1 32),
  (32, zo_ir 0 0)]
def tb_M_now : zT := [
  (0, zo_il 1 1),
  (1, zo_sw 0 [40, 47, 54, 59, 64, 73] 79),
  (40, zo_al 0 41),
  (41, zo_get 4 0 44),
  (44, zo_c (.int 0) 45),
  (45, zo_iald 46),
  (46, zo_ir 0 0),
  (47, zo_al 0 48),
  (48, zo_get 4 0 51),
  (51, zo_c (.int 1) 52),
  (52, zo_iald 53),
  (53, zo_ir 0 0),
  (54, zo_al 0 55),
  (55, zo_cv 4 111 0 58),
  (58, zo_ir 0 0),
  (59, zo_al 0 60),
  (60, zo_cv 4 112 0 63),
  (63, zo_ir 0 0),
  (64, zo_c (.int 10000) 67),
  (67, zo_al 0 68),
  (68, zo_cv 4 109 0 71),
  (71, zo_iadd 72),
  (72, zo_ir 0 0),
  (73, zo_al 0 74),
  (74, zo_c (.int 1) 75),
  (75, zo_cv 4 108 1 78),
  (78, zo_ir 0 0),
  (79, zo_al 0 80),
  (80, zo_c (.int (-1000000001)) 82),
  (82, zo_cv 4 94 1 85),
  (85, zo_ir 0 0)]
def tb_M_charms : zT := [
  (0, zo_al 0 1),
  (1, zo_il 2 2),
  (2, zo_c (.int 0) 3),
  (3, zo_cv 4 103 2 6),
  (6, zo_is 3 7),
  (7, zo_al 0 8),
  (8, zo_il 1 9),
  (9, zo_c (.int 1) 10),
  (10, zo_cv 4 102 2 13),
  (13, zo_c (.int 10) 15),
  (15, zo_idiv 16),
  (16, zo_is 4 18),
  (18, zo_il 3 19),
  (19, zo_c (.int 4) 20),
  (20, zo_cge 30 23),
  (23, zo_il 4 25),
  (25, zo_c (.int 3) 26),
  (26, zo_iadd 27),
  (27, zo_goto 32),
  (30, zo_il 4 32),
  (32, zo_is 5 34),
  (34, zo_il 4 36),
  (36, zo_il 3 37),
  (37, zo_c (.int 2) 38),
  (38, zo_idiv 39),
  (39, zo_iadd 40),
  (40, zo_is 6 42),
  (42, zo_al 0 43),
  (43, zo_il 1 44),
  (44, zo_c (.int 0) 45),
  (45, zo_cv 4 102 2 48),
  (48, zo_sw 1 [84, 87, 90, 92, 115] 127),
  (84, zo_il 5 86),
  (86, zo_ir 0 0),
  (87, zo_il 6 89),
  (89, zo_ir 0 0),
  (90, zo_c (.int 4) 91),
  (91, zo_ir 0 0),
  (92, zo_al 0 93),
  (93, zo_il 2 94),
  (94, zo_c (.int 2) 95),
  (95, zo_cv 4 103 2 98),
  (98, zo_il 1 99),
  (99, zo_cne 110 102),
  (102, zo_il 5 104),
  (104, zo_c (.int 7) 106),
  (106, zo_iadd 107),
  (107, zo_goto 114),
  (110, zo_il 5 112),
  (112, zo_c (.int 2) 113),
  (113, zo_isub 114),
  (114, zo_ir 0 0),
  (115, zo_il 6 117),
  (117, zo_al 0 118),
  (118, zo_get 4 0 121),
  (121, zo_c (.int 1) 122),
  (122, zo_iald 123),
  (123, zo_c (.int 5) 124),
  (124, zo_idiv 125),
  (125, zo_iadd 126),
  (126, zo_ir 0 0),
  (127, zo_il 4 129),
  (129, zo_ir 0 0)]
def tb_M_does : zT := [
  (0, zo_al 0 1),
  (1, zo_get 4 0 4),
  (4, zo_c (.int 1) 5),
  (5, zo_iald 6),
  (6, zo_c (.int 10) 8),
  (8, zo_clt 15 11),
  (11, zo_c (.int 3) 12),
  (12, zo_goto 16),
  (15, zo_c (.int 2) 16),
  (16, zo_is 3 17),
  (17, zo_al 0 18),
  (18, zo_il 1 19),
  (19, zo_c (.int 0) 20),
  (20, zo_cv 4 102 2 23),
  (23, zo_sw 1 [56, 73, 75, 77, 96] 100),
  (56, zo_al 0 57),
  (57, zo_il 2 58),
  (58, zo_c (.int 0) 59),
  (59, zo_cv 4 103 2 62),
  (62, zo_c (.int 7) 64),
  (64, zo_clt 71 67),
  (67, zo_c (.int 1) 68),
  (68, zo_goto 72),
  (71, zo_c (.int 2) 72),
  (72, zo_ir 0 0),
  (73, zo_il 3 74),
  (74, zo_ir 0 0),
  (75, zo_c (.int 0) 76),
  (76, zo_ir 0 0),
  (77, zo_al 0 78),
  (78, zo_il 1 79),
  (79, zo_c (.int 1) 80),
  (80, zo_cv 4 102 2 83),
  (83, zo_c (.int 60) 85),
  (85, zo_clt 93 88),
  (88, zo_c (.int 12) 90),
  (90, zo_goto 95),
  (93, zo_c (.int (-4)) 95),
  (95, zo_ir 0 0),
  (96, zo_il 3 97),
  (97, zo_c (.int 2) 98),
  (98, zo_iadd 99),
  (99, zo_ir 0 0),
  (100, zo_c (.int 2) 101),
  (101, zo_ir 0 0)]
def tb_M_thaws : zT := [
  (0, zo_c (.int 3) 1),
  (1, zo_al 0 2),
  (2, zo_il 2 3),
  (3, zo_c (.int 0) 4),
  (4, zo_cv 4 103 2 7),
  (7, zo_c (.int 3) 8),
  (8, zo_idiv 9),
  (9, zo_isub 10),
  (10, zo_is 3 11),
  (11, zo_al 0 12),
  (12, zo_il 1 13),
  (13, zo_c (.int 0) 14),
  (14, zo_cv 4 102 2 17),
  (17, zo_sw 1 [52, 63, 54, 56, 60] 63),
  (52, zo_il 3 53),
  (53, zo_ir 0 0),
  (54, zo_c (.int 1) 55),
  (55, zo_ir 0 0),
  (56, zo_il 3 57),
  (57, zo_c (.int 2) 58),
  (58, zo_isub 59),
  (59, zo_ir 0 0),
  (60, zo_c (.int 6) 62),
  (62, zo_ir 0 0),
  (63, zo_c (.int 3) 64),
  (64, zo_ir 0 0)]
def tb_M_chills : zT := [
  (0, zo_c (.int 2) 1),
  (1, zo_al 0 2),
  (2, zo_get 4 0 5),
  (5, zo_c (.int 1) 6),
  (6, zo_iald 7),
  (7, zo_c (.int 10) 9),
  (9, zo_idiv 10),
  (10, zo_isub 11),
  (11, zo_is 2 12),
  (12, zo_al 0 13),
  (13, zo_il 1 14),
  (14, zo_c (.int 0) 15),
  (15, zo_cv 4 102 2 18),
  (18, zo_sw 1 [52, 54, 56, 52, 58] 70),
  (52, zo_c (.int 4) 53),
  (53, zo_ir 0 0),
  (54, zo_il 2 55),
  (55, zo_ir 0 0),
  (56, zo_c (.int 0) 57),
  (57, zo_ir 0 0),
  (58, zo_il 2 59),
  (59, zo_ifle 68 62),
  (62, zo_il 2 63),
  (63, zo_c (.int 1) 64),
  (64, zo_isub 65),
  (65, zo_goto 69),
  (68, zo_c (.int 0) 69),
  (69, zo_ir 0 0),
  (70, zo_c (.int 2) 71),
  (71, zo_ir 0 0)]
def tb_M_addsInlaw : zT := [
  (0, zo_al 0 1),
  (1, zo_get 4 0 4),
  (4, zo_c (.int 2) 5),
  (5, zo_iald 6),
  (6, zo_is 2 7),
  (7, zo_al 0 8),
  (8, zo_get 4 0 11),
  (11, zo_c (.int 2) 12),
  (12, zo_dup2 13),
  (13, zo_iald 14),
  (14, zo_c (.int 1) 15),
  (15, zo_iadd 16),
  (16, zo_iast 17),
  (17, zo_al 0 18),
  (18, zo_get 4 0 21),
  (21, zo_il 2 22),
  (22, zo_c (.int 0) 23),
  (23, zo_cs 100 2 26),
  (26, zo_il 1 27),
  (27, zo_iast 28),
  (28, zo_al 0 29),
  (29, zo_get 4 0 32),
  (32, zo_il 2 33),
  (33, zo_c (.int 1) 34),
  (34, zo_cs 100 2 37),
  (37, zo_c (.int 40) 39),
  (39, zo_iast 40),
  (40, zo_c (.int 2) 41),
  (41, zo_is 3 42),
  (42, zo_il 3 43),
  (43, zo_c (.int 4) 44),
  (44, zo_cgt 64 47),
  (47, zo_al 0 48),
  (48, zo_get 4 0 51),
  (51, zo_il 2 52),
  (52, zo_il 3 53),
  (53, zo_cs 100 2 56),
  (56, zo_c (.int 0) 57),
  (57, zo_iast 58),
  (58, zo_inc 3 1 61),
  (61, zo_goto 42),
  (64, zo_il 2 65),
  (65, zo_ir 0 0)]
def tb_M_inlaw : zT := [
  (0, zo_il 1 1),
  (1, zo_cs 106 1 4),
  (4, zo_ifne 14 7),
  (7, zo_al 0 8),
  (8, zo_c (.int (-1000000001)) 10),
  (10, zo_cv 4 94 1 13),
  (13, zo_ir 0 0),
  (14, zo_al 0 15),
  (15, zo_get 4 0 18),
  (18, zo_c (.int 2) 19),
  (19, zo_iald 20),
  (20, zo_c (.int 8) 22),
  (22, zo_cne 34 25),
  (25, zo_al 0 26),
  (26, zo_c (.int (-1000000002)) 28),
  (28, zo_cv 4 94 1 31),
  (31, zo_goto 39),
  (34, zo_al 0 35),
  (35, zo_il 1 36),
  (36, zo_cv 4 118 1 39),
  (39, zo_ir 0 0)]
def tb_M_of : zT := [
  (0, zo_al 0 1),
  (1, zo_il 1 2),
  (2, zo_cv 4 104 1 5),
  (5, zo_ifeq 20 8),
  (8, zo_il 2 9),
  (9, zo_i2l 10),
  (10, zo_c (.long 0) 11),
  (11, zo_c (.long 5) 14),
  (14, zo_cs 93 3 17),
  (17, zo_ifne 27 20),
  (20, zo_al 0 21),
  (21, zo_c (.int (-1000000001)) 23),
  (23, zo_cv 4 94 1 26),
  (26, zo_ir 0 0),
  (27, zo_il 2 28),
  (28, zo_c (.int 4) 29),
  (29, zo_cgt 41 32),
  (32, zo_al 0 33),
  (33, zo_il 1 34),
  (34, zo_il 2 35),
  (35, zo_cv 4 102 2 38),
  (38, zo_goto 46),
  (41, zo_al 0 42),
  (42, zo_il 1 43),
  (43, zo_cv 4 117 1 46),
  (46, zo_ir 0 0)]
def tb_M_with : zT := [
  (0, zo_al 0 1),
  (1, zo_il 1 2),
  (2, zo_cv 4 104 1 5),
  (5, zo_ifeq 28 8),
  (8, zo_al 0 9),
  (9, zo_il 2 10),
  (10, zo_cv 4 105 1 13),
  (13, zo_ifeq 28 16),
  (16, zo_il 3 17),
  (17, zo_i2l 18),
  (18, zo_c (.long 0) 19),
  (19, zo_c (.long 2) 22),
  (22, zo_cs 93 3 25),
  (25, zo_ifne 35 28),
  (28, zo_al 0 29),
  (29, zo_c (.int (-1000000001)) 31),
  (31, zo_cv 4 94 1 34),
  (34, zo_ir 0 0),
  (35, zo_il 3 36),
  (36, zo_ifne 48 39),
  (39, zo_al 0 40),
  (40, zo_il 1 41),
  (41, zo_il 2 42),
  (42, zo_cv 4 114 2 45),
  (45, zo_goto 74),
  (48, zo_il 3 49),
  (49, zo_c (.int 1) 50),
  (50, zo_cne 65 53),
  (53, zo_c (.int 100) 55),
  (55, zo_al 0 56),
  (56, zo_il 1 57),
  (57, zo_il 2 58),
  (58, zo_cv 4 115 2 61),
  (61, zo_iadd 62),
  (62, zo_goto 74),
  (65, zo_c (.int 100) 67),
  (67, zo_al 0 68),
  (68, zo_il 1 69),
  (69, zo_il 2 70),
  (70, zo_cv 4 116 2 73),
  (73, zo_iadd 74),
  (74, zo_ir 0 0)]
def tb_M_set : zT := [
  (0, zo_il 2 1),
  (1, zo_i2l 2),
  (2, zo_c (.long 1) 3),
  (3, zo_c (.long 4) 6),
  (6, zo_cs 93 3 9),
  (9, zo_ifeq 48 12),
  (12, zo_il 3 13),
  (13, zo_i2l 14),
  (14, zo_c (.long 0) 15),
  (15, zo_il 2 16),
  (16, zo_c (.int 1) 17),
  (17, zo_cne 26 20),
  (20, zo_c (.long 99) 23),
  (23, zo_goto 38),
  (26, zo_il 2 27),
  (27, zo_c (.int 2) 28),
  (28, zo_cne 35 31),
  (31, zo_c (.long 1) 32),
  (32, zo_goto 38),
  (35, zo_c (.long 9999) 38),
  (38, zo_cs 93 3 41),
  (41, zo_ifeq 48 44),
  (44, zo_c (.int 1) 45),
  (45, zo_goto 49),
  (48, zo_c (.int 0) 49),
  (49, zo_is 4 51),
  (51, zo_al 0 52),
  (52, zo_il 1 53),
  (53, zo_cv 4 104 1 56),
  (56, zo_ifeq 77 59),
  (59, zo_il 4 61),
  (61, zo_ifeq 77 64),
  (64, zo_al 0 65),
  (65, zo_il 1 66),
  (66, zo_il 2 67),
  (67, zo_cs 100 2 70),
  (70, zo_il 3 71),
  (71, zo_cv 4 99 2 74),
  (74, zo_goto 83),
  (77, zo_al 0 78),
  (78, zo_c (.int (-1000000001)) 80),
  (80, zo_cv 4 94 1 83),
  (83, zo_ir 0 0)]
def tb_M_turn : zT := [
  (0, zo_al 0 1),
  (1, zo_il 1 2),
  (2, zo_cv 4 104 1 5),
  (5, zo_ifeq 28 8),
  (8, zo_il 2 9),
  (9, zo_cs 106 1 12),
  (12, zo_ifeq 28 15),
  (15, zo_al 0 16),
  (16, zo_il 1 17),
  (17, zo_c (.int 0) 18),
  (18, zo_cs 100 2 21),
  (21, zo_il 2 22),
  (22, zo_cv 4 99 2 25),
  (25, zo_goto 34),
  (28, zo_al 0 29),
  (29, zo_c (.int (-1000000001)) 31),
  (31, zo_cv 4 94 1 34),
  (34, zo_ir 0 0)]
def tb_M_isUnder : zT := [
  (0, zo_il 1 1),
  (1, zo_ifeq 29 4),
  (4, zo_il 0 5),
  (5, zo_il 1 6),
  (6, zo_ceq 29 9),
  (9, zo_il 0 10),
  (10, zo_c (.int 4) 11),
  (11, zo_cne 19 14),
  (14, zo_il 1 15),
  (15, zo_c (.int 1) 16),
  (16, zo_ceq 29 19),
  (19, zo_il 0 20),
  (20, zo_c (.int 5) 21),
  (21, zo_cne 33 24),
  (24, zo_il 1 25),
  (25, zo_c (.int 2) 26),
  (26, zo_cne 33 29),
  (29, zo_c (.int 1) 30),
  (30, zo_goto 34),
  (33, zo_c (.int 0) 34),
  (34, zo_zr 0 0)]
def tb_M_as : zT := [
  (0, zo_al 0 1),
  (1, zo_il 1 2),
  (2, zo_cv 4 104 1 5),
  (5, zo_ifeq 15 8),
  (8, zo_il 2 9),
  (9, zo_cs 106 1 12),
  (12, zo_ifne 22 15),
  (15, zo_al 0 16),
  (16, zo_c (.int (-1000000001)) 18),
  (18, zo_cv 4 94 1 21),
  (21, zo_ir 0 0),
  (22, zo_al 0 23),
  (23, zo_il 1 24),
  (24, zo_c (.int 0) 25),
  (25, zo_cv 4 102 2 28),
  (28, zo_il 2 29),
  (29, zo_cs 124 2 32),
  (32, zo_ifeq 44 35),
  (35, zo_al 0 36),
  (36, zo_il 1 37),
  (37, zo_c (.int 1) 38),
  (38, zo_cv 4 102 2 41),
  (41, zo_goto 50),
  (44, zo_al 0 45),
  (45, zo_c (.int (-1000000003)) 47),
  (47, zo_cv 4 94 1 50),
  (50, zo_ir 0 0)]
def tb_M_addsCouple : zT := [
  (0, zo_al 0 1),
  (1, zo_get 4 0 4),
  (4, zo_c (.int 3) 5),
  (5, zo_iald 6),
  (6, zo_is 2 7),
  (7, zo_al 0 8),
  (8, zo_get 4 0 11),
  (11, zo_c (.int 3) 12),
  (12, zo_dup2 13),
  (13, zo_iald 14),
  (14, zo_c (.int 1) 15),
  (15, zo_iadd 16),
  (16, zo_iast 17),
  (17, zo_al 0 18),
  (18, zo_get 4 0 21),
  (21, zo_il 2 22),
  (22, zo_c (.int 0) 23),
  (23, zo_cs 101 2 26),
  (26, zo_il 1 27),
  (27, zo_iast 28),
  (28, zo_al 0 29),
  (29, zo_get 4 0 32),
  (32, zo_il 2 33),
  (33, zo_c (.int 1) 34),
  (34, zo_cs 101 2 37),
  (37, zo_c (.int 0) 38),
  (38, zo_iast 39),
  (39, zo_al 0 40),
  (40, zo_get 4 0 43),
  (43, zo_il 2 44),
  (44, zo_c (.int 2) 45),
  (45, zo_cs 101 2 48),
  (48, zo_c (.int (-1)) 49),
  (49, zo_iast 50),
  (50, zo_il 2 51),
  (51, zo_ir 0 0)]
def tb_M_couple : zT := [
  (0, zo_il 1 1),
  (1, zo_i2l 2),
  (2, zo_c (.long 0) 3),
  (3, zo_c (.long 9) 6),
  (6, zo_cs 93 3 9),
  (9, zo_ifne 19 12),
  (12, zo_al 0 13),
  (13, zo_c (.int (-1000000001)) 15),
  (15, zo_cv 4 94 1 18),
  (18, zo_ir 0 0),
  (19, zo_al 0 20),
  (20, zo_get 4 0 23),
  (23, zo_c (.int 3) 24),
  (24, zo_iald 25),
  (25, zo_c (.int 8) 27),
  (27, zo_cne 39 30),
  (30, zo_al 0 31),
  (31, zo_c (.int (-1000000002)) 33),
  (33, zo_cv 4 94 1 36),
  (36, zo_goto 44),
  (39, zo_al 0 40),
  (40, zo_il 1 41),
  (41, zo_cv 4 126 1 44),
  (44, zo_ir 0 0)]
def tb_M_hasNow : zT := [
  (0, zo_al 0 1),
  (1, zo_cv 4 97 0 4),
  (4, zo_al 0 5),
  (5, zo_cv 4 134 0 8),
  (8, zo_al 0 9),
  (9, zo_al 0 10),
  (10, zo_get 4 5 13),
  (13, zo_il 1 14),
  (14, zo_iald 15),
  (15, zo_cv 4 98 1 18),
  (18, zo_ir 0 0)]
def tb_M_coupleOf : zT := [
  (0, zo_al 0 1),
  (1, zo_il 1 2),
  (2, zo_cv 4 105 1 5),
  (5, zo_ifeq 20 8),
  (8, zo_il 2 9),
  (9, zo_i2l 10),
  (10, zo_c (.long 0) 11),
  (11, zo_c (.long 3) 14),
  (14, zo_cs 93 3 17),
  (17, zo_ifne 27 20),
  (20, zo_al 0 21),
  (21, zo_c (.int (-1000000001)) 23),
  (23, zo_cv 4 94 1 26),
  (26, zo_ir 0 0),
  (27, zo_il 2 28),
  (28, zo_c (.int 3) 29),
  (29, zo_cne 40 32),
  (32, zo_al 0 33),
  (33, zo_il 1 34),
  (34, zo_cv 4 128 1 37),
  (37, zo_goto 64),
  (40, zo_il 2 41),
  (41, zo_c (.int 1) 42),
  (42, zo_cne 58 45),
  (45, zo_c (.int 10000) 48),
  (48, zo_al 0 49),
  (49, zo_il 1 50),
  (50, zo_c (.int 1) 51),
  (51, zo_cv 4 103 2 54),
  (54, zo_iadd 55),
  (55, zo_goto 64),
  (58, zo_al 0 59),
  (59, zo_il 1 60),
  (60, zo_il 2 61),
  (61, zo_cv 4 103 2 64),
  (64, zo_ir 0 0)]
def tb_M_give : zT := [
  (0, zo_il 2 1),
  (1, zo_ifne 16 4),
  (4, zo_il 3 5),
  (5, zo_i2l 6),
  (6, zo_c (.long 0) 7),
  (7, zo_c (.long 9) 10),
  (10, zo_cs 93 3 13),
  (13, zo_goto 65),
  (16, zo_il 2 17),
  (17, zo_c (.int 1) 18),
  (18, zo_cne 35 21),
  (21, zo_il 3 22),
  (22, zo_i2l 23),
  (23, zo_c (.long (-999)) 26),
  (26, zo_c (.long 999) 29),
  (29, zo_cs 93 3 32),
  (32, zo_goto 65),
  (35, zo_il 2 36),
  (36, zo_c (.int 2) 37),
  (37, zo_cne 64 40),
  (40, zo_il 3 41),
  (41, zo_i2l 42),
  (42, zo_c (.long (-1)) 45),
  (45, zo_al 0 46),
  (46, zo_get 4 0 49),
  (49, zo_c (.int 2) 50),
  (50, zo_iald 51),
  (51, zo_c (.int 1) 52),
  (52, zo_isub 53),
  (53, zo_i2l 54),
  (54, zo_cs 93 3 57),
  (57, zo_ifeq 64 60),
  (60, zo_c (.int 1) 61),
  (61, zo_goto 65),
  (64, zo_c (.int 0) 65),
  (65, zo_is 4 67),
  (67, zo_al 0 68),
  (68, zo_il 1 69),
  (69, zo_cv 4 105 1 72),
  (72, zo_ifeq 93 75),
  (75, zo_il 4 77),
  (77, zo_ifeq 93 80),
  (80, zo_al 0 81),
  (81, zo_il 1 82),
  (82, zo_il 2 83),
  (83, zo_cs 101 2 86),
  (86, zo_il 3 87),
  (87, zo_cv 4 99 2 90),
  (90, zo_goto 99),
  (93, zo_al 0 94),
  (94, zo_c (.int (-1000000001)) 96),
  (96, zo_cv 4 94 1 99),
  (99, zo_ir 0 0)]
def tb_M_charmer : zT := [
  (0, zo_c (.int (-1)) 1),
  (1, zo_is 3 2),
  (2, zo_c (.int 0) 3),
  (3, zo_is 4 5),
  (5, zo_il 4 7),
  (7, zo_al 0 8),
  (8, zo_get 4 0 11),
  (11, zo_c (.int 2) 12),
  (12, zo_iald 13),
  (13, zo_cge 81 16),
  (16, zo_il 2 17),
  (17, zo_il 4 19),
  (19, zo_ishr 20),
  (20, zo_c (.int 1) 21),
  (21, zo_iand 22),
  (22, zo_ifne 39 25),
  (25, zo_al 0 26),
  (26, zo_il 4 28),
  (28, zo_c (.int 2) 29),
  (29, zo_cv 4 102 2 32),
  (32, zo_ifne 39 35),
  (35, zo_c (.int 1) 36),
  (36, zo_goto 40),
  (39, zo_c (.int 0) 40),
  (40, zo_is 5 42),
  (42, zo_il 5 44),
  (44, zo_ifeq 73 47),
  (47, zo_il 3 48),
  (48, zo_c (.int (-1)) 49),
  (49, zo_ceq 68 52),
  (52, zo_al 0 53),
  (53, zo_il 4 55),
  (55, zo_il 1 56),
  (56, zo_cv 4 114 2 59),
  (59, zo_al 0 60),
  (60, zo_il 3 61),
  (61, zo_il 1 62),
  (62, zo_cv 4 114 2 65),
  (65, zo_cle 73 68),
  (68, zo_il 4 70),
  (70, zo_goto 74),
  (73, zo_il 3 74),
  (74, zo_is 3 75),
  (75, zo_inc 4 1 78),
  (78, zo_goto 5),
  (81, zo_il 3 82),
  (82, zo_ir 0 0)]
def tb_M_has : zT := [
  (0, zo_al 0 1),
  (1, zo_il 2 2),
  (2, zo_il 1 3),
  (3, zo_cv 4 115 2 6),
  (6, zo_is 3 7),
  (7, zo_al 0 8),
  (8, zo_il 2 9),
  (9, zo_il 1 10),
  (10, zo_cv 4 116 2 13),
  (13, zo_is 4 15),
  (15, zo_al 0 16),
  (16, zo_get 4 0 19),
  (19, zo_il 1 20),
  (20, zo_c (.int 1) 21),
  (21, zo_cs 101 2 24),
  (24, zo_al 0 25),
  (25, zo_il 1 26),
  (26, zo_c (.int 1) 27),
  (27, zo_cv 4 103 2 30),
  (30, zo_il 3 31),
  (31, zo_iadd 32),
  (32, zo_c (.int (-999)) 35),
  (35, zo_c (.int 999) 38),
  (38, zo_cs 107 3 41),
  (41, zo_iast 42),
  (42, zo_al 0 43),
  (43, zo_get 4 0 46),
  (46, zo_il 1 47),
  (47, zo_c (.int 2) 48),
  (48, zo_cs 101 2 51),
  (51, zo_il 2 52),
  (52, zo_iast 53),
  (53, zo_al 0 54),
  (54, zo_get 4 0 57),
  (57, zo_il 2 58),
  (58, zo_c (.int 4) 59),
  (59, zo_cs 100 2 62),
  (62, zo_al 0 63),
  (63, zo_il 2 64),
  (64, zo_c (.int 4) 65),
  (65, zo_cv 4 102 2 68),
  (68, zo_c (.int 1) 69),
  (69, zo_iadd 70),
  (70, zo_c (.int 0) 71),
  (71, zo_c (.int 9999) 74),
  (74, zo_cs 107 3 77),
  (77, zo_iast 78),
  (78, zo_al 0 79),
  (79, zo_get 4 0 82),
  (82, zo_il 2 83),
  (83, zo_c (.int 1) 84),
  (84, zo_cs 100 2 87),
  (87, zo_al 0 88),
  (88, zo_il 2 89),
  (89, zo_c (.int 1) 90),
  (90, zo_cv 4 102 2 93),
  (93, zo_il 4 95),
  (95, zo_iadd 96),
  (96, zo_c (.int 0) 97),
  (97, zo_c (.int 99) 99),
  (99, zo_cs 107 3 102),
  (102, zo_iast 103),
  (103, zo_vr 0 0)]
def tb_M_isAlone : zT := [
  (0, zo_al 0 1),
  (1, zo_get 4 0 4),
  (4, zo_il 1 5),
  (5, zo_c (.int 3) 6),
  (6, zo_cs 100 2 9),
  (9, zo_al 0 10),
  (10, zo_il 1 11),
  (11, zo_c (.int 3) 12),
  (12, zo_cv 4 102 2 15),
  (15, zo_c (.int 1) 16),
  (16, zo_iadd 17),
  (17, zo_c (.int 0) 18),
  (18, zo_c (.int 9999) 21),
  (21, zo_cs 107 3 24),
  (24, zo_iast 25),
  (25, zo_al 0 26),
  (26, zo_get 4 0 29),
  (29, zo_il 1 30),
  (30, zo_c (.int 1) 31),
  (31, zo_cs 100 2 34),
  (34, zo_al 0 35),
  (35, zo_il 1 36),
  (36, zo_c (.int 1) 37),
  (37, zo_cv 4 102 2 40),
  (40, zo_al 0 41),
  (41, zo_il 1 42),
  (42, zo_cv 4 117 1 45),
  (45, zo_isub 46),
  (46, zo_c (.int 0) 47),
  (47, zo_c (.int 99) 49),
  (49, zo_cs 107 3 52),
  (52, zo_iast 53),
  (53, zo_vr 0 0)]
def tb_M_sunday : zT := [
  (0, zo_c (.int 0) 1),
  (1, zo_is 1 2),
  (2, zo_c (.int 0) 3),
  (3, zo_is 2 4),
  (4, zo_il 2 5),
  (5, zo_al 0 6),
  (6, zo_get 4 0 9),
  (9, zo_c (.int 3) 10),
  (10, zo_iald 11),
  (11, zo_cge 102 14),
  (14, zo_al 0 15),
  (15, zo_get 4 0 18),
  (18, zo_c (.int 0) 19),
  (19, zo_iald 20),
  (20, zo_il 2 21),
  (21, zo_iadd 22),
  (22, zo_al 0 23),
  (23, zo_get 4 0 26),
  (26, zo_c (.int 3) 27),
  (27, zo_iald 28),
  (28, zo_irem 29),
  (29, zo_is 3 30),
  (30, zo_al 0 31),
  (31, zo_il 3 32),
  (32, zo_il 1 33),
  (33, zo_cv 4 131 2 36),
  (36, zo_is 4 38),
  (38, zo_al 0 39),
  (39, zo_get 4 5 42),
  (42, zo_il 3 43),
  (43, zo_il 4 45),
  (45, zo_iast 46),
  (46, zo_il 4 48),
  (48, zo_c (.int (-1)) 49),
  (49, zo_cne 82 52),
  (52, zo_al 0 53),
  (53, zo_get 4 0 56),
  (56, zo_il 3 57),
  (57, zo_c (.int 1) 58),
  (58, zo_cs 101 2 61),
  (61, zo_al 0 62),
  (62, zo_il 3 63),
  (63, zo_c (.int 1) 64),
  (64, zo_cv 4 103 2 67),
  (67, zo_c (.int 1) 68),
  (68, zo_isub 69),
  (69, zo_c (.int (-999)) 72),
  (72, zo_c (.int 999) 75),
  (75, zo_cs 107 3 78),
  (78, zo_iast 79),
  (79, zo_goto 96),
  (82, zo_il 1 83),
  (83, zo_c (.int 1) 84),
  (84, zo_il 4 86),
  (86, zo_ishl 87),
  (87, zo_ior 88),
  (88, zo_is 1 89),
  (89, zo_al 0 90),
  (90, zo_il 3 91),
  (91, zo_il 4 93),
  (93, zo_cv 4 132 2 96),
  (96, zo_inc 2 1 99),
  (99, zo_goto 4),
  (102, zo_c (.int 0) 103),
  (103, zo_is 2 104),
  (104, zo_il 2 105),
  (105, zo_al 0 106),
  (106, zo_get 4 0 109),
  (109, zo_c (.int 2) 110),
  (110, zo_iald 111),
  (111, zo_cge 133 114),
  (114, zo_il 1 115),
  (115, zo_il 2 116),
  (116, zo_ishr 117),
  (117, zo_c (.int 1) 118),
  (118, zo_iand 119),
  (119, zo_ifne 127 122),
  (122, zo_al 0 123),
  (123, zo_il 2 124),
  (124, zo_cv 4 133 1 127),
  (127, zo_inc 2 1 130),
  (130, zo_goto 104),
  (133, zo_al 0 134),
  (134, zo_get 4 0 137),
  (137, zo_c (.int 0) 138),
  (138, zo_dup2 139),
  (139, zo_iald 140),
  (140, zo_c (.int 1) 141),
  (141, zo_iadd 142),
  (142, zo_iast 143),
  (143, zo_vr 0 0)]
def tb_M_sundaysGo : zT := [
  (0, zo_c (.int 0) 1),
  (1, zo_is 2 2),
  (2, zo_il 2 3),
  (3, zo_il 1 4),
  (4, zo_cge 17 7),
  (7, zo_al 0 8),
  (8, zo_cv 4 134 0 11),
  (11, zo_inc 2 1 14),
  (14, zo_goto 2),
  (17, zo_vr 0 0)]
def tb_M_sundays : zT := [
  (0, zo_il 1 1),
  (1, zo_i2l 2),
  (2, zo_c (.long 1) 3),
  (3, zo_c (.long 60) 6),
  (6, zo_cs 93 3 9),
  (9, zo_ifne 19 12),
  (12, zo_al 0 13),
  (13, zo_c (.int (-1000000001)) 15),
  (15, zo_cv 4 94 1 18),
  (18, zo_ir 0 0),
  (19, zo_al 0 20),
  (20, zo_get 4 0 23),
  (23, zo_c (.int 0) 24),
  (24, zo_iald 25),
  (25, zo_il 1 26),
  (26, zo_iadd 27),
  (27, zo_c (.int 9999) 30),
  (30, zo_cle 40 33),
  (33, zo_al 0 34),
  (34, zo_c (.int (-1000000005)) 36),
  (36, zo_cv 4 94 1 39),
  (39, zo_ir 0 0),
  (40, zo_al 0 41),
  (41, zo_il 1 42),
  (42, zo_cv 4 135 1 45),
  (45, zo_al 0 46),
  (46, zo_c (.int 1) 47),
  (47, zo_cv 4 108 1 50),
  (50, zo_ir 0 0)]
def tb_M_isAhead : zT := [
  (0, zo_il 0 1),
  (1, zo_i2l 2),
  (2, zo_c (.long 0) 3),
  (3, zo_c (.long 100) 6),
  (6, zo_cs 93 3 9),
  (9, zo_zr 0 0)]
def tb_M_behind : zT := [
  (0, zo_al 0 1),
  (1, zo_cv 4 97 0 4),
  (4, zo_al 0 5),
  (5, zo_il 2 6),
  (6, zo_cv 4 135 1 9),
  (9, zo_al 0 10),
  (10, zo_il 1 11),
  (11, zo_c (.int (-1)) 12),
  (12, zo_cne 22 15),
  (15, zo_al 0 16),
  (16, zo_cv 4 109 0 19),
  (19, zo_goto 42),
  (22, zo_il 1 23),
  (23, zo_c (.int (-2)) 25),
  (25, zo_cne 36 28),
  (28, zo_al 0 29),
  (29, zo_c (.int 1) 30),
  (30, zo_cv 4 108 1 33),
  (33, zo_goto 42),
  (36, zo_al 0 37),
  (37, zo_get 4 0 40),
  (40, zo_il 1 41),
  (41, zo_iald 42),
  (42, zo_cv 4 98 1 45),
  (45, zo_ir 0 0)]
def tb_M_on : zT := [
  (0, zo_al 0 1),
  (1, zo_il 1 2),
  (2, zo_cv 4 105 1 5),
  (5, zo_ifeq 25 8),
  (8, zo_il 2 9),
  (9, zo_cs 137 1 12),
  (12, zo_ifeq 25 15),
  (15, zo_il 3 16),
  (16, zo_i2l 17),
  (17, zo_c (.long 0) 18),
  (18, zo_c (.long 1) 19),
  (19, zo_cs 93 3 22),
  (22, zo_ifne 32 25),
  (25, zo_al 0 26),
  (26, zo_c (.int (-1000000001)) 28),
  (28, zo_cv 4 94 1 31),
  (31, zo_ir 0 0),
  (32, zo_al 0 33),
  (33, zo_il 1 34),
  (34, zo_il 3 35),
  (35, zo_ifne 42 38),
  (38, zo_c (.int 1) 39),
  (39, zo_goto 43),
  (42, zo_c (.int 2) 43),
  (43, zo_cs 101 2 46),
  (46, zo_il 2 47),
  (47, zo_cv 4 138 2 50),
  (50, zo_ir 0 0)]
def tb_M_then : zT := [
  (0, zo_al 0 1),
  (1, zo_il 1 2),
  (2, zo_cv 4 104 1 5),
  (5, zo_ifeq 27 8),
  (8, zo_il 2 9),
  (9, zo_cs 137 1 12),
  (12, zo_ifeq 27 15),
  (15, zo_il 3 16),
  (16, zo_i2l 17),
  (17, zo_c (.long 0) 18),
  (18, zo_c (.long 2) 21),
  (21, zo_cs 93 3 24),
  (24, zo_ifne 34 27),
  (27, zo_al 0 28),
  (28, zo_c (.int (-1000000001)) 30),
  (30, zo_cv 4 94 1 33),
  (33, zo_ir 0 0),
  (34, zo_al 0 35),
  (35, zo_il 1 36),
  (36, zo_il 3 37),
  (37, zo_ifne 44 40),
  (40, zo_c (.int 1) 41),
  (41, zo_goto 54),
  (44, zo_il 3 45),
  (45, zo_c (.int 1) 46),
  (46, zo_cne 53 49),
  (49, zo_c (.int 3) 50),
  (50, zo_goto 54),
  (53, zo_c (.int 4) 54),
  (54, zo_cs 100 2 57),
  (57, zo_il 2 58),
  (58, zo_cv 4 138 2 61),
  (61, zo_ir 0 0)]
def tb_M_meets : zT := [
  (0, zo_al 0 1),
  (1, zo_il 1 2),
  (2, zo_cv 4 105 1 5),
  (5, zo_ifeq 16 8),
  (8, zo_al 0 9),
  (9, zo_il 2 10),
  (10, zo_cv 4 104 1 13),
  (13, zo_ifne 23 16),
  (16, zo_al 0 17),
  (17, zo_c (.int (-1000000001)) 19),
  (19, zo_cv 4 94 1 22),
  (22, zo_ir 0 0),
  (23, zo_al 0 24),
  (24, zo_cv 4 97 0 27),
  (27, zo_c (.int 0) 28),
  (28, zo_is 3 29),
  (29, zo_c (.int 0) 30),
  (30, zo_is 4 32),
  (32, zo_il 3 33),
  (33, zo_c (.int 100) 35),
  (35, zo_cge 70 38),
  (38, zo_il 4 40),
  (40, zo_ifne 70 43),
  (43, zo_al 0 44),
  (44, zo_cv 4 134 0 47),
  (47, zo_inc 3 1 50),
  (50, zo_al 0 51),
  (51, zo_get 4 5 54),
  (54, zo_il 1 55),
  (55, zo_iald 56),
  (56, zo_il 2 57),
  (57, zo_cne 64 60),
  (60, zo_c (.int 1) 61),
  (61, zo_goto 65),
  (64, zo_c (.int 0) 65),
  (65, zo_is 4 67),
  (67, zo_goto 32),
  (70, zo_al 0 71),
  (71, zo_il 4 73),
  (73, zo_ifeq 80 76),
  (76, zo_il 3 77),
  (77, zo_goto 81),
  (80, zo_c (.int 0) 81),
  (81, zo_cv 4 98 1 84),
  (84, zo_is 5 86),
  (86, zo_il 5 88),
  (88, zo_ifne 100 91),
  (91, zo_al 0 92),
  (92, zo_c (.int (-1000000004)) 94),
  (94, zo_cv 4 94 1 97),
  (97, zo_goto 102),
  (100, zo_il 5 102),
  (102, zo_ir 0 0)]
def tb_M_well : zT := [
  (0, zo_al 0 1),
  (1, zo_il 1 2),
  (2, zo_cv 4 105 1 5),
  (5, zo_ifeq 22 8),
  (8, zo_il 2 9),
  (9, zo_i2l 10),
  (10, zo_c (.long (-999)) 13),
  (13, zo_c (.long 999) 16),
  (16, zo_cs 93 3 19),
  (19, zo_ifne 29 22),
  (22, zo_al 0 23),
  (23, zo_c (.int (-1000000001)) 25),
  (25, zo_cv 4 94 1 28),
  (28, zo_ir 0 0),
  (29, zo_al 0 30),
  (30, zo_cv 4 97 0 33),
  (33, zo_c (.int 0) 34),
  (34, zo_is 3 35),
  (35, zo_il 3 36),
  (36, zo_c (.int 100) 38),
  (38, zo_cgt 61 41),
  (41, zo_al 0 42),
  (42, zo_il 1 43),
  (43, zo_c (.int 1) 44),
  (44, zo_cv 4 103 2 47),
  (47, zo_il 2 48),
  (48, zo_cge 61 51),
  (51, zo_al 0 52),
  (52, zo_cv 4 134 0 55),
  (55, zo_inc 3 1 58),
  (58, zo_goto 35),
  (61, zo_al 0 62),
  (62, zo_il 3 63),
  (63, zo_cv 4 98 1 66),
  (66, zo_is 4 68),
  (68, zo_il 4 70),
  (70, zo_c (.int 100) 72),
  (72, zo_cle 84 75),
  (75, zo_al 0 76),
  (76, zo_c (.int (-1000000004)) 78),
  (78, zo_cv 4 94 1 81),
  (81, zo_goto 86),
  (84, zo_il 4 86),
  (86, zo_ir 0 0)]
def tb_M_cold : zT := [
  (0, zo_al 0 1),
  (1, zo_il 1 2),
  (2, zo_cv 4 104 1 5),
  (5, zo_ifne 15 8),
  (8, zo_al 0 9),
  (9, zo_c (.int (-1000000001)) 11),
  (11, zo_cv 4 94 1 14),
  (14, zo_ir 0 0),
  (15, zo_al 0 16),
  (16, zo_cv 4 97 0 19),
  (19, zo_c (.int 0) 20),
  (20, zo_is 2 21),
  (21, zo_il 2 22),
  (22, zo_c (.int 100) 24),
  (24, zo_cgt 46 27),
  (27, zo_al 0 28),
  (28, zo_il 1 29),
  (29, zo_c (.int 1) 30),
  (30, zo_cv 4 102 2 33),
  (33, zo_ifle 46 36),
  (36, zo_al 0 37),
  (37, zo_cv 4 134 0 40),
  (40, zo_inc 2 1 43),
  (43, zo_goto 21),
  (46, zo_al 0 47),
  (47, zo_il 2 48),
  (48, zo_cv 4 98 1 51),
  (51, zo_is 3 52),
  (52, zo_il 3 53),
  (53, zo_c (.int 100) 55),
  (55, zo_cle 67 58),
  (58, zo_al 0 59),
  (59, zo_c (.int (-1000000004)) 61),
  (61, zo_cv 4 94 1 64),
  (64, zo_goto 68),
  (67, zo_il 3 68),
  (68, zo_ir 0 0)]
def tb_M_isSoon : zT := [
  (0, zo_il 0 1),
  (1, zo_i2l 2),
  (2, zo_c (.long 1) 3),
  (3, zo_c (.long 60) 6),
  (6, zo_cs 93 3 9),
  (9, zo_zr 0 0)]
def tb_M_mostBy : zT := [
  (0, zo_al 0 1),
  (1, zo_get 4 0 4),
  (4, zo_il 1 5),
  (5, zo_iald 6),
  (6, zo_is 5 8),
  (8, zo_c (.int 0) 9),
  (9, zo_is 6 11),
  (11, zo_c (.int (-99999)) 13),
  (13, zo_is 7 15),
  (15, zo_c (.int 0) 16),
  (16, zo_is 8 18),
  (18, zo_il 8 20),
  (20, zo_il 2 21),
  (21, zo_cgt 79 24),
  (24, zo_al 0 25),
  (25, zo_get 4 0 28),
  (28, zo_il 1 29),
  (29, zo_il 8 31),
  (31, zo_iast 32),
  (32, zo_al 0 33),
  (33, zo_il 3 34),
  (34, zo_il 4 36),
  (36, zo_cv 4 138 2 39),
  (39, zo_is 9 41),
  (41, zo_il 9 43),
  (43, zo_il 7 45),
  (45, zo_cle 53 48),
  (48, zo_il 8 50),
  (50, zo_goto 55),
  (53, zo_il 6 55),
  (55, zo_is 6 57),
  (57, zo_il 9 59),
  (59, zo_il 7 61),
  (61, zo_cle 69 64),
  (64, zo_il 9 66),
  (66, zo_goto 71),
  (69, zo_il 7 71),
  (71, zo_is 7 73),
  (73, zo_inc 8 1 76),
  (76, zo_goto 18),
  (79, zo_al 0 80),
  (80, zo_get 4 0 83),
  (83, zo_il 1 84),
  (84, zo_il 5 86),
  (86, zo_iast 87),
  (87, zo_il 6 89),
  (89, zo_ir 0 0)]
def tb_M_kind : zT := [
  (0, zo_al 0 1),
  (1, zo_il 1 2),
  (2, zo_cv 4 104 1 5),
  (5, zo_ifeq 34 8),
  (8, zo_il 2 9),
  (9, zo_cs 144 1 12),
  (12, zo_ifeq 34 15),
  (15, zo_al 0 16),
  (16, zo_il 1 17),
  (17, zo_c (.int 0) 18),
  (18, zo_cs 100 2 21),
  (21, zo_c (.int 5) 22),
  (22, zo_il 1 23),
  (23, zo_c (.int 4) 24),
  (24, zo_cs 100 2 27),
  (27, zo_il 2 28),
  (28, zo_cv 4 145 4 31),
  (31, zo_goto 40),
  (34, zo_al 0 35),
  (35, zo_c (.int (-1000000001)) 37),
  (37, zo_cv 4 94 1 40),
  (40, zo_ir 0 0)]
def tb_M_warm : zT := [
  (0, zo_al 0 1),
  (1, zo_il 1 2),
  (2, zo_cv 4 104 1 5),
  (5, zo_ifeq 27 8),
  (8, zo_il 2 9),
  (9, zo_cs 144 1 12),
  (12, zo_ifeq 27 15),
  (15, zo_il 3 16),
  (16, zo_i2l 17),
  (17, zo_c (.long 0) 18),
  (18, zo_c (.long 9999) 21),
  (21, zo_cs 93 3 24),
  (24, zo_ifne 34 27),
  (27, zo_al 0 28),
  (28, zo_c (.int (-1000000001)) 30),
  (30, zo_cv 4 94 1 33),
  (33, zo_ir 0 0),
  (34, zo_il 1 35),
  (35, zo_c (.int 1) 36),
  (36, zo_cs 100 2 39),
  (39, zo_is 4 41),
  (41, zo_al 0 42),
  (42, zo_get 4 0 45),
  (45, zo_il 4 47),
  (47, zo_iald 48),
  (48, zo_is 5 50),
  (50, zo_c (.int (-1)) 51),
  (51, zo_is 6 53),
  (53, zo_c (.int 0) 54),
  (54, zo_is 7 56),
  (56, zo_il 7 58),
  (58, zo_c (.int 99) 60),
  (60, zo_cgt 105 63),
  (63, zo_il 6 65),
  (65, zo_ifge 105 68),
  (68, zo_al 0 69),
  (69, zo_get 4 0 72),
  (72, zo_il 4 74),
  (74, zo_il 7 76),
  (76, zo_iast 77),
  (77, zo_al 0 78),
  (78, zo_il 1 79),
  (79, zo_c (.int 4) 80),
  (80, zo_cs 100 2 83),
  (83, zo_il 2 84),
  (84, zo_cv 4 138 2 87),
  (87, zo_il 3 88),
  (88, zo_clt 96 91),
  (91, zo_il 7 93),
  (93, zo_goto 97),
  (96, zo_c (.int (-1)) 97),
  (97, zo_is 6 99),
  (99, zo_inc 7 1 102),
  (102, zo_goto 56),
  (105, zo_al 0 106),
  (106, zo_get 4 0 109),
  (109, zo_il 4 111),
  (111, zo_il 5 113),
  (113, zo_iast 114),
  (114, zo_il 6 116),
  (116, zo_ifge 128 119),
  (119, zo_al 0 120),
  (120, zo_c (.int (-1000000004)) 122),
  (122, zo_cv 4 94 1 125),
  (125, zo_goto 130),
  (128, zo_il 6 130),
  (130, zo_ir 0 0)]
def tb_M_sit : zT := [
  (0, zo_il 1 1),
  (1, zo_cs 144 1 4),
  (4, zo_ifne 14 7),
  (7, zo_al 0 8),
  (8, zo_c (.int (-1000000001)) 10),
  (10, zo_cv 4 94 1 13),
  (13, zo_ir 0 0),
  (14, zo_c (.int (-1)) 15),
  (15, zo_is 2 16),
  (16, zo_c (.int (-99999)) 18),
  (18, zo_is 3 19),
  (19, zo_c (.int 0) 20),
  (20, zo_is 4 22),
  (22, zo_il 4 24),
  (24, zo_al 0 25),
  (25, zo_get 4 0 28),
  (28, zo_c (.int 2) 29),
  (29, zo_iald 30),
  (30, zo_cge 107 33),
  (33, zo_al 0 34),
  (34, zo_il 4 36),
  (36, zo_c (.int 2) 37),
  (37, zo_cv 4 102 2 40),
  (40, zo_ifne 101 43),
  (43, zo_al 0 44),
  (44, zo_get 4 0 47),
  (47, zo_il 4 49),
  (49, zo_c (.int 2) 50),
  (50, zo_cs 100 2 53),
  (53, zo_c (.int 1) 54),
  (54, zo_iast 55),
  (55, zo_al 0 56),
  (56, zo_c (.int (-1)) 57),
  (57, zo_il 1 58),
  (58, zo_cv 4 138 2 61),
  (61, zo_is 5 63),
  (63, zo_al 0 64),
  (64, zo_get 4 0 67),
  (67, zo_il 4 69),
  (69, zo_c (.int 2) 70),
  (70, zo_cs 100 2 73),
  (73, zo_c (.int 0) 74),
  (74, zo_iast 75),
  (75, zo_il 5 77),
  (77, zo_il 3 78),
  (78, zo_cle 86 81),
  (81, zo_il 4 83),
  (83, zo_goto 87),
  (86, zo_il 2 87),
  (87, zo_is 2 88),
  (88, zo_il 5 90),
  (90, zo_il 3 91),
  (91, zo_cle 99 94),
  (94, zo_il 5 96),
  (96, zo_goto 100),
  (99, zo_il 3 100),
  (100, zo_is 3 101),
  (101, zo_inc 4 1 104),
  (104, zo_goto 22),
  (107, zo_il 2 108),
  (108, zo_ifge 120 111),
  (111, zo_al 0 112),
  (112, zo_c (.int (-1000000004)) 114),
  (114, zo_cv 4 94 1 117),
  (117, zo_goto 121),
  (120, zo_il 2 121),
  (121, zo_ir 0 0)]
def tb_M_loud : zT := [
  (0, zo_al 0 1),
  (1, zo_il 1 2),
  (2, zo_cv 4 105 1 5),
  (5, zo_ifeq 35 8),
  (8, zo_il 2 9),
  (9, zo_cs 144 1 12),
  (12, zo_ifeq 35 15),
  (15, zo_al 0 16),
  (16, zo_il 1 17),
  (17, zo_c (.int 0) 18),
  (18, zo_cs 101 2 21),
  (21, zo_c (.int 9) 23),
  (23, zo_il 1 24),
  (24, zo_c (.int 1) 25),
  (25, zo_cs 101 2 28),
  (28, zo_il 2 29),
  (29, zo_cv 4 145 4 32),
  (32, zo_goto 41),
  (35, zo_al 0 36),
  (36, zo_c (.int (-1000000001)) 38),
  (38, zo_cv 4 94 1 41),
  (41, zo_ir 0 0)]
def tb_M_stoke : zT := [
  (0, zo_il 1 1),
  (1, zo_cs 144 1 4),
  (4, zo_ifeq 20 7),
  (7, zo_al 0 8),
  (8, zo_c (.int 1) 9),
  (9, zo_c (.int 20) 11),
  (11, zo_c (.int (-2)) 13),
  (13, zo_il 1 14),
  (14, zo_cv 4 145 4 17),
  (17, zo_goto 26),
  (20, zo_al 0 21),
  (21, zo_c (.int (-1000000001)) 23),
  (23, zo_cv 4 94 1 26),
  (26, zo_ir 0 0)]
def tb_M_lonely : zT := [
  (0, zo_il 1 1),
  (1, zo_cs 137 1 4),
  (4, zo_ifne 14 7),
  (7, zo_al 0 8),
  (8, zo_c (.int (-1000000001)) 10),
  (10, zo_cv 4 94 1 13),
  (13, zo_ir 0 0),
  (14, zo_al 0 15),
  (15, zo_get 4 0 18),
  (18, zo_c (.int 2) 19),
  (19, zo_iald 20),
  (20, zo_ifne 30 23),
  (23, zo_al 0 24),
  (24, zo_c (.int (-1000000004)) 26),
  (26, zo_cv 4 94 1 29),
  (29, zo_ir 0 0),
  (30, zo_al 0 31),
  (31, zo_cv 4 97 0 34),
  (34, zo_al 0 35),
  (35, zo_il 1 36),
  (36, zo_cv 4 135 1 39),
  (39, zo_c (.int 0) 40),
  (40, zo_is 2 41),
  (41, zo_c (.int 1) 42),
  (42, zo_is 3 43),
  (43, zo_il 3 44),
  (44, zo_al 0 45),
  (45, zo_get 4 0 48),
  (48, zo_c (.int 2) 49),
  (49, zo_iald 50),
  (50, zo_cge 80 53),
  (53, zo_al 0 54),
  (54, zo_il 3 55),
  (55, zo_c (.int 3) 56),
  (56, zo_cv 4 102 2 59),
  (59, zo_al 0 60),
  (60, zo_il 2 61),
  (61, zo_c (.int 3) 62),
  (62, zo_cv 4 102 2 65),
  (65, zo_cle 72 68),
  (68, zo_il 3 69),
  (69, zo_goto 73),
  (72, zo_il 2 73),
  (73, zo_is 2 74),
  (74, zo_inc 3 1 77),
  (77, zo_goto 43),
  (80, zo_al 0 81),
  (81, zo_il 2 82),
  (82, zo_cv 4 98 1 85),
  (85, zo_ir 0 0)]
def tb_M_feed : zT := [
  (0, zo_il 2 1),
  (1, zo_i2l 2),
  (2, zo_c (.long 1) 3),
  (3, zo_c (.long 4) 6),
  (6, zo_cs 93 3 9),
  (9, zo_ifne 19 12),
  (12, zo_al 0 13),
  (13, zo_c (.int (-1000000001)) 15),
  (15, zo_cv 4 94 1 18),
  (18, zo_ir 0 0),
  (19, zo_al 0 20),
  (20, zo_get 4 8 23),
  (23, zo_il 2 24),
  (24, zo_iadd 25),
  (25, zo_c (.int 120) 27),
  (27, zo_cle 37 30),
  (30, zo_al 0 31),
  (31, zo_c (.int (-1000000002)) 33),
  (33, zo_cv 4 94 1 36),
  (36, zo_ir 0 0),
  (37, zo_il 2 38),
  (38, zo_c (.int 1) 39),
  (39, zo_isub 40),
  (40, zo_is 3 41),
  (41, zo_il 3 42),
  (42, zo_iflt 80 45),
  (45, zo_al 0 46),
  (46, zo_get 4 7 49),
  (49, zo_al 0 50),
  (50, zo_get 4 8 53),
  (53, zo_il 1 54),
  (54, zo_c (.int 8) 56),
  (56, zo_il 3 57),
  (57, zo_imul 58),
  (58, zo_ishr 59),
  (59, zo_c (.int 255) 62),
  (62, zo_iand 63),
  (63, zo_iast 64),
  (64, zo_al 0 65),
  (65, zo_dup 66),
  (66, zo_get 4 8 69),
  (69, zo_c (.int 1) 70),
  (70, zo_iadd 71),
  (71, zo_puti 4 8 74),
  (74, zo_inc 3 (-1) 77),
  (77, zo_goto 41),
  (80, zo_al 0 81),
  (81, zo_get 4 8 84),
  (84, zo_ir 0 0)]
def tb_M_wipe : zT := [
  (0, zo_al 0 1),
  (1, zo_get 4 8 4),
  (4, zo_is 1 5),
  (5, zo_al 0 6),
  (6, zo_c (.int 0) 7),
  (7, zo_puti 4 8 10),
  (10, zo_il 1 11),
  (11, zo_ir 0 0)]
def tb_M_byteAt : zT := [
  (0, zo_il 1 1),
  (1, zo_al 0 2),
  (2, zo_get 4 8 5),
  (5, zo_cge 17 8),
  (8, zo_al 0 9),
  (9, zo_get 4 7 12),
  (12, zo_il 1 13),
  (13, zo_iald 14),
  (14, zo_goto 18),
  (17, zo_c (.int (-1)) 18),
  (18, zo_ir 0 0)]
def tb_M_isLetter : zT := [
  (0, zo_il 0 1),
  (1, zo_i2l 2),
  (2, zo_c (.long 97) 5),
  (5, zo_c (.long 122) 8),
  (8, zo_cs 93 3 11),
  (11, zo_zr 0 0)]
def tb_M_isDigit : zT := [
  (0, zo_il 0 1),
  (1, zo_i2l 2),
  (2, zo_c (.long 48) 5),
  (5, zo_c (.long 57) 8),
  (8, zo_cs 93 3 11),
  (11, zo_zr 0 0)]
def tb_M_token : zT := [
  (0, zo_al 0 1),
  (1, zo_al 0 2),
  (2, zo_get 4 10 5),
  (5, zo_puti 4 9 8),
  (8, zo_al 0 9),
  (9, zo_al 0 10),
  (10, zo_get 4 9 13),
  (13, zo_cv 4 154 1 16),
  (16, zo_c (.int 32) 18),
  (18, zo_cne 34 21),
  (21, zo_al 0 22),
  (22, zo_dup 23),
  (23, zo_get 4 9 26),
  (26, zo_c (.int 1) 27),
  (27, zo_iadd 28),
  (28, zo_puti 4 9 31),
  (31, zo_goto 8),
  (34, zo_al 0 35),
  (35, zo_al 0 36),
  (36, zo_get 4 9 39),
  (39, zo_cv 4 154 1 42),
  (42, zo_cs 155 1 45),
  (45, zo_is 1 46),
  (46, zo_al 0 47),
  (47, zo_al 0 48),
  (48, zo_get 4 9 51),
  (51, zo_cv 4 154 1 54),
  (54, zo_cs 156 1 57),
  (57, zo_is 2 58),
  (58, zo_al 0 59),
  (59, zo_al 0 60),
  (60, zo_get 4 9 63),
  (63, zo_al 0 64),
  (64, zo_get 4 8 67),
  (67, zo_cge 79 70),
  (70, zo_al 0 71),
  (71, zo_get 4 9 74),
  (74, zo_c (.int 1) 75),
  (75, zo_iadd 76),
  (76, zo_goto 83),
  (79, zo_al 0 80),
  (80, zo_get 4 9 83),
  (83, zo_puti 4 10 86),
  (86, zo_il 1 87),
  (87, zo_ifeq 104 90),
  (90, zo_al 0 91),
  (91, zo_al 0 92),
  (92, zo_get 4 10 95),
  (95, zo_cv 4 154 1 98),
  (98, zo_cs 155 1 101),
  (101, zo_ifne 122 104),
  (104, zo_il 2 105),
  (105, zo_ifeq 135 108),
  (108, zo_al 0 109),
  (109, zo_al 0 110),
  (110, zo_get 4 10 113),
  (113, zo_cv 4 154 1 116),
  (116, zo_cs 156 1 119),
  (119, zo_ifeq 135 122),
  (122, zo_al 0 123),
  (123, zo_dup 124),
  (124, zo_get 4 10 127),
  (127, zo_c (.int 1) 128),
  (128, zo_iadd 129),
  (129, zo_puti 4 10 132),
  (132, zo_goto 86),
  (135, zo_vr 0 0)]
def tb_M_must : zT := [
  (0, zo_al 0 1),
  (1, zo_al 0 2),
  (2, zo_get 4 12 5),
  (5, zo_ifne 12 8),
  (8, zo_il 1 9),
  (9, zo_ifne 16 12),
  (12, zo_c (.int 1) 13),
  (13, zo_goto 17),
  (16, zo_c (.int 0) 17),
  (17, zo_putz 4 12 20),
  (20, zo_al 0 21),
  (21, zo_get 4 12 24),
  (24, zo_ifne 31 27),
  (27, zo_al 0 28),
  (28, zo_cv 4 157 0 31),
  (31, zo_vr 0 0)]
def tb_M_word : zT := [
  (0, zo_c (.long 0) 1),
  (1, zo_ls 1 2),
  (2, zo_al 0 3),
  (3, zo_get 4 9 6),
  (6, zo_is 3 7),
  (7, zo_il 3 8),
  (8, zo_al 0 9),
  (9, zo_get 4 10 12),
  (12, zo_cge 50 15),
  (15, zo_ll 1 16),
  (16, zo_c (.long 36028797018963967) 19),
  (19, zo_lcmp 20),
  (20, zo_ifle 27 23),
  (23, zo_ll 1 24),
  (24, zo_goto 43),
  (27, zo_c (.long 32) 30),
  (30, zo_ll 1 31),
  (31, zo_lmul 32),
  (32, zo_al 0 33),
  (33, zo_get 4 7 36),
  (36, zo_il 3 37),
  (37, zo_iald 38),
  (38, zo_c (.int 96) 40),
  (40, zo_isub 41),
  (41, zo_i2l 42),
  (42, zo_ladd 43),
  (43, zo_ls 1 44),
  (44, zo_inc 3 1 47),
  (47, zo_goto 7),
  (50, zo_al 0 51),
  (51, zo_get 4 12 54),
  (54, zo_ifne 71 57),
  (57, zo_al 0 58),
  (58, zo_al 0 59),
  (59, zo_get 4 9 62),
  (62, zo_cv 4 154 1 65),
  (65, zo_cs 155 1 68),
  (68, zo_ifne 75 71),
  (71, zo_c (.long 0) 72),
  (72, zo_goto 76),
  (75, zo_ll 1 76),
  (76, zo_lr 0 0)]
def tb_M_number : zT := [
  (0, zo_al 0 1),
  (1, zo_get 4 12 4),
  (4, zo_ifeq 8 7),
  (7, zo_vr 0 0),
  (8, zo_al 0 9),
  (9, zo_al 0 10),
  (10, zo_get 4 9 13),
  (13, zo_cv 4 154 1 16),
  (16, zo_cs 156 1 19),
  (19, zo_is 3 20),
  (20, zo_c (.int 0) 21),
  (21, zo_is 4 23),
  (23, zo_al 0 24),
  (24, zo_get 4 9 27),
  (27, zo_is 5 29),
  (29, zo_il 5 31),
  (31, zo_al 0 32),
  (32, zo_get 4 10 35),
  (35, zo_cge 79 38),
  (38, zo_il 3 39),
  (39, zo_ifeq 79 42),
  (42, zo_il 4 44),
  (44, zo_c (.int 999) 47),
  (47, zo_cle 55 50),
  (50, zo_il 4 52),
  (52, zo_goto 71),
  (55, zo_c (.int 10) 57),
  (57, zo_il 4 59),
  (59, zo_imul 60),
  (60, zo_al 0 61),
  (61, zo_get 4 7 64),
  (64, zo_il 5 66),
  (66, zo_iald 67),
  (67, zo_iadd 68),
  (68, zo_c (.int 48) 70),
  (70, zo_isub 71),
  (71, zo_is 4 73),
  (73, zo_inc 5 1 76),
  (76, zo_goto 29),
  (79, zo_al 0 80),
  (80, zo_il 4 82),
  (82, zo_puti 4 11 85),
  (85, zo_al 0 86),
  (86, zo_il 3 87),
  (87, zo_ifeq 107 90),
  (90, zo_il 4 92),
  (92, zo_i2l 93),
  (93, zo_il 1 94),
  (94, zo_i2l 95),
  (95, zo_il 2 96),
  (96, zo_i2l 97),
  (97, zo_cs 93 3 100),
  (100, zo_ifeq 107 103),
  (103, zo_c (.int 1) 104),
  (104, zo_goto 108),
  (107, zo_c (.int 0) 108),
  (108, zo_cv 4 158 1 111),
  (111, zo_vr 0 0)]
def tb_M_kindHere : zT := [
  (0, zo_al 0 1),
  (1, zo_cv 4 159 0 4),
  (4, zo_ls 1 5),
  (5, zo_ll 1 6),
  (6, zo_c (.long 9908279) 9),
  (9, zo_lcmp 10),
  (10, zo_ifne 17 13),
  (13, zo_c (.int 0) 14),
  (14, zo_goto 78),
  (17, zo_ll 1 18),
  (18, zo_c (.long 452599986) 21),
  (21, zo_lcmp 22),
  (22, zo_ifne 29 25),
  (25, zo_c (.int 1) 26),
  (26, zo_goto 78),
  (29, zo_ll 1 30),
  (30, zo_c (.long 203038898) 33),
  (33, zo_lcmp 34),
  (34, zo_ifne 41 37),
  (37, zo_c (.int 2) 38),
  (38, zo_goto 78),
  (41, zo_ll 1 42),
  (42, zo_c (.long 22482309) 45),
  (45, zo_lcmp 46),
  (46, zo_ifne 53 49),
  (49, zo_c (.int 3) 50),
  (50, zo_goto 78),
  (53, zo_ll 1 54),
  (54, zo_c (.long 672747570) 57),
  (57, zo_lcmp 58),
  (58, zo_ifne 65 61),
  (61, zo_c (.int 4) 62),
  (62, zo_goto 78),
  (65, zo_ll 1 66),
  (66, zo_c (.long 2556021938) 69),
  (69, zo_lcmp 70),
  (70, zo_ifne 77 73),
  (73, zo_c (.int 5) 74),
  (74, zo_goto 78),
  (77, zo_c (.int (-1)) 78),
  (78, zo_ir 0 0)]
def tb_M_inlawItem : zT := [
  (0, zo_al 0 1),
  (1, zo_al 0 2),
  (2, zo_get 4 0 5),
  (5, zo_c (.int 2) 6),
  (6, zo_iald 7),
  (7, zo_c (.int 8) 9),
  (9, zo_cge 16 12),
  (12, zo_c (.int 1) 13),
  (13, zo_goto 17),
  (16, zo_c (.int 0) 17),
  (17, zo_cv 4 158 1 20),
  (20, zo_al 0 21),
  (21, zo_get 4 12 24),
  (24, zo_ifeq 28 27),
  (27, zo_vr 0 0),
  (28, zo_al 0 29),
  (29, zo_il 1 30),
  (30, zo_cv 4 118 1 33),
  (33, zo_is 2 34),
  (34, zo_al 0 35),
  (35, zo_cv 4 159 0 38),
  (38, zo_c (.long 755277) 41),
  (41, zo_lcmp 42),
  (42, zo_ifne 71 45),
  (45, zo_al 0 46),
  (46, zo_c (.int 1) 47),
  (47, zo_cv 4 158 1 50),
  (50, zo_al 0 51),
  (51, zo_c (.int 0) 52),
  (52, zo_c (.int 99) 54),
  (54, zo_cv 4 160 2 57),
  (57, zo_al 0 58),
  (58, zo_get 4 0 61),
  (61, zo_il 2 62),
  (62, zo_c (.int 1) 63),
  (63, zo_cs 100 2 66),
  (66, zo_al 0 67),
  (67, zo_get 4 11 70),
  (70, zo_iast 71),
  (71, zo_al 0 72),
  (72, zo_cv 4 159 0 75),
  (75, zo_c (.long 19508) 78),
  (78, zo_lcmp 79),
  (79, zo_ifne 98 82),
  (82, zo_al 0 83),
  (83, zo_c (.int 1) 84),
  (84, zo_cv 4 158 1 87),
  (87, zo_al 0 88),
  (88, zo_get 4 0 91),
  (91, zo_il 2 92),
  (92, zo_c (.int 2) 93),
  (93, zo_cs 100 2 96),
  (96, zo_c (.int 1) 97),
  (97, zo_iast 98),
  (98, zo_vr 0 0)]
def tb_M_coupleItem : zT := [
  (0, zo_al 0 1),
  (1, zo_al 0 2),
  (2, zo_get 4 0 5),
  (5, zo_c (.int 3) 6),
  (6, zo_iald 7),
  (7, zo_c (.int 8) 9),
  (9, zo_cge 16 12),
  (12, zo_c (.int 1) 13),
  (13, zo_goto 17),
  (16, zo_c (.int 0) 17),
  (17, zo_cv 4 158 1 20),
  (20, zo_al 0 21),
  (21, zo_c (.int 0) 22),
  (22, zo_c (.int 9) 24),
  (24, zo_cv 4 160 2 27),
  (27, zo_al 0 28),
  (28, zo_get 4 12 31),
  (31, zo_ifeq 35 34),
  (34, zo_vr 0 0),
  (35, zo_al 0 36),
  (36, zo_al 0 37),
  (37, zo_get 4 11 40),
  (40, zo_cv 4 126 1 43),
  (43, zo_is 1 44),
  (44, zo_al 0 45),
  (45, zo_cv 4 159 0 48),
  (48, zo_c (.long 8228) 51),
  (51, zo_lcmp 52),
  (52, zo_ifne 87 55),
  (55, zo_al 0 56),
  (56, zo_c (.int 1) 57),
  (57, zo_cv 4 158 1 60),
  (60, zo_al 0 61),
  (61, zo_c (.int 0) 62),
  (62, zo_al 0 63),
  (63, zo_get 4 0 66),
  (66, zo_c (.int 2) 67),
  (67, zo_iald 68),
  (68, zo_c (.int 1) 69),
  (69, zo_isub 70),
  (70, zo_cv 4 160 2 73),
  (73, zo_al 0 74),
  (74, zo_get 4 0 77),
  (77, zo_il 1 78),
  (78, zo_c (.int 2) 79),
  (79, zo_cs 101 2 82),
  (82, zo_al 0 83),
  (83, zo_get 4 11 86),
  (86, zo_iast 87),
  (87, zo_vr 0 0)]
def tb_M_fireItem : zT := [
  (0, zo_al 0 1),
  (1, zo_c (.int 1) 2),
  (2, zo_cv 4 158 1 5),
  (5, zo_al 0 6),
  (6, zo_c (.int 0) 7),
  (7, zo_c (.int 20) 9),
  (9, zo_cv 4 160 2 12),
  (12, zo_al 0 13),
  (13, zo_get 4 0 16),
  (16, zo_c (.int 1) 17),
  (17, zo_al 0 18),
  (18, zo_get 4 12 21),
  (21, zo_ifeq 33 24),
  (24, zo_al 0 25),
  (25, zo_get 4 0 28),
  (28, zo_c (.int 1) 29),
  (29, zo_iald 30),
  (30, zo_goto 37),
  (33, zo_al 0 34),
  (34, zo_get 4 11 37),
  (37, zo_iast 38),
  (38, zo_vr 0 0)]
def tb_M_sitItem : zT := [
  (0, zo_al 0 1),
  (1, zo_c (.int 1) 2),
  (2, zo_cv 4 158 1 5),
  (5, zo_al 0 6),
  (6, zo_c (.int 0) 7),
  (7, zo_al 0 8),
  (8, zo_get 4 0 11),
  (11, zo_c (.int 2) 12),
  (12, zo_iald 13),
  (13, zo_c (.int 1) 14),
  (14, zo_isub 15),
  (15, zo_cv 4 160 2 18),
  (18, zo_al 0 19),
  (19, zo_get 4 12 22),
  (22, zo_ifne 39 25),
  (25, zo_al 0 26),
  (26, zo_get 4 0 29),
  (29, zo_al 0 30),
  (30, zo_get 4 11 33),
  (33, zo_c (.int 2) 34),
  (34, zo_cs 100 2 37),
  (37, zo_c (.int 1) 38),
  (38, zo_iast 39),
  (39, zo_vr 0 0)]
def tb_M_item : zT := [
  (0, zo_al 0 1),
  (1, zo_cv 4 161 0 4),
  (4, zo_is 1 5),
  (5, zo_al 0 6),
  (6, zo_cv 4 159 0 9),
  (9, zo_ls 2 10),
  (10, zo_il 1 11),
  (11, zo_iflt 22 14),
  (14, zo_al 0 15),
  (15, zo_il 1 16),
  (16, zo_cv 4 162 1 19),
  (19, zo_goto 72),
  (22, zo_ll 2 23),
  (23, zo_c (.long 117096837) 26),
  (26, zo_lcmp 27),
  (27, zo_ifne 37 30),
  (30, zo_al 0 31),
  (31, zo_cv 4 163 0 34),
  (34, zo_goto 72),
  (37, zo_ll 2 38),
  (38, zo_c (.long 206405) 41),
  (41, zo_lcmp 42),
  (42, zo_ifne 52 45),
  (45, zo_al 0 46),
  (46, zo_cv 4 164 0 49),
  (49, zo_goto 72),
  (52, zo_ll 2 53),
  (53, zo_c (.long 19764) 56),
  (56, zo_lcmp 57),
  (57, zo_ifne 67 60),
  (60, zo_al 0 61),
  (61, zo_cv 4 165 0 64),
  (64, zo_goto 72),
  (67, zo_al 0 68),
  (68, zo_c (.int 0) 69),
  (69, zo_cv 4 158 1 72),
  (72, zo_vr 0 0)]
def tb_M_institute : zT := [
  (0, zo_al 0 1),
  (1, zo_cv 4 95 0 4),
  (4, zo_al 0 5),
  (5, zo_c (.int 0) 6),
  (6, zo_putz 4 12 9),
  (9, zo_al 0 10),
  (10, zo_c (.int 0) 11),
  (11, zo_puti 4 10 14),
  (14, zo_al 0 15),
  (15, zo_cv 4 157 0 18),
  (18, zo_c (.int 1) 19),
  (19, zo_is 1 20),
  (20, zo_al 0 21),
  (21, zo_cv 4 166 0 24),
  (24, zo_al 0 25),
  (25, zo_get 4 12 28),
  (28, zo_ifne 59 31),
  (31, zo_al 0 32),
  (32, zo_al 0 33),
  (33, zo_get 4 9 36),
  (36, zo_cv 4 154 1 39),
  (39, zo_c (.int 59) 41),
  (41, zo_cne 59 44),
  (44, zo_al 0 45),
  (45, zo_c (.int 1) 46),
  (46, zo_cv 4 158 1 49),
  (49, zo_al 0 50),
  (50, zo_cv 4 166 0 53),
  (53, zo_inc 1 1 56),
  (56, zo_goto 24),
  (59, zo_al 0 60),
  (60, zo_al 0 61),
  (61, zo_get 4 12 64),
  (64, zo_ifne 78 67),
  (67, zo_al 0 68),
  (68, zo_get 4 9 71),
  (71, zo_al 0 72),
  (72, zo_get 4 8 75),
  (75, zo_cge 82 78),
  (78, zo_c (.int 1) 79),
  (79, zo_goto 83),
  (82, zo_c (.int 0) 83),
  (83, zo_putz 4 12 86),
  (86, zo_al 0 87),
  (87, zo_get 4 12 90),
  (90, zo_ifeq 97 93),
  (93, zo_al 0 94),
  (94, zo_cv 4 96 0 97),
  (97, zo_al 0 98),
  (98, zo_c (.int 0) 99),
  (99, zo_puti 4 8 102),
  (102, zo_al 0 103),
  (103, zo_get 4 12 106),
  (106, zo_ifeq 118 109),
  (109, zo_c (.int (-1)) 110),
  (110, zo_al 0 111),
  (111, zo_get 4 9 114),
  (114, zo_isub 115),
  (115, zo_goto 119),
  (118, zo_il 1 119),
  (119, zo_ir 0 0)]
def tb_M_isOne : zT := [
  (0, zo_il 0 1),
  (1, zo_i2l 2),
  (2, zo_c (.long 0) 3),
  (3, zo_c (.long 3) 6),
  (6, zo_cs 93 3 9),
  (9, zo_zr 0 0)]
def tb_M_sheet : zT := [
  (0, zo_il 1 1),
  (1, zo_cs 168 1 4),
  (4, zo_ifeq 29 7),
  (7, zo_il 2 8),
  (8, zo_ifeq 36 11),
  (11, zo_il 2 12),
  (12, zo_c (.int 8) 14),
  (14, zo_ceq 36 17),
  (17, zo_il 2 18),
  (18, zo_c (.int 16) 20),
  (20, zo_ceq 36 23),
  (23, zo_il 2 24),
  (24, zo_c (.int 64) 26),
  (26, zo_ceq 36 29),
  (29, zo_al 0 30),
  (30, zo_c (.int (-1000000001)) 32),
  (32, zo_cv 4 94 1 35),
  (35, zo_ir 0 0),
  (36, zo_il 3 37),
  (37, zo_ifge 48 40),
  (40, zo_al 0 41),
  (41, zo_c (.int (-1000000007)) 44),
  (44, zo_cv 4 94 1 47),
  (47, zo_ir 0 0),
  (48, zo_il 3 49),
  (49, zo_c (.int 40) 51),
  (51, zo_cle 61 54),
  (54, zo_al 0 55),
  (55, zo_c (.int (-1000000001)) 57),
  (57, zo_cv 4 94 1 60),
  (60, zo_ir 0 0),
  (61, zo_al 0 62),
  (62, zo_get 4 13 65),
  (65, zo_il 1 66),
  (66, zo_il 2 67),
  (67, zo_iast 68),
  (68, zo_al 0 69),
  (69, zo_get 4 14 72),
  (72, zo_il 1 73),
  (73, zo_il 2 74),
  (74, zo_ifne 81 77),
  (77, zo_c (.int 0) 78),
  (78, zo_goto 82),
  (81, zo_il 3 82),
  (82, zo_iast 83),
  (83, zo_c (.int 0) 84),
  (84, zo_is 4 86),
  (86, zo_il 4 88),
  (88, zo_c (.int 40) 90),
  (90, zo_cge 112 93),
  (93, zo_al 0 94),
  (94, zo_get 4 15 97),
  (97, zo_c (.int 40) 99),
  (99, zo_il 1 100),
  (100, zo_imul 101),
  (101, zo_il 4 103),
  (103, zo_iadd 104),
  (104, zo_c (.long 0) 105),
  (105, zo_last 106),
  (106, zo_inc 4 1 109),
  (109, zo_goto 86),
  (112, zo_al 0 113),
  (113, zo_get 4 14 116),
  (116, zo_il 1 117),
  (117, zo_iald 118),
  (118, zo_ir 0 0)]
def tb_M_narrowed : zT := [
  (0, zo_il 0 1),
  (1, zo_c (.int 8) 3),
  (3, zo_cne 13 6),
  (6, zo_ll 1 7),
  (7, zo_l2i 8),
  (8, zo_i2b 9),
  (9, zo_i2l 10),
  (10, zo_goto 27),
  (13, zo_il 0 14),
  (14, zo_c (.int 16) 16),
  (16, zo_cne 26 19),
  (19, zo_ll 1 20),
  (20, zo_l2i 21),
  (21, zo_i2s 22),
  (22, zo_i2l 23),
  (23, zo_goto 27),
  (26, zo_ll 1 27),
  (27, zo_lr 0 0)]
def tb_M_wrongSheet : zT := [
  (0, zo_il 1 1),
  (1, zo_cs 168 1 4),
  (4, zo_ifne 12 7),
  (7, zo_c (.int (-1000000001)) 9),
  (9, zo_goto 28),
  (12, zo_al 0 13),
  (13, zo_get 4 13 16),
  (16, zo_il 1 17),
  (17, zo_iald 18),
  (18, zo_ifne 27 21),
  (21, zo_c (.int (-1000000006)) 24),
  (24, zo_goto 28),
  (27, zo_c (.int 0) 28),
  (28, zo_ir 0 0)]
def tb_M_write : zT := [
  (0, zo_al 0 1),
  (1, zo_il 1 2),
  (2, zo_cv 4 171 1 5),
  (5, zo_is 5 7),
  (7, zo_il 5 9),
  (9, zo_ifeq 20 12),
  (12, zo_al 0 13),
  (13, zo_il 5 15),
  (15, zo_cv 4 94 1 18),
  (18, zo_i2l 19),
  (19, zo_lr 0 0),
  (20, zo_il 2 21),
  (21, zo_i2l 22),
  (22, zo_c (.long 0) 23),
  (23, zo_al 0 24),
  (24, zo_get 4 14 27),
  (27, zo_il 1 28),
  (28, zo_iald 29),
  (29, zo_c (.int 1) 30),
  (30, zo_isub 31),
  (31, zo_i2l 32),
  (32, zo_cs 93 3 35),
  (35, zo_ifne 46 38),
  (38, zo_al 0 39),
  (39, zo_c (.int (-1000000001)) 41),
  (41, zo_cv 4 94 1 44),
  (44, zo_i2l 45),
  (45, zo_lr 0 0),
  (46, zo_al 0 47),
  (47, zo_get 4 15 50),
  (50, zo_c (.int 40) 52),
  (52, zo_il 1 53),
  (53, zo_imul 54),
  (54, zo_il 2 55),
  (55, zo_iadd 56),
  (56, zo_lald 57),
  (57, zo_ls 6 59),
  (59, zo_al 0 60),
  (60, zo_get 4 15 63),
  (63, zo_c (.int 40) 65),
  (65, zo_il 1 66),
  (66, zo_imul 67),
  (67, zo_il 2 68),
  (68, zo_iadd 69),
  (69, zo_al 0 70),
  (70, zo_get 4 13 73),
  (73, zo_il 1 74),
  (74, zo_iald 75),
  (75, zo_ll 3 76),
  (76, zo_cs 170 2 79),
  (79, zo_last 80),
  (80, zo_ll 6 82),
  (82, zo_lr 0 0)]
def tb_M_copy : zT := [
  (0, zo_il 1 1),
  (1, zo_cs 168 1 4),
  (4, zo_ifeq 14 7),
  (7, zo_il 3 8),
  (8, zo_cs 168 1 11),
  (11, zo_ifne 21 14),
  (14, zo_al 0 15),
  (15, zo_c (.int (-1000000001)) 17),
  (17, zo_cv 4 94 1 20),
  (20, zo_ir 0 0),
  (21, zo_al 0 22),
  (22, zo_get 4 13 25),
  (25, zo_il 1 26),
  (26, zo_iald 27),
  (27, zo_ifeq 39 30),
  (30, zo_al 0 31),
  (31, zo_get 4 13 34),
  (34, zo_il 3 35),
  (35, zo_iald 36),
  (36, zo_ifne 47 39),
  (39, zo_al 0 40),
  (40, zo_c (.int (-1000000006)) 43),
  (43, zo_cv 4 94 1 46),
  (46, zo_ir 0 0),
  (47, zo_al 0 48),
  (48, zo_get 4 13 51),
  (51, zo_il 1 52),
  (52, zo_iald 53),
  (53, zo_al 0 54),
  (54, zo_get 4 13 57),
  (57, zo_il 3 58),
  (58, zo_iald 59),
  (59, zo_ceq 69 62),
  (62, zo_al 0 63),
  (63, zo_c (.int (-1000000003)) 65),
  (65, zo_cv 4 94 1 68),
  (68, zo_ir 0 0),
  (69, zo_il 2 70),
  (70, zo_iflt 110 73),
  (73, zo_il 4 75),
  (75, zo_iflt 110 78),
  (78, zo_il 5 80),
  (80, zo_iflt 110 83),
  (83, zo_il 5 85),
  (85, zo_al 0 86),
  (86, zo_get 4 14 89),
  (89, zo_il 1 90),
  (90, zo_iald 91),
  (91, zo_il 2 92),
  (92, zo_isub 93),
  (93, zo_cgt 110 96),
  (96, zo_il 5 98),
  (98, zo_al 0 99),
  (99, zo_get 4 14 102),
  (102, zo_il 3 103),
  (103, zo_iald 104),
  (104, zo_il 4 106),
  (106, zo_isub 107),
  (107, zo_cle 117 110),
  (110, zo_al 0 111),
  (111, zo_c (.int (-1000000001)) 113),
  (113, zo_cv 4 94 1 116),
  (116, zo_ir 0 0),
  (117, zo_c (.int 0) 118),
  (118, zo_is 6 120),
  (120, zo_il 6 122),
  (122, zo_il 5 124),
  (124, zo_cge 154 127),
  (127, zo_al 0 128),
  (128, zo_get 4 16 131),
  (131, zo_il 6 133),
  (133, zo_al 0 134),
  (134, zo_get 4 15 137),
  (137, zo_c (.int 40) 139),
  (139, zo_il 1 140),
  (140, zo_imul 141),
  (141, zo_il 2 142),
  (142, zo_iadd 143),
  (143, zo_il 6 145),
  (145, zo_iadd 146),
  (146, zo_lald 147),
  (147, zo_last 148),
  (148, zo_inc 6 1 151),
  (151, zo_goto 120),
  (154, zo_c (.int 0) 155),
  (155, zo_is 6 157),
  (157, zo_il 6 159),
  (159, zo_il 5 161),
  (161, zo_cge 192 164),
  (164, zo_al 0 165),
  (165, zo_get 4 15 168),
  (168, zo_c (.int 40) 170),
  (170, zo_il 3 171),
  (171, zo_imul 172),
  (172, zo_il 4 174),
  (174, zo_iadd 175),
  (175, zo_il 6 177),
  (177, zo_iadd 178),
  (178, zo_al 0 179),
  (179, zo_get 4 16 182),
  (182, zo_il 6 184),
  (184, zo_lald 185),
  (185, zo_last 186),
  (186, zo_inc 6 1 189),
  (189, zo_goto 157),
  (192, zo_il 5 194),
  (194, zo_ir 0 0)]
def tb_M_lays : zT := [
  (0, zo_al 0 1),
  (1, zo_il 1 2),
  (2, zo_cv 4 171 1 5),
  (5, zo_is 2 6),
  (6, zo_il 2 7),
  (7, zo_ifeq 16 10),
  (10, zo_al 0 11),
  (11, zo_il 2 12),
  (12, zo_cv 4 94 1 15),
  (15, zo_ir 0 0),
  (16, zo_c (.int 0) 17),
  (17, zo_is 3 18),
  (18, zo_c (.int 0) 19),
  (19, zo_is 4 21),
  (21, zo_il 4 23),
  (23, zo_al 0 24),
  (24, zo_get 4 14 27),
  (27, zo_il 1 28),
  (28, zo_iald 29),
  (29, zo_cge 122 32),
  (32, zo_il 4 34),
  (34, zo_al 0 35),
  (35, zo_get 4 0 38),
  (38, zo_c (.int 2) 39),
  (39, zo_iald 40),
  (40, zo_cge 122 43),
  (43, zo_al 0 44),
  (44, zo_get 4 15 47),
  (47, zo_c (.int 40) 49),
  (49, zo_il 1 50),
  (50, zo_imul 51),
  (51, zo_il 4 53),
  (53, zo_iadd 54),
  (54, zo_lald 55),
  (55, zo_c (.long 0) 56),
  (56, zo_c (.long 99) 59),
  (59, zo_cs 93 3 62),
  (62, zo_is 5 64),
  (64, zo_al 0 65),
  (65, zo_get 4 0 68),
  (68, zo_il 4 70),
  (70, zo_c (.int 1) 71),
  (71, zo_cs 100 2 74),
  (74, zo_il 5 76),
  (76, zo_ifeq 95 79),
  (79, zo_al 0 80),
  (80, zo_get 4 15 83),
  (83, zo_c (.int 40) 85),
  (85, zo_il 1 86),
  (86, zo_imul 87),
  (87, zo_il 4 89),
  (89, zo_iadd 90),
  (90, zo_lald 91),
  (91, zo_l2i 92),
  (92, zo_goto 102),
  (95, zo_al 0 96),
  (96, zo_il 4 98),
  (98, zo_c (.int 1) 99),
  (99, zo_cv 4 102 2 102),
  (102, zo_iast 103),
  (103, zo_il 3 104),
  (104, zo_il 5 106),
  (106, zo_ifeq 113 109),
  (109, zo_c (.int 1) 110),
  (110, zo_goto 114),
  (113, zo_c (.int 0) 114),
  (114, zo_iadd 115),
  (115, zo_is 3 116),
  (116, zo_inc 4 1 119),
  (119, zo_goto 21),
  (122, zo_il 3 123),
  (123, zo_ir 0 0)]
def tb_M_book : zT := [
  (0, zo_al 0 1),
  (1, zo_il 1 2),
  (2, zo_cv 4 171 1 5),
  (5, zo_is 3 6),
  (6, zo_il 3 7),
  (7, zo_ifeq 16 10),
  (10, zo_al 0 11),
  (11, zo_il 3 12),
  (12, zo_cv 4 94 1 15),
  (15, zo_ir 0 0),
  (16, zo_al 0 17),
  (17, zo_il 2 18),
  (18, zo_cv 4 105 1 21),
  (21, zo_ifne 31 24),
  (24, zo_al 0 25),
  (25, zo_c (.int (-1000000001)) 27),
  (27, zo_cv 4 94 1 30),
  (30, zo_ir 0 0),
  (31, zo_al 0 32),
  (32, zo_cv 4 97 0 35),
  (35, zo_c (.int 0) 36),
  (36, zo_is 4 38),
  (38, zo_il 4 40),
  (40, zo_al 0 41),
  (41, zo_get 4 14 44),
  (44, zo_il 1 45),
  (45, zo_iald 46),
  (46, zo_cge 87 49),
  (49, zo_al 0 50),
  (50, zo_get 4 15 53),
  (53, zo_c (.int 40) 55),
  (55, zo_il 1 56),
  (56, zo_imul 57),
  (57, zo_il 4 59),
  (59, zo_iadd 60),
  (60, zo_al 0 61),
  (61, zo_get 4 13 64),
  (64, zo_il 1 65),
  (65, zo_iald 66),
  (66, zo_al 0 67),
  (67, zo_il 2 68),
  (68, zo_c (.int 1) 69),
  (69, zo_cv 4 103 2 72),
  (72, zo_i2l 73),
  (73, zo_cs 170 2 76),
  (76, zo_last 77),
  (77, zo_al 0 78),
  (78, zo_cv 4 134 0 81),
  (81, zo_inc 4 1 84),
  (84, zo_goto 38),
  (87, zo_al 0 88),
  (88, zo_al 0 89),
  (89, zo_get 4 14 92),
  (92, zo_il 1 93),
  (93, zo_iald 94),
  (94, zo_cv 4 98 1 97),
  (97, zo_ir 0 0)]
def tb_M_isBook : zT := [
  (0, zo_c (.int 0) 1),
  (1, zo_is 3 2),
  (2, zo_il 3 3),
  (3, zo_al 0 4),
  (4, zo_get 4 14 7),
  (7, zo_il 1 8),
  (8, zo_iald 9),
  (9, zo_cge 46 12),
  (12, zo_al 0 13),
  (13, zo_get 4 15 16),
  (16, zo_c (.int 40) 18),
  (18, zo_il 1 19),
  (19, zo_imul 20),
  (20, zo_il 3 21),
  (21, zo_iadd 22),
  (22, zo_lald 23),
  (23, zo_al 0 24),
  (24, zo_il 2 25),
  (25, zo_c (.int 1) 26),
  (26, zo_cv 4 103 2 29),
  (29, zo_i2l 30),
  (30, zo_lcmp 31),
  (31, zo_ifeq 36 34),
  (34, zo_c (.int 0) 35),
  (35, zo_zr 0 0),
  (36, zo_al 0 37),
  (37, zo_cv 4 134 0 40),
  (40, zo_inc 3 1 43),
  (43, zo_goto 2),
  (46, zo_c (.int 1) 47),
  (47, zo_zr 0 0)]
def tb_M_read : zT := [
  (0, zo_al 0 1),
  (1, zo_il 1 2),
  (2, zo_cv 4 171 1 5),
  (5, zo_is 4 7),
  (7, zo_il 4 9),
  (9, zo_ifeq 19 12),
  (12, zo_al 0 13),
  (13, zo_il 4 15),
  (15, zo_cv 4 94 1 18),
  (18, zo_ir 0 0),
  (19, zo_al 0 20),
  (20, zo_il 2 21),
  (21, zo_cv 4 105 1 24),
  (24, zo_ifeq 35 27),
  (27, zo_al 0 28),
  (28, zo_il 3 29),
  (29, zo_cv 4 104 1 32),
  (32, zo_ifne 42 35),
  (35, zo_al 0 36),
  (36, zo_c (.int (-1000000001)) 38),
  (38, zo_cv 4 94 1 41),
  (41, zo_ir 0 0),
  (42, zo_al 0 43),
  (43, zo_cv 4 97 0 46),
  (46, zo_c (.int 0) 47),
  (47, zo_is 5 49),
  (49, zo_c (.int 0) 50),
  (50, zo_is 6 52),
  (52, zo_il 6 54),
  (54, zo_c (.int 60) 56),
  (56, zo_cge 118 59),
  (59, zo_al 0 60),
  (60, zo_get 4 0 63),
  (63, zo_il 3 64),
  (64, zo_c (.int 0) 65),
  (65, zo_cs 100 2 68),
  (68, zo_il 6 70),
  (70, zo_c (.int 10) 72),
  (72, zo_idiv 73),
  (73, zo_iast 74),
  (74, zo_al 0 75),
  (75, zo_get 4 0 78),
  (78, zo_il 2 79),
  (79, zo_c (.int 0) 80),
  (80, zo_cs 101 2 83),
  (83, zo_il 6 85),
  (85, zo_c (.int 10) 87),
  (87, zo_irem 88),
  (88, zo_iast 89),
  (89, zo_al 0 90),
  (90, zo_il 5 92),
  (92, zo_al 0 93),
  (93, zo_il 1 94),
  (94, zo_il 2 95),
  (95, zo_cv 4 176 2 98),
  (98, zo_ifeq 105 101),
  (101, zo_c (.int 1) 102),
  (102, zo_goto 106),
  (105, zo_c (.int 0) 106),
  (106, zo_iadd 107),
  (107, zo_cv 4 98 1 110),
  (110, zo_is 5 112),
  (112, zo_inc 6 1 115),
  (115, zo_goto 52),
  (118, zo_il 5 120),
  (120, zo_ir 0 0)]
def tb_M_image : zT := [
  (0, zo_c (.int 0) 1),
  (1, zo_is 1 2),
  (2, zo_il 1 3),
  (3, zo_c (.int 68) 5),
  (5, zo_cge 26 8),
  (8, zo_al 0 9),
  (9, zo_get 4 1 12),
  (12, zo_il 1 13),
  (13, zo_al 0 14),
  (14, zo_get 4 0 17),
  (17, zo_il 1 18),
  (18, zo_iald 19),
  (19, zo_iast 20),
  (20, zo_inc 1 1 23),
  (23, zo_goto 2),
  (26, zo_al 0 27),
  (27, zo_c (.int 1) 28),
  (28, zo_putz 4 6 31),
  (31, zo_c (.int 1) 32),
  (32, zo_ir 0 0)]
def tb_M_undo : zT := [
  (0, zo_al 0 1),
  (1, zo_get 4 6 4),
  (4, zo_ifne 14 7),
  (7, zo_al 0 8),
  (8, zo_c (.int (-1000000004)) 10),
  (10, zo_cv 4 94 1 13),
  (13, zo_ir 0 0),
  (14, zo_c (.int 0) 15),
  (15, zo_is 1 16),
  (16, zo_il 1 17),
  (17, zo_c (.int 68) 19),
  (19, zo_cge 40 22),
  (22, zo_al 0 23),
  (23, zo_get 4 0 26),
  (26, zo_il 1 27),
  (27, zo_al 0 28),
  (28, zo_get 4 1 31),
  (31, zo_il 1 32),
  (32, zo_iald 33),
  (33, zo_iast 34),
  (34, zo_inc 1 1 37),
  (37, zo_goto 16),
  (40, zo_al 0 41),
  (41, zo_get 4 0 44),
  (44, zo_c (.int 2) 45),
  (45, zo_iald 46),
  (46, zo_ir 0 0)]
def tb_M_tear : zT := [
  (0, zo_al 0 1),
  (1, zo_get 4 6 4),
  (4, zo_ifeq 11 7),
  (7, zo_c (.int 1) 8),
  (8, zo_goto 12),
  (11, zo_c (.int 0) 12),
  (12, zo_is 1 13),
  (13, zo_al 0 14),
  (14, zo_c (.int 0) 15),
  (15, zo_putz 4 6 18),
  (18, zo_il 1 19),
  (19, zo_ir 0 0)]
def tb_M_count : zT := [
  (0, zo_il 1 1),
  (1, zo_sw 0 [32, 39, 46, 51] 57),
  (32, zo_al 0 33),
  (33, zo_get 4 0 36),
  (36, zo_c (.int 2) 37),
  (37, zo_iald 38),
  (38, zo_ir 0 0),
  (39, zo_al 0 40),
  (40, zo_get 4 0 43),
  (43, zo_c (.int 3) 44),
  (44, zo_iald 45),
  (45, zo_ir 0 0),
  (46, zo_al 0 47),
  (47, zo_get 4 8 50),
  (50, zo_ir 0 0),
  (51, zo_al 0 52),
  (52, zo_c (.int 4) 53),
  (53, zo_cv 4 108 1 56),
  (56, zo_ir 0 0),
  (57, zo_al 0 58),
  (58, zo_c (.int (-1000000001)) 60),
  (60, zo_cv 4 94 1 63),
  (63, zo_ir 0 0)]
def tb_M_status : zT := [
  (0, zo_il 1 1),
  (1, zo_i2l 2),
  (2, zo_c (.long (-1)) 5),
  (5, zo_c (.long 6) 8),
  (8, zo_cs 93 3 11),
  (11, zo_ifne 21 14),
  (14, zo_al 0 15),
  (15, zo_c (.int (-1000000001)) 17),
  (17, zo_cv 4 94 1 20),
  (20, zo_ir 0 0),
  (21, zo_c (.int 0) 22),
  (22, zo_is 2 23),
  (23, zo_c (.int 0) 24),
  (24, zo_is 3 25),
  (25, zo_il 3 26),
  (26, zo_c (.int 7) 28),
  (28, zo_cge 59 31),
  (31, zo_il 2 32),
  (32, zo_il 1 33),
  (33, zo_iflt 41 36),
  (36, zo_il 3 37),
  (37, zo_il 1 38),
  (38, zo_cne 50 41),
  (41, zo_al 0 42),
  (42, zo_get 4 4 45),
  (45, zo_il 3 46),
  (46, zo_iald 47),
  (47, zo_goto 51),
  (50, zo_c (.int 0) 51),
  (51, zo_iadd 52),
  (52, zo_is 2 53),
  (53, zo_inc 3 1 56),
  (56, zo_goto 25),
  (59, zo_il 2 60),
  (60, zo_ir 0 0)]
def tb_L_law (xs : Nat → Int32) (n : Nat) : zT := [
  (0, zo_new 3 [.null, .null, .null, .int 0, .null, .null, .null] 7 600000 7302250 3),
  (3, zo_dup 4),
  (4, zo_ci 46 0 42 567 600000 7302250 7),
  (7, zo_as 1 8),
  (8, zo_new 4 [.null, .null, .null, .null, .null, .null, .int 0, .null, .int 0, .int 0, .int 0, .int 0, .int 0, .null, .null, .null, .null] 17 600000 7302250 11),
  (11, zo_dup 12),
  (12, zo_ci 92 0 11 615 600000 7302250 15),
  (15, zo_as 2 16),
  (16, zo_c (.int 0) 17),
  (17, zo_is 3 18),
  (18, zo_il 3 19),
  (19, zo_al 0 20),
  (20, zo_scl n 21),
  (21, zo_c (.int 6) 23),
  (23, zo_isub 24),
  (24, zo_cgt 1354 27),
  (27, zo_al 0 28),
  (28, zo_il 3 29),
  (29, zo_scr xs n 30),
  (30, zo_c (.int 63) 32),
  (32, zo_iand 33),
  (33, zo_sw 0 [196, 219, 242, 265, 298, 341, 384, 417, 450, 473, 506, 549, 572, 615, 658, 691, 724, 747, 780, 823, 846, 879, 902, 925, 958, 971, 984, 1027, 1101, 1164, 1187, 1220, 1263, 1276, 1289, 1302, 1325] 1348),
  (196, zo_al 1 197),
  (197, zo_al 0 198),
  (198, zo_il 3 199),
  (199, zo_c (.int 1) 200),
  (200, zo_iadd 201),
  (201, zo_scr xs n 202),
  (202, zo_cv 3 47 1 205),
  (205, zo_al 2 206),
  (206, zo_al 0 207),
  (207, zo_il 3 208),
  (208, zo_c (.int 1) 209),
  (209, zo_iadd 210),
  (210, zo_scr xs n 211),
  (211, zo_cv 4 110 1 214),
  (214, zo_ceq 1348 217),
  (217, zo_c (.int 0) 218),
  (218, zo_zr 600000 7302250),
  (219, zo_al 1 220),
  (220, zo_al 0 221),
  (221, zo_il 3 222),
  (222, zo_c (.int 1) 223),
  (223, zo_iadd 224),
  (224, zo_scr xs n 225),
  (225, zo_cv 3 48 1 228),
  (228, zo_al 2 229),
  (229, zo_al 0 230),
  (230, zo_il 3 231),
  (231, zo_c (.int 1) 232),
  (232, zo_iadd 233),
  (233, zo_scr xs n 234),
  (234, zo_cv 4 113 1 237),
  (237, zo_ceq 1348 240),
  (240, zo_c (.int 0) 241),
  (241, zo_zr 600000 7302250),
  (242, zo_al 1 243),
  (243, zo_al 0 244),
  (244, zo_il 3 245),
  (245, zo_c (.int 1) 246),
  (246, zo_iadd 247),
  (247, zo_scr xs n 248),
  (248, zo_cv 3 49 1 251),
  (251, zo_al 2 252),
  (252, zo_al 0 253),
  (253, zo_il 3 254),
  (254, zo_c (.int 1) 255),
  (255, zo_iadd 256),
  (256, zo_scr xs n 257),
  (257, zo_cv 4 119 1 260),
  (260, zo_ceq 1348 263),
  (263, zo_c (.int 0) 264),
  (264, zo_zr 600000 7302250),
  (265, zo_al 1 266),
  (266, zo_al 0 267),
  (267, zo_il 3 268),
  (268, zo_c (.int 1) 269),
  (269, zo_iadd 270),
  (270, zo_scr xs n 271),
  (271, zo_al 0 272),
  (272, zo_il 3 273),
  (273, zo_c (.int 2) 274),
  (274, zo_iadd 275),
  (275, zo_scr xs n 276),
  (276, zo_cv 3 50 2 279),
  (279, zo_al 2 280),
  (280, zo_al 0 281),
  (281, zo_il 3 282),
  (282, zo_c (.int 1) 283),
  (283, zo_iadd 284),
  (284, zo_scr xs n 285),
  (285, zo_al 0 286),
  (286, zo_il 3 287),
  (287, zo_c (.int 2) 288),
  (288, zo_iadd 289),
  (289, zo_scr xs n 290),
  (290, zo_cv 4 120 2 293),
  (293, zo_ceq 1348 296),
  (296, zo_c (.int 0) 297),
  (297, zo_zr 600000 7302250),
  (298, zo_al 1 299),
  (299, zo_al 0 300),
  (300, zo_il 3 301),
  (301, zo_c (.int 1) 302),
  (302, zo_iadd 303),
  (303, zo_scr xs n 304),
  (304, zo_al 0 305),
  (305, zo_il 3 306),
  (306, zo_c (.int 2) 307),
  (307, zo_iadd 308),
  (308, zo_scr xs n 309),
  (309, zo_al 0 310),
  (310, zo_il 3 311),
  (311, zo_c (.int 3) 312),
  (312, zo_iadd 313),
  (313, zo_scr xs n 314),
  (314, zo_cv 3 51 3 317),
  (317, zo_al 2 318),
  (318, zo_al 0 319),
  (319, zo_il 3 320),
  (320, zo_c (.int 1) 321),
  (321, zo_iadd 322),
  (322, zo_scr xs n 323),
  (323, zo_al 0 324),
  (324, zo_il 3 325),
  (325, zo_c (.int 2) 326),
  (326, zo_iadd 327),
  (327, zo_scr xs n 328),
  (328, zo_al 0 329),
  (329, zo_il 3 330),
  (330, zo_c (.int 3) 331),
  (331, zo_iadd 332),
  (332, zo_scr xs n 333),
  (333, zo_cv 4 121 3 336),
  (336, zo_ceq 1348 339),
  (339, zo_c (.int 0) 340),
  (340, zo_zr 600000 7302250),
  (341, zo_al 1 342),
  (342, zo_al 0 343),
  (343, zo_il 3 344),
  (344, zo_c (.int 1) 345),
  (345, zo_iadd 346),
  (346, zo_scr xs n 347),
  (347, zo_al 0 348),
  (348, zo_il 3 349),
  (349, zo_c (.int 2) 350),
  (350, zo_iadd 351),
  (351, zo_scr xs n 352),
  (352, zo_al 0 353),
  (353, zo_il 3 354),
  (354, zo_c (.int 3) 355),
  (355, zo_iadd 356),
  (356, zo_scr xs n 357),
  (357, zo_cv 3 52 3 360),
  (360, zo_al 2 361),
  (361, zo_al 0 362),
  (362, zo_il 3 363),
  (363, zo_c (.int 1) 364),
  (364, zo_iadd 365),
  (365, zo_scr xs n 366),
  (366, zo_al 0 367),
  (367, zo_il 3 368),
  (368, zo_c (.int 2) 369),
  (369, zo_iadd 370),
  (370, zo_scr xs n 371),
  (371, zo_al 0 372),
  (372, zo_il 3 373),
  (373, zo_c (.int 3) 374),
  (374, zo_iadd 375),
  (375, zo_scr xs n 376),
  (376, zo_cv 4 122 3 379),
  (379, zo_ceq 1348 382),
  (382, zo_c (.int 0) 383),
  (383, zo_zr 600000 7302250),
  (384, zo_al 1 385),
  (385, zo_al 0 386),
  (386, zo_il 3 387),
  (387, zo_c (.int 1) 388),
  (388, zo_iadd 389),
  (389, zo_scr xs n 390),
  (390, zo_al 0 391),
  (391, zo_il 3 392),
  (392, zo_c (.int 2) 393),
  (393, zo_iadd 394),
  (394, zo_scr xs n 395),
  (395, zo_cv 3 53 2 398),
  (398, zo_al 2 399),
  (399, zo_al 0 400),
  (400, zo_il 3 401),
  (401, zo_c (.int 1) 402),
  (402, zo_iadd 403),
  (403, zo_scr xs n 404),
  (404, zo_al 0 405),
  (405, zo_il 3 406),
  (406, zo_c (.int 2) 407),
  (407, zo_iadd 408),
  (408, zo_scr xs n 409),
  (409, zo_cv 4 123 2 412),
  (412, zo_ceq 1348 415),
  (415, zo_c (.int 0) 416),
  (416, zo_zr 600000 7302250),
  (417, zo_al 1 418),
  (418, zo_al 0 419),
  (419, zo_il 3 420),
  (420, zo_c (.int 1) 421),
  (421, zo_iadd 422),
  (422, zo_scr xs n 423),
  (423, zo_al 0 424),
  (424, zo_il 3 425),
  (425, zo_c (.int 2) 426),
  (426, zo_iadd 427),
  (427, zo_scr xs n 428),
  (428, zo_cv 3 54 2 431),
  (431, zo_al 2 432),
  (432, zo_al 0 433),
  (433, zo_il 3 434),
  (434, zo_c (.int 1) 435),
  (435, zo_iadd 436),
  (436, zo_scr xs n 437),
  (437, zo_al 0 438),
  (438, zo_il 3 439),
  (439, zo_c (.int 2) 440),
  (440, zo_iadd 441),
  (441, zo_scr xs n 442),
  (442, zo_cv 4 125 2 445),
  (445, zo_ceq 1348 448),
  (448, zo_c (.int 0) 449),
  (449, zo_zr 600000 7302250),
  (450, zo_al 1 451),
  (451, zo_al 0 452),
  (452, zo_il 3 453),
  (453, zo_c (.int 1) 454),
  (454, zo_iadd 455),
  (455, zo_scr xs n 456),
  (456, zo_cv 3 55 1 459),
  (459, zo_al 2 460),
  (460, zo_al 0 461),
  (461, zo_il 3 462),
  (462, zo_c (.int 1) 463),
  (463, zo_iadd 464),
  (464, zo_scr xs n 465),
  (465, zo_cv 4 127 1 468),
  (468, zo_ceq 1348 471),
  (471, zo_c (.int 0) 472),
  (472, zo_zr 600000 7302250),
  (473, zo_al 1 474),
  (474, zo_al 0 475),
  (475, zo_il 3 476),
  (476, zo_c (.int 1) 477),
  (477, zo_iadd 478),
  (478, zo_scr xs n 479),
  (479, zo_al 0 480),
  (480, zo_il 3 481),
  (481, zo_c (.int 2) 482),
  (482, zo_iadd 483),
  (483, zo_scr xs n 484),
  (484, zo_cv 3 56 2 487),
  (487, zo_al 2 488),
  (488, zo_al 0 489),
  (489, zo_il 3 490),
  (490, zo_c (.int 1) 491),
  (491, zo_iadd 492),
  (492, zo_scr xs n 493),
  (493, zo_al 0 494),
  (494, zo_il 3 495),
  (495, zo_c (.int 2) 496),
  (496, zo_iadd 497),
  (497, zo_scr xs n 498),
  (498, zo_cv 4 129 2 501),
  (501, zo_ceq 1348 504),
  (504, zo_c (.int 0) 505),
  (505, zo_zr 600000 7302250),
  (506, zo_al 1 507),
  (507, zo_al 0 508),
  (508, zo_il 3 509),
  (509, zo_c (.int 1) 510),
  (510, zo_iadd 511),
  (511, zo_scr xs n 512),
  (512, zo_al 0 513),
  (513, zo_il 3 514),
  (514, zo_c (.int 2) 515),
  (515, zo_iadd 516),
  (516, zo_scr xs n 517),
  (517, zo_al 0 518),
  (518, zo_il 3 519),
  (519, zo_c (.int 3) 520),
  (520, zo_iadd 521),
  (521, zo_scr xs n 522),
  (522, zo_cv 3 57 3 525),
  (525, zo_al 2 526),
  (526, zo_al 0 527),
  (527, zo_il 3 528),
  (528, zo_c (.int 1) 529),
  (529, zo_iadd 530),
  (530, zo_scr xs n 531),
  (531, zo_al 0 532),
  (532, zo_il 3 533),
  (533, zo_c (.int 2) 534),
  (534, zo_iadd 535),
  (535, zo_scr xs n 536),
  (536, zo_al 0 537),
  (537, zo_il 3 538),
  (538, zo_c (.int 3) 539),
  (539, zo_iadd 540),
  (540, zo_scr xs n 541),
  (541, zo_cv 4 130 3 544),
  (544, zo_ceq 1348 547),
  (547, zo_c (.int 0) 548),
  (548, zo_zr 600000 7302250),
  (549, zo_al 1 550),
  (550, zo_al 0 551),
  (551, zo_il 3 552),
  (552, zo_c (.int 1) 553),
  (553, zo_iadd 554),
  (554, zo_scr xs n 555),
  (555, zo_cv 3 58 1 558),
  (558, zo_al 2 559),
  (559, zo_al 0 560),
  (560, zo_il 3 561),
  (561, zo_c (.int 1) 562),
  (562, zo_iadd 563),
  (563, zo_scr xs n 564),
  (564, zo_cv 4 136 1 567),
  (567, zo_ceq 1348 570),
  (570, zo_c (.int 0) 571),
  (571, zo_zr 600000 7302250),
  (572, zo_al 1 573),
  (573, zo_al 0 574),
  (574, zo_il 3 575),
  (575, zo_c (.int 1) 576),
  (576, zo_iadd 577),
  (577, zo_scr xs n 578),
  (578, zo_al 0 579),
  (579, zo_il 3 580),
  (580, zo_c (.int 2) 581),
  (581, zo_iadd 582),
  (582, zo_scr xs n 583),
  (583, zo_al 0 584),
  (584, zo_il 3 585),
  (585, zo_c (.int 3) 586),
  (586, zo_iadd 587),
  (587, zo_scr xs n 588),
  (588, zo_cv 3 59 3 591),
  (591, zo_al 2 592),
  (592, zo_al 0 593),
  (593, zo_il 3 594),
  (594, zo_c (.int 1) 595),
  (595, zo_iadd 596),
  (596, zo_scr xs n 597),
  (597, zo_al 0 598),
  (598, zo_il 3 599),
  (599, zo_c (.int 2) 600),
  (600, zo_iadd 601),
  (601, zo_scr xs n 602),
  (602, zo_al 0 603),
  (603, zo_il 3 604),
  (604, zo_c (.int 3) 605),
  (605, zo_iadd 606),
  (606, zo_scr xs n 607),
  (607, zo_cv 4 139 3 610),
  (610, zo_ceq 1348 613),
  (613, zo_c (.int 0) 614),
  (614, zo_zr 600000 7302250),
  (615, zo_al 1 616),
  (616, zo_al 0 617),
  (617, zo_il 3 618),
  (618, zo_c (.int 1) 619),
  (619, zo_iadd 620),
  (620, zo_scr xs n 621),
  (621, zo_al 0 622),
  (622, zo_il 3 623),
  (623, zo_c (.int 2) 624),
  (624, zo_iadd 625),
  (625, zo_scr xs n 626),
  (626, zo_al 0 627),
  (627, zo_il 3 628),
  (628, zo_c (.int 3) 629),
  (629, zo_iadd 630),
  (630, zo_scr xs n 631),
  (631, zo_cv 3 60 3 634),
  (634, zo_al 2 635),
  (635, zo_al 0 636),
  (636, zo_il 3 637),
  (637, zo_c (.int 1) 638),
  (638, zo_iadd 639),
  (639, zo_scr xs n 640),
  (640, zo_al 0 641),
  (641, zo_il 3 642),
  (642, zo_c (.int 2) 643),
  (643, zo_iadd 644),
  (644, zo_scr xs n 645),
  (645, zo_al 0 646),
  (646, zo_il 3 647),
  (647, zo_c (.int 3) 648),
  (648, zo_iadd 649),
  (649, zo_scr xs n 650),
  (650, zo_cv 4 140 3 653),
  (653, zo_ceq 1348 656),
  (656, zo_c (.int 0) 657),
  (657, zo_zr 600000 7302250),
  (658, zo_al 1 659),
  (659, zo_al 0 660),
  (660, zo_il 3 661),
  (661, zo_c (.int 1) 662),
  (662, zo_iadd 663),
  (663, zo_scr xs n 664),
  (664, zo_al 0 665),
  (665, zo_il 3 666),
  (666, zo_c (.int 2) 667),
  (667, zo_iadd 668),
  (668, zo_scr xs n 669),
  (669, zo_cv 3 61 2 672),
  (672, zo_al 2 673),
  (673, zo_al 0 674),
  (674, zo_il 3 675),
  (675, zo_c (.int 1) 676),
  (676, zo_iadd 677),
  (677, zo_scr xs n 678),
  (678, zo_al 0 679),
  (679, zo_il 3 680),
  (680, zo_c (.int 2) 681),
  (681, zo_iadd 682),
  (682, zo_scr xs n 683),
  (683, zo_cv 4 141 2 686),
  (686, zo_ceq 1348 689),
  (689, zo_c (.int 0) 690),
  (690, zo_zr 600000 7302250),
  (691, zo_al 1 692),
  (692, zo_al 0 693),
  (693, zo_il 3 694),
  (694, zo_c (.int 1) 695),
  (695, zo_iadd 696),
  (696, zo_scr xs n 697),
  (697, zo_al 0 698),
  (698, zo_il 3 699),
  (699, zo_c (.int 2) 700),
  (700, zo_iadd 701),
  (701, zo_scr xs n 702),
  (702, zo_cv 3 62 2 705),
  (705, zo_al 2 706),
  (706, zo_al 0 707),
  (707, zo_il 3 708),
  (708, zo_c (.int 1) 709),
  (709, zo_iadd 710),
  (710, zo_scr xs n 711),
  (711, zo_al 0 712),
  (712, zo_il 3 713),
  (713, zo_c (.int 2) 714),
  (714, zo_iadd 715),
  (715, zo_scr xs n 716),
  (716, zo_cv 4 142 2 719),
  (719, zo_ceq 1348 722),
  (722, zo_c (.int 0) 723),
  (723, zo_zr 600000 7302250),
  (724, zo_al 1 725),
  (725, zo_al 0 726),
  (726, zo_il 3 727),
  (727, zo_c (.int 1) 728),
  (728, zo_iadd 729),
  (729, zo_scr xs n 730),
  (730, zo_cv 3 63 1 733),
  (733, zo_al 2 734),
  (734, zo_al 0 735),
  (735, zo_il 3 736),
  (736, zo_c (.int 1) 737),
  (737, zo_iadd 738),
  (738, zo_scr xs n 739),
  (739, zo_cv 4 143 1 742),
  (742, zo_ceq 1348 745),
  (745, zo_c (.int 0) 746),
  (746, zo_zr 600000 7302250),
  (747, zo_al 1 748),
  (748, zo_al 0 749),
  (749, zo_il 3 750),
  (750, zo_c (.int 1) 751),
  (751, zo_iadd 752),
  (752, zo_scr xs n 753),
  (753, zo_al 0 754),
  (754, zo_il 3 755),
  (755, zo_c (.int 2) 756),
  (756, zo_iadd 757),
  (757, zo_scr xs n 758),
  (758, zo_cv 3 64 2 761),
  (761, zo_al 2 762),
  (762, zo_al 0 763),
  (763, zo_il 3 764),
  (764, zo_c (.int 1) 765),
  (765, zo_iadd 766),
  (766, zo_scr xs n 767),
  (767, zo_al 0 768),
  (768, zo_il 3 769),
  (769, zo_c (.int 2) 770),
  (770, zo_iadd 771),
  (771, zo_scr xs n 772),
  (772, zo_cv 4 146 2 775),
  (775, zo_ceq 1348 778),
  (778, zo_c (.int 0) 779),
  (779, zo_zr 600000 7302250),
  (780, zo_al 1 781),
  (781, zo_al 0 782),
  (782, zo_il 3 783),
  (783, zo_c (.int 1) 784),
  (784, zo_iadd 785),
  (785, zo_scr xs n 786),
  (786, zo_al 0 787),
  (787, zo_il 3 788),
  (788, zo_c (.int 2) 789),
  (789, zo_iadd 790),
  (790, zo_scr xs n 791),
  (791, zo_al 0 792),
  (792, zo_il 3 793),
  (793, zo_c (.int 3) 794),
  (794, zo_iadd 795),
  (795, zo_scr xs n 796),
  (796, zo_cv 3 65 3 799),
  (799, zo_al 2 800),
  (800, zo_al 0 801),
  (801, zo_il 3 802),
  (802, zo_c (.int 1) 803),
  (803, zo_iadd 804),
  (804, zo_scr xs n 805),
  (805, zo_al 0 806),
  (806, zo_il 3 807),
  (807, zo_c (.int 2) 808),
  (808, zo_iadd 809),
  (809, zo_scr xs n 810),
  (810, zo_al 0 811),
  (811, zo_il 3 812),
  (812, zo_c (.int 3) 813),
  (813, zo_iadd 814),
  (814, zo_scr xs n 815),
  (815, zo_cv 4 147 3 818),
  (818, zo_ceq 1348 821),
  (821, zo_c (.int 0) 822),
  (822, zo_zr 600000 7302250),
  (823, zo_al 1 824),
  (824, zo_al 0 825),
  (825, zo_il 3 826),
  (826, zo_c (.int 1) 827),
  (827, zo_iadd 828),
  (828, zo_scr xs n 829),
  (829, zo_cv 3 66 1 832),
  (832, zo_al 2 833),
  (833, zo_al 0 834),
  (834, zo_il 3 835),
  (835, zo_c (.int 1) 836),
  (836, zo_iadd 837),
  (837, zo_scr xs n 838),
  (838, zo_cv 4 148 1 841),
  (841, zo_ceq 1348 844),
  (844, zo_c (.int 0) 845),
  (845, zo_zr 600000 7302250),
  (846, zo_al 1 847),
  (847, zo_al 0 848),
  (848, zo_il 3 849),
  (849, zo_c (.int 1) 850),
  (850, zo_iadd 851),
  (851, zo_scr xs n 852),
  (852, zo_al 0 853),
  (853, zo_il 3 854),
  (854, zo_c (.int 2) 855),
  (855, zo_iadd 856),
  (856, zo_scr xs n 857),
  (857, zo_cv 3 67 2 860),
  (860, zo_al 2 861),
  (861, zo_al 0 862),
  (862, zo_il 3 863),
  (863, zo_c (.int 1) 864),
  (864, zo_iadd 865),
  (865, zo_scr xs n 866),
  (866, zo_al 0 867),
  (867, zo_il 3 868),
  (868, zo_c (.int 2) 869),
  (869, zo_iadd 870),
  (870, zo_scr xs n 871),
  (871, zo_cv 4 149 2 874),
  (874, zo_ceq 1348 877),
  (877, zo_c (.int 0) 878),
  (878, zo_zr 600000 7302250),
  (879, zo_al 1 880),
  (880, zo_al 0 881),
  (881, zo_il 3 882),
  (882, zo_c (.int 1) 883),
  (883, zo_iadd 884),
  (884, zo_scr xs n 885),
  (885, zo_cv 3 68 1 888),
  (888, zo_al 2 889),
  (889, zo_al 0 890),
  (890, zo_il 3 891),
  (891, zo_c (.int 1) 892),
  (892, zo_iadd 893),
  (893, zo_scr xs n 894),
  (894, zo_cv 4 150 1 897),
  (897, zo_ceq 1348 900),
  (900, zo_c (.int 0) 901),
  (901, zo_zr 600000 7302250),
  (902, zo_al 1 903),
  (903, zo_al 0 904),
  (904, zo_il 3 905),
  (905, zo_c (.int 1) 906),
  (906, zo_iadd 907),
  (907, zo_scr xs n 908),
  (908, zo_cv 3 69 1 911),
  (911, zo_al 2 912),
  (912, zo_al 0 913),
  (913, zo_il 3 914),
  (914, zo_c (.int 1) 915),
  (915, zo_iadd 916),
  (916, zo_scr xs n 917),
  (917, zo_cv 4 151 1 920),
  (920, zo_ceq 1348 923),
  (923, zo_c (.int 0) 924),
  (924, zo_zr 600000 7302250),
  (925, zo_al 1 926),
  (926, zo_al 0 927),
  (927, zo_il 3 928),
  (928, zo_c (.int 1) 929),
  (929, zo_iadd 930),
  (930, zo_scr xs n 931),
  (931, zo_al 0 932),
  (932, zo_il 3 933),
  (933, zo_c (.int 2) 934),
  (934, zo_iadd 935),
  (935, zo_scr xs n 936),
  (936, zo_cv 3 70 2 939),
  (939, zo_al 2 940),
  (940, zo_al 0 941),
  (941, zo_il 3 942),
  (942, zo_c (.int 1) 943),
  (943, zo_iadd 944),
  (944, zo_scr xs n 945),
  (945, zo_al 0 946),
  (946, zo_il 3 947),
  (947, zo_c (.int 2) 948),
  (948, zo_iadd 949),
  (949, zo_scr xs n 950),
  (950, zo_cv 4 152 2 953),
  (953, zo_ceq 1348 956),
  (956, zo_c (.int 0) 957),
  (957, zo_zr 600000 7302250),
  (958, zo_al 1 959),
  (959, zo_cv 3 71 0 962),
  (962, zo_al 2 963),
  (963, zo_cv 4 153 0 966),
  (966, zo_ceq 1348 969),
  (969, zo_c (.int 0) 970),
  (970, zo_zr 600000 7302250),
  (971, zo_al 1 972),
  (972, zo_cv 3 72 0 975),
  (975, zo_al 2 976),
  (976, zo_cv 4 167 0 979),
  (979, zo_ceq 1348 982),
  (982, zo_c (.int 0) 983),
  (983, zo_zr 600000 7302250),
  (984, zo_al 1 985),
  (985, zo_al 0 986),
  (986, zo_il 3 987),
  (987, zo_c (.int 1) 988),
  (988, zo_iadd 989),
  (989, zo_scr xs n 990),
  (990, zo_al 0 991),
  (991, zo_il 3 992),
  (992, zo_c (.int 2) 993),
  (993, zo_iadd 994),
  (994, zo_scr xs n 995),
  (995, zo_al 0 996),
  (996, zo_il 3 997),
  (997, zo_c (.int 3) 998),
  (998, zo_iadd 999),
  (999, zo_scr xs n 1000),
  (1000, zo_cv 3 73 3 1003),
  (1003, zo_al 2 1004),
  (1004, zo_al 0 1005),
  (1005, zo_il 3 1006),
  (1006, zo_c (.int 1) 1007),
  (1007, zo_iadd 1008),
  (1008, zo_scr xs n 1009),
  (1009, zo_al 0 1010),
  (1010, zo_il 3 1011),
  (1011, zo_c (.int 2) 1012),
  (1012, zo_iadd 1013),
  (1013, zo_scr xs n 1014),
  (1014, zo_al 0 1015),
  (1015, zo_il 3 1016),
  (1016, zo_c (.int 3) 1017),
  (1017, zo_iadd 1018),
  (1018, zo_scr xs n 1019),
  (1019, zo_cv 4 169 3 1022),
  (1022, zo_ceq 1348 1025),
  (1025, zo_c (.int 0) 1026),
  (1026, zo_zr 600000 7302250),
  (1027, zo_al 1 1028),
  (1028, zo_al 0 1029),
  (1029, zo_il 3 1030),
  (1030, zo_c (.int 1) 1031),
  (1031, zo_iadd 1032),
  (1032, zo_scr xs n 1033),
  (1033, zo_al 0 1034),
  (1034, zo_il 3 1035),
  (1035, zo_c (.int 2) 1036),
  (1036, zo_iadd 1037),
  (1037, zo_scr xs n 1038),
  (1038, zo_al 0 1039),
  (1039, zo_il 3 1040),
  (1040, zo_c (.int 3) 1041),
  (1041, zo_iadd 1042),
  (1042, zo_scr xs n 1043),
  (1043, zo_i2l 1044),
  (1044, zo_c (.int 32) 1046),
  (1046, zo_lshl 1047),
  (1047, zo_al 0 1048),
  (1048, zo_il 3 1049),
  (1049, zo_c (.int 4) 1050),
  (1050, zo_iadd 1051),
  (1051, zo_scr xs n 1052),
  (1052, zo_i2l 1053),
  (1053, zo_c (.long 4294967295) 1056),
  (1056, zo_land 1057),
  (1057, zo_lor 1058),
  (1058, zo_cv 3 74 3 1061),
  (1061, zo_al 2 1062),
  (1062, zo_al 0 1063),
  (1063, zo_il 3 1064),
  (1064, zo_c (.int 1) 1065),
  (1065, zo_iadd 1066),
  (1066, zo_scr xs n 1067),
  (1067, zo_al 0 1068),
  (1068, zo_il 3 1069),
  (1069, zo_c (.int 2) 1070),
  (1070, zo_iadd 1071),
  (1071, zo_scr xs n 1072),
  (1072, zo_al 0 1073),
  (1073, zo_il 3 1074),
  (1074, zo_c (.int 3) 1075),
  (1075, zo_iadd 1076),
  (1076, zo_scr xs n 1077),
  (1077, zo_i2l 1078),
  (1078, zo_c (.int 32) 1080),
  (1080, zo_lshl 1081),
  (1081, zo_al 0 1082),
  (1082, zo_il 3 1083),
  (1083, zo_c (.int 4) 1084),
  (1084, zo_iadd 1085),
  (1085, zo_scr xs n 1086),
  (1086, zo_i2l 1087),
  (1087, zo_c (.long 4294967295) 1090),
  (1090, zo_land 1091),
  (1091, zo_lor 1092),
  (1092, zo_cv 4 172 3 1095),
  (1095, zo_lcmp 1096),
  (1096, zo_ifeq 1348 1099),
  (1099, zo_c (.int 0) 1100),
  (1100, zo_zr 600000 7302250),
  (1101, zo_al 1 1102),
  (1102, zo_al 0 1103),
  (1103, zo_il 3 1104),
  (1104, zo_c (.int 1) 1105),
  (1105, zo_iadd 1106),
  (1106, zo_scr xs n 1107),
  (1107, zo_al 0 1108),
  (1108, zo_il 3 1109),
  (1109, zo_c (.int 2) 1110),
  (1110, zo_iadd 1111),
  (1111, zo_scr xs n 1112),
  (1112, zo_al 0 1113),
  (1113, zo_il 3 1114),
  (1114, zo_c (.int 3) 1115),
  (1115, zo_iadd 1116),
  (1116, zo_scr xs n 1117),
  (1117, zo_al 0 1118),
  (1118, zo_il 3 1119),
  (1119, zo_c (.int 4) 1120),
  (1120, zo_iadd 1121),
  (1121, zo_scr xs n 1122),
  (1122, zo_al 0 1123),
  (1123, zo_il 3 1124),
  (1124, zo_c (.int 5) 1125),
  (1125, zo_iadd 1126),
  (1126, zo_scr xs n 1127),
  (1127, zo_cv 3 75 5 1130),
  (1130, zo_al 2 1131),
  (1131, zo_al 0 1132),
  (1132, zo_il 3 1133),
  (1133, zo_c (.int 1) 1134),
  (1134, zo_iadd 1135),
  (1135, zo_scr xs n 1136),
  (1136, zo_al 0 1137),
  (1137, zo_il 3 1138),
  (1138, zo_c (.int 2) 1139),
  (1139, zo_iadd 1140),
  (1140, zo_scr xs n 1141),
  (1141, zo_al 0 1142),
  (1142, zo_il 3 1143),
  (1143, zo_c (.int 3) 1144),
  (1144, zo_iadd 1145),
  (1145, zo_scr xs n 1146),
  (1146, zo_al 0 1147),
  (1147, zo_il 3 1148),
  (1148, zo_c (.int 4) 1149),
  (1149, zo_iadd 1150),
  (1150, zo_scr xs n 1151),
  (1151, zo_al 0 1152),
  (1152, zo_il 3 1153),
  (1153, zo_c (.int 5) 1154),
  (1154, zo_iadd 1155),
  (1155, zo_scr xs n 1156),
  (1156, zo_cv 4 173 5 1159),
  (1159, zo_ceq 1348 1162),
  (1162, zo_c (.int 0) 1163),
  (1163, zo_zr 600000 7302250),
  (1164, zo_al 1 1165),
  (1165, zo_al 0 1166),
  (1166, zo_il 3 1167),
  (1167, zo_c (.int 1) 1168),
  (1168, zo_iadd 1169),
  (1169, zo_scr xs n 1170),
  (1170, zo_cv 3 76 1 1173),
  (1173, zo_al 2 1174),
  (1174, zo_al 0 1175),
  (1175, zo_il 3 1176),
  (1176, zo_c (.int 1) 1177),
  (1177, zo_iadd 1178),
  (1178, zo_scr xs n 1179),
  (1179, zo_cv 4 174 1 1182),
  (1182, zo_ceq 1348 1185),
  (1185, zo_c (.int 0) 1186),
  (1186, zo_zr 600000 7302250),
  (1187, zo_al 1 1188),
  (1188, zo_al 0 1189),
  (1189, zo_il 3 1190),
  (1190, zo_c (.int 1) 1191),
  (1191, zo_iadd 1192),
  (1192, zo_scr xs n 1193),
  (1193, zo_al 0 1194),
  (1194, zo_il 3 1195),
  (1195, zo_c (.int 2) 1196),
  (1196, zo_iadd 1197),
  (1197, zo_scr xs n 1198),
  (1198, zo_cv 3 77 2 1201),
  (1201, zo_al 2 1202),
  (1202, zo_al 0 1203),
  (1203, zo_il 3 1204),
  (1204, zo_c (.int 1) 1205),
  (1205, zo_iadd 1206),
  (1206, zo_scr xs n 1207),
  (1207, zo_al 0 1208),
  (1208, zo_il 3 1209),
  (1209, zo_c (.int 2) 1210),
  (1210, zo_iadd 1211),
  (1211, zo_scr xs n 1212),
  (1212, zo_cv 4 175 2 1215),
  (1215, zo_ceq 1348 1218),
  (1218, zo_c (.int 0) 1219),
  (1219, zo_zr 600000 7302250),
  (1220, zo_al 1 1221),
  (1221, zo_al 0 1222),
  (1222, zo_il 3 1223),
  (1223, zo_c (.int 1) 1224),
  (1224, zo_iadd 1225),
  (1225, zo_scr xs n 1226),
  (1226, zo_al 0 1227),
  (1227, zo_il 3 1228),
  (1228, zo_c (.int 2) 1229),
  (1229, zo_iadd 1230),
  (1230, zo_scr xs n 1231),
  (1231, zo_al 0 1232),
  (1232, zo_il 3 1233),
  (1233, zo_c (.int 3) 1234),
  (1234, zo_iadd 1235),
  (1235, zo_scr xs n 1236),
  (1236, zo_cv 3 78 3 1239),
  (1239, zo_al 2 1240),
  (1240, zo_al 0 1241),
  (1241, zo_il 3 1242),
  (1242, zo_c (.int 1) 1243),
  (1243, zo_iadd 1244),
  (1244, zo_scr xs n 1245),
  (1245, zo_al 0 1246),
  (1246, zo_il 3 1247),
  (1247, zo_c (.int 2) 1248),
  (1248, zo_iadd 1249),
  (1249, zo_scr xs n 1250),
  (1250, zo_al 0 1251),
  (1251, zo_il 3 1252),
  (1252, zo_c (.int 3) 1253),
  (1253, zo_iadd 1254),
  (1254, zo_scr xs n 1255),
  (1255, zo_cv 4 177 3 1258),
  (1258, zo_ceq 1348 1261),
  (1261, zo_c (.int 0) 1262),
  (1262, zo_zr 600000 7302250),
  (1263, zo_al 1 1264),
  (1264, zo_cv 3 79 0 1267),
  (1267, zo_al 2 1268),
  (1268, zo_cv 4 178 0 1271),
  (1271, zo_ceq 1348 1274),
  (1274, zo_c (.int 0) 1275),
  (1275, zo_zr 600000 7302250),
  (1276, zo_al 1 1277),
  (1277, zo_cv 3 80 0 1280),
  (1280, zo_al 2 1281),
  (1281, zo_cv 4 179 0 1284),
  (1284, zo_ceq 1348 1287),
  (1287, zo_c (.int 0) 1288),
  (1288, zo_zr 600000 7302250),
  (1289, zo_al 1 1290),
  (1290, zo_cv 3 81 0 1293),
  (1293, zo_al 2 1294),
  (1294, zo_cv 4 180 0 1297),
  (1297, zo_ceq 1348 1300),
  (1300, zo_c (.int 0) 1301),
  (1301, zo_zr 600000 7302250),
  (1302, zo_al 1 1303),
  (1303, zo_al 0 1304),
  (1304, zo_il 3 1305),
  (1305, zo_c (.int 1) 1306),
  (1306, zo_iadd 1307),
  (1307, zo_scr xs n 1308),
  (1308, zo_cv 3 82 1 1311),
  (1311, zo_al 2 1312),
  (1312, zo_al 0 1313),
  (1313, zo_il 3 1314),
  (1314, zo_c (.int 1) 1315),
  (1315, zo_iadd 1316),
  (1316, zo_scr xs n 1317),
  (1317, zo_cv 4 181 1 1320),
  (1320, zo_ceq 1348 1323),
  (1323, zo_c (.int 0) 1324),
  (1324, zo_zr 600000 7302250),
  (1325, zo_al 1 1326),
  (1326, zo_al 0 1327),
  (1327, zo_il 3 1328),
  (1328, zo_c (.int 1) 1329),
  (1329, zo_iadd 1330),
  (1330, zo_scr xs n 1331),
  (1331, zo_cv 3 83 1 1334),
  (1334, zo_al 2 1335),
  (1335, zo_al 0 1336),
  (1336, zo_il 3 1337),
  (1337, zo_c (.int 1) 1338),
  (1338, zo_iadd 1339),
  (1339, zo_scr xs n 1340),
  (1340, zo_cv 4 182 1 1343),
  (1343, zo_ceq 1348 1346),
  (1346, zo_c (.int 0) 1347),
  (1347, zo_zr 600000 7302250),
  (1348, zo_inc 3 6 1351),
  (1351, zo_goto 18),
  (1354, zo_c (.int 1) 1355),
  (1355, zo_zr 600000 7302250)]
def zm_tab (M : Nat) : zT := cond (Nat.ble M 90) (cond (Nat.ble M 44) (cond (Nat.ble M 21) (cond (Nat.ble M 10) (cond (Nat.ble M 4) (cond (Nat.ble M 1) (cond (Nat.ble M 0) (tb_K_isUnder) (tb_K_nameOf)) (cond (Nat.ble M 2) (tb_K_charms) (cond (Nat.ble M 3) (tb_K_does) (tb_K_thaws)))) (cond (Nat.ble M 7) (cond (Nat.ble M 5) (tb_K_chills) (cond (Nat.ble M 6) (tb_J_fill) (tb_S_init))) (cond (Nat.ble M 8) (tb_S_isMissing) (cond (Nat.ble M 9) (tb_S_lay) (tb_S_put))))) (cond (Nat.ble M 15) (cond (Nat.ble M 12) (cond (Nat.ble M 11) (tb_S_hasRun) (tb_H_init)) (cond (Nat.ble M 13) (tb_H_become) (cond (Nat.ble M 14) (tb_H_addInlaw) (tb_H_addCouple)))) (cond (Nat.ble M 18) (cond (Nat.ble M 16) (tb_H_firstCouple) (cond (Nat.ble M 17) (tb_H_satOnes) (tb_H_wellOfAll))) (cond (Nat.ble M 19) (tb_H_warmOfAll) (cond (Nat.ble M 20) (tb_H_hadOfAll) (tb_H_charmsOf)))))) (cond (Nat.ble M 32) (cond (Nat.ble M 26) (cond (Nat.ble M 23) (cond (Nat.ble M 22) (tb_H_doesOf) (tb_H_thawsOf)) (cond (Nat.ble M 24) (tb_H_chillsOf) (cond (Nat.ble M 25) (tb_H_goSundays) (tb_H_goOneSunday)))) (cond (Nat.ble M 29) (cond (Nat.ble M 27) (tb_H_receive) (cond (Nat.ble M 28) (tb_H_chosenBy) (tb_H_isFree))) (cond (Nat.ble M 30) (tb_H_sum) (cond (Nat.ble M 31) (tb_H_hold) (tb_T_init))))) (cond (Nat.ble M 38) (cond (Nat.ble M 35) (cond (Nat.ble M 33) (tb_T_tellTo) (cond (Nat.ble M 34) (tb_T_tellItem) (tb_T_tellInlaw))) (cond (Nat.ble M 36) (tb_T_tellCouple) (cond (Nat.ble M 37) (tb_T_tellFire) (tb_T_tellSit)))) (cond (Nat.ble M 41) (cond (Nat.ble M 39) (tb_T_advance) (cond (Nat.ble M 40) (tb_T_takeWord) (tb_T_takeNumber))) (cond (Nat.ble M 42) (tb_T_isWord) (cond (Nat.ble M 43) (tb_T_isNumberTo) (tb_T_isLetter))))))) (cond (Nat.ble M 67) (cond (Nat.ble M 55) (cond (Nat.ble M 49) (cond (Nat.ble M 46) (cond (Nat.ble M 45) (tb_T_isDigit) (tb_X_init)) (cond (Nat.ble M 47) (tb_X_fire) (cond (Nat.ble M 48) (tb_X_now) (tb_X_inlaw)))) (cond (Nat.ble M 52) (cond (Nat.ble M 50) (tb_X_of) (cond (Nat.ble M 51) (tb_X_with) (tb_X_set))) (cond (Nat.ble M 53) (tb_X_turn) (cond (Nat.ble M 54) (tb_X_as) (tb_X_couple))))) (cond (Nat.ble M 61) (cond (Nat.ble M 58) (cond (Nat.ble M 56) (tb_X_coupleOf) (cond (Nat.ble M 57) (tb_X_give) (tb_X_sundays))) (cond (Nat.ble M 59) (tb_X_on) (cond (Nat.ble M 60) (tb_X_then) (tb_X_meets)))) (cond (Nat.ble M 64) (cond (Nat.ble M 62) (tb_X_well) (cond (Nat.ble M 63) (tb_X_cold) (tb_X_kind))) (cond (Nat.ble M 65) (tb_X_warm) (cond (Nat.ble M 66) (tb_X_sit) (tb_X_loud)))))) (cond (Nat.ble M 78) (cond (Nat.ble M 72) (cond (Nat.ble M 69) (cond (Nat.ble M 68) (tb_X_stoke) (tb_X_lonely)) (cond (Nat.ble M 70) (tb_X_feed) (cond (Nat.ble M 71) (tb_X_wipe) (tb_X_institute)))) (cond (Nat.ble M 75) (cond (Nat.ble M 73) (tb_X_sheet) (cond (Nat.ble M 74) (tb_X_write) (tb_X_copy))) (cond (Nat.ble M 76) (tb_X_lays) (cond (Nat.ble M 77) (tb_X_book) (tb_X_read))))) (cond (Nat.ble M 84) (cond (Nat.ble M 81) (cond (Nat.ble M 79) (tb_X_image) (cond (Nat.ble M 80) (tb_X_undo) (tb_X_tear))) (cond (Nat.ble M 82) (tb_X_count) (cond (Nat.ble M 83) (tb_X_status) (tb_X_tell)))) (cond (Nat.ble M 87) (cond (Nat.ble M 85) (tb_X_put) (cond (Nat.ble M 86) (tb_X_goesAsBooked) (tb_X_isNoInlaw))) (cond (Nat.ble M 88) (tb_X_isNoCouple) (cond (Nat.ble M 89) (tb_X_isNoKind) (tb_X_isNoSheet)))))))) (cond (Nat.ble M 136) (cond (Nat.ble M 113) (cond (Nat.ble M 101) (cond (Nat.ble M 95) (cond (Nat.ble M 92) (cond (Nat.ble M 91) (tb_X_isOutside) (tb_M_init)) (cond (Nat.ble M 93) (tb_M_in) (cond (Nat.ble M 94) (tb_M_finds) (tb_M_saves)))) (cond (Nat.ble M 98) (cond (Nat.ble M 96) (tb_M_putsBack) (cond (Nat.ble M 97) (tb_M_laysAside) (tb_M_takesBack))) (cond (Nat.ble M 99) (tb_M_becomes) (cond (Nat.ble M 100) (tb_M_spot) (tb_M_coupleSpot))))) (cond (Nat.ble M 107) (cond (Nat.ble M 104) (cond (Nat.ble M 102) (tb_M_its) (cond (Nat.ble M 103) (tb_M_theirs) (tb_M_isInlaw))) (cond (Nat.ble M 105) (tb_M_isCouple) (cond (Nat.ble M 106) (tb_M_isKind) (tb_M_held)))) (cond (Nat.ble M 110) (cond (Nat.ble M 108) (tb_M_together) (cond (Nat.ble M 109) (tb_M_wells) (tb_M_fire))) (cond (Nat.ble M 111) (tb_M_firstCouple) (cond (Nat.ble M 112) (tb_M_satOn) (tb_M_now)))))) (cond (Nat.ble M 124) (cond (Nat.ble M 118) (cond (Nat.ble M 115) (cond (Nat.ble M 114) (tb_M_charms) (tb_M_does)) (cond (Nat.ble M 116) (tb_M_thaws) (cond (Nat.ble M 117) (tb_M_chills) (tb_M_addsInlaw)))) (cond (Nat.ble M 121) (cond (Nat.ble M 119) (tb_M_inlaw) (cond (Nat.ble M 120) (tb_M_of) (tb_M_with))) (cond (Nat.ble M 122) (tb_M_set) (cond (Nat.ble M 123) (tb_M_turn) (tb_M_isUnder))))) (cond (Nat.ble M 130) (cond (Nat.ble M 127) (cond (Nat.ble M 125) (tb_M_as) (cond (Nat.ble M 126) (tb_M_addsCouple) (tb_M_couple))) (cond (Nat.ble M 128) (tb_M_hasNow) (cond (Nat.ble M 129) (tb_M_coupleOf) (tb_M_give)))) (cond (Nat.ble M 133) (cond (Nat.ble M 131) (tb_M_charmer) (cond (Nat.ble M 132) (tb_M_has) (tb_M_isAlone))) (cond (Nat.ble M 134) (tb_M_sunday) (cond (Nat.ble M 135) (tb_M_sundaysGo) (tb_M_sundays))))))) (cond (Nat.ble M 159) (cond (Nat.ble M 147) (cond (Nat.ble M 141) (cond (Nat.ble M 138) (cond (Nat.ble M 137) (tb_M_isAhead) (tb_M_behind)) (cond (Nat.ble M 139) (tb_M_on) (cond (Nat.ble M 140) (tb_M_then) (tb_M_meets)))) (cond (Nat.ble M 144) (cond (Nat.ble M 142) (tb_M_well) (cond (Nat.ble M 143) (tb_M_cold) (tb_M_isSoon))) (cond (Nat.ble M 145) (tb_M_mostBy) (cond (Nat.ble M 146) (tb_M_kind) (tb_M_warm))))) (cond (Nat.ble M 153) (cond (Nat.ble M 150) (cond (Nat.ble M 148) (tb_M_sit) (cond (Nat.ble M 149) (tb_M_loud) (tb_M_stoke))) (cond (Nat.ble M 151) (tb_M_lonely) (cond (Nat.ble M 152) (tb_M_feed) (tb_M_wipe)))) (cond (Nat.ble M 156) (cond (Nat.ble M 154) (tb_M_byteAt) (cond (Nat.ble M 155) (tb_M_isLetter) (tb_M_isDigit))) (cond (Nat.ble M 157) (tb_M_token) (cond (Nat.ble M 158) (tb_M_must) (tb_M_word)))))) (cond (Nat.ble M 170) (cond (Nat.ble M 164) (cond (Nat.ble M 161) (cond (Nat.ble M 160) (tb_M_number) (tb_M_kindHere)) (cond (Nat.ble M 162) (tb_M_inlawItem) (cond (Nat.ble M 163) (tb_M_coupleItem) (tb_M_fireItem)))) (cond (Nat.ble M 167) (cond (Nat.ble M 165) (tb_M_sitItem) (cond (Nat.ble M 166) (tb_M_item) (tb_M_institute))) (cond (Nat.ble M 168) (tb_M_isOne) (cond (Nat.ble M 169) (tb_M_sheet) (tb_M_narrowed))))) (cond (Nat.ble M 176) (cond (Nat.ble M 173) (cond (Nat.ble M 171) (tb_M_wrongSheet) (cond (Nat.ble M 172) (tb_M_write) (tb_M_copy))) (cond (Nat.ble M 174) (tb_M_lays) (cond (Nat.ble M 175) (tb_M_book) (tb_M_isBook)))) (cond (Nat.ble M 179) (cond (Nat.ble M 177) (tb_M_read) (cond (Nat.ble M 178) (tb_M_image) (tb_M_undo))) (cond (Nat.ble M 180) (tb_M_tear) (cond (Nat.ble M 181) (tb_M_count) (tb_M_status))))))))
def zm_nl (M : Nat) : Nat := cond (Nat.ble M 90) (cond (Nat.ble M 44) (cond (Nat.ble M 21) (cond (Nat.ble M 10) (cond (Nat.ble M 4) (cond (Nat.ble M 1) (cond (Nat.ble M 0) (4) (1)) (cond (Nat.ble M 2) (8) (cond (Nat.ble M 3) (6) (4)))) (cond (Nat.ble M 7) (cond (Nat.ble M 5) (4) (cond (Nat.ble M 6) (5) (1))) (cond (Nat.ble M 8) (1) (cond (Nat.ble M 9) (3) (4))))) (cond (Nat.ble M 15) (cond (Nat.ble M 12) (cond (Nat.ble M 11) (3) (1)) (cond (Nat.ble M 13) (2) (cond (Nat.ble M 14) (3) (3)))) (cond (Nat.ble M 18) (cond (Nat.ble M 16) (1) (cond (Nat.ble M 17) (3) (1))) (cond (Nat.ble M 19) (1) (cond (Nat.ble M 20) (1) (4)))))) (cond (Nat.ble M 32) (cond (Nat.ble M 26) (cond (Nat.ble M 23) (cond (Nat.ble M 22) (3) (3)) (cond (Nat.ble M 24) (2) (cond (Nat.ble M 25) (3) (3)))) (cond (Nat.ble M 29) (cond (Nat.ble M 27) (3) (cond (Nat.ble M 28) (6) (2))) (cond (Nat.ble M 30) (4) (cond (Nat.ble M 31) (3) (1))))) (cond (Nat.ble M 38) (cond (Nat.ble M 35) (cond (Nat.ble M 33) (3) (cond (Nat.ble M 34) (3) (4))) (cond (Nat.ble M 36) (3) (cond (Nat.ble M 37) (2) (2)))) (cond (Nat.ble M 41) (cond (Nat.ble M 39) (1) (cond (Nat.ble M 40) (1) (1))) (cond (Nat.ble M 42) (3) (cond (Nat.ble M 43) (2) (1))))))) (cond (Nat.ble M 67) (cond (Nat.ble M 55) (cond (Nat.ble M 49) (cond (Nat.ble M 46) (cond (Nat.ble M 45) (1) (2)) (cond (Nat.ble M 47) (3) (cond (Nat.ble M 48) (2) (2)))) (cond (Nat.ble M 52) (cond (Nat.ble M 50) (3) (cond (Nat.ble M 51) (4) (4))) (cond (Nat.ble M 53) (3) (cond (Nat.ble M 54) (3) (2))))) (cond (Nat.ble M 61) (cond (Nat.ble M 58) (cond (Nat.ble M 56) (3) (cond (Nat.ble M 57) (4) (2))) (cond (Nat.ble M 59) (4) (cond (Nat.ble M 60) (4) (4)))) (cond (Nat.ble M 64) (cond (Nat.ble M 62) (4) (cond (Nat.ble M 63) (3) (6))) (cond (Nat.ble M 65) (5) (cond (Nat.ble M 66) (6) (6)))))) (cond (Nat.ble M 78) (cond (Nat.ble M 72) (cond (Nat.ble M 69) (cond (Nat.ble M 68) (6) (4)) (cond (Nat.ble M 70) (4) (cond (Nat.ble M 71) (2) (2)))) (cond (Nat.ble M 75) (cond (Nat.ble M 73) (4) (cond (Nat.ble M 74) (8) (8))) (cond (Nat.ble M 76) (7) (cond (Nat.ble M 77) (5) (8))))) (cond (Nat.ble M 84) (cond (Nat.ble M 81) (cond (Nat.ble M 79) (1) (cond (Nat.ble M 80) (1) (2))) (cond (Nat.ble M 82) (2) (cond (Nat.ble M 83) (4) (3)))) (cond (Nat.ble M 87) (cond (Nat.ble M 85) (7) (cond (Nat.ble M 86) (4) (2))) (cond (Nat.ble M 88) (2) (cond (Nat.ble M 89) (1) (1)))))))) (cond (Nat.ble M 136) (cond (Nat.ble M 113) (cond (Nat.ble M 101) (cond (Nat.ble M 95) (cond (Nat.ble M 92) (cond (Nat.ble M 91) (3) (1)) (cond (Nat.ble M 93) (6) (cond (Nat.ble M 94) (2) (2)))) (cond (Nat.ble M 98) (cond (Nat.ble M 96) (2) (cond (Nat.ble M 97) (2) (3))) (cond (Nat.ble M 99) (4) (cond (Nat.ble M 100) (2) (2))))) (cond (Nat.ble M 107) (cond (Nat.ble M 104) (cond (Nat.ble M 102) (3) (cond (Nat.ble M 103) (3) (2))) (cond (Nat.ble M 105) (2) (cond (Nat.ble M 106) (1) (3)))) (cond (Nat.ble M 110) (cond (Nat.ble M 108) (4) (cond (Nat.ble M 109) (3) (2))) (cond (Nat.ble M 111) (1) (cond (Nat.ble M 112) (3) (2)))))) (cond (Nat.ble M 124) (cond (Nat.ble M 118) (cond (Nat.ble M 115) (cond (Nat.ble M 114) (7) (4)) (cond (Nat.ble M 116) (4) (cond (Nat.ble M 117) (3) (4)))) (cond (Nat.ble M 121) (cond (Nat.ble M 119) (2) (cond (Nat.ble M 120) (3) (4))) (cond (Nat.ble M 122) (5) (cond (Nat.ble M 123) (3) (2))))) (cond (Nat.ble M 130) (cond (Nat.ble M 127) (cond (Nat.ble M 125) (3) (cond (Nat.ble M 126) (3) (2))) (cond (Nat.ble M 128) (2) (cond (Nat.ble M 129) (3) (5)))) (cond (Nat.ble M 133) (cond (Nat.ble M 131) (6) (cond (Nat.ble M 132) (5) (2))) (cond (Nat.ble M 134) (5) (cond (Nat.ble M 135) (3) (2))))))) (cond (Nat.ble M 159) (cond (Nat.ble M 147) (cond (Nat.ble M 141) (cond (Nat.ble M 138) (cond (Nat.ble M 137) (1) (3)) (cond (Nat.ble M 139) (4) (cond (Nat.ble M 140) (4) (6)))) (cond (Nat.ble M 144) (cond (Nat.ble M 142) (5) (cond (Nat.ble M 143) (4) (1))) (cond (Nat.ble M 145) (10) (cond (Nat.ble M 146) (3) (8))))) (cond (Nat.ble M 153) (cond (Nat.ble M 150) (cond (Nat.ble M 148) (6) (cond (Nat.ble M 149) (3) (2))) (cond (Nat.ble M 151) (4) (cond (Nat.ble M 152) (4) (2)))) (cond (Nat.ble M 156) (cond (Nat.ble M 154) (2) (cond (Nat.ble M 155) (1) (1))) (cond (Nat.ble M 157) (3) (cond (Nat.ble M 158) (2) (4)))))) (cond (Nat.ble M 170) (cond (Nat.ble M 164) (cond (Nat.ble M 161) (cond (Nat.ble M 160) (6) (3)) (cond (Nat.ble M 162) (3) (cond (Nat.ble M 163) (2) (1)))) (cond (Nat.ble M 167) (cond (Nat.ble M 165) (1) (cond (Nat.ble M 166) (4) (2))) (cond (Nat.ble M 168) (1) (cond (Nat.ble M 169) (5) (3))))) (cond (Nat.ble M 176) (cond (Nat.ble M 173) (cond (Nat.ble M 171) (2) (cond (Nat.ble M 172) (8) (7))) (cond (Nat.ble M 174) (6) (cond (Nat.ble M 175) (5) (4)))) (cond (Nat.ble M 179) (cond (Nat.ble M 177) (7) (cond (Nat.ble M 178) (2) (2))) (cond (Nat.ble M 180) (2) (cond (Nat.ble M 181) (2) (4))))))))
abbrev mn_K_isUnder : Nat := 0
abbrev mn_K_nameOf : Nat := 1
abbrev mn_K_charms : Nat := 2
abbrev mn_K_does : Nat := 3
abbrev mn_K_thaws : Nat := 4
abbrev mn_K_chills : Nat := 5
abbrev mn_J_fill : Nat := 6
abbrev mn_S_init : Nat := 7
abbrev mn_S_isMissing : Nat := 8
abbrev mn_S_lay : Nat := 9
abbrev mn_S_put : Nat := 10
abbrev mn_S_hasRun : Nat := 11
abbrev mn_H_init : Nat := 12
abbrev mn_H_become : Nat := 13
abbrev mn_H_addInlaw : Nat := 14
abbrev mn_H_addCouple : Nat := 15
abbrev mn_H_firstCouple : Nat := 16
abbrev mn_H_satOnes : Nat := 17
abbrev mn_H_wellOfAll : Nat := 18
abbrev mn_H_warmOfAll : Nat := 19
abbrev mn_H_hadOfAll : Nat := 20
abbrev mn_H_charmsOf : Nat := 21
abbrev mn_H_doesOf : Nat := 22
abbrev mn_H_thawsOf : Nat := 23
abbrev mn_H_chillsOf : Nat := 24
abbrev mn_H_goSundays : Nat := 25
abbrev mn_H_goOneSunday : Nat := 26
abbrev mn_H_receive : Nat := 27
abbrev mn_H_chosenBy : Nat := 28
abbrev mn_H_isFree : Nat := 29
abbrev mn_H_sum : Nat := 30
abbrev mn_H_hold : Nat := 31
abbrev mn_T_init : Nat := 32
abbrev mn_T_tellTo : Nat := 33
abbrev mn_T_tellItem : Nat := 34
abbrev mn_T_tellInlaw : Nat := 35
abbrev mn_T_tellCouple : Nat := 36
abbrev mn_T_tellFire : Nat := 37
abbrev mn_T_tellSit : Nat := 38
abbrev mn_T_advance : Nat := 39
abbrev mn_T_takeWord : Nat := 40
abbrev mn_T_takeNumber : Nat := 41
abbrev mn_T_isWord : Nat := 42
abbrev mn_T_isNumberTo : Nat := 43
abbrev mn_T_isLetter : Nat := 44
abbrev mn_T_isDigit : Nat := 45
abbrev mn_X_init : Nat := 46
abbrev mn_X_fire : Nat := 47
abbrev mn_X_now : Nat := 48
abbrev mn_X_inlaw : Nat := 49
abbrev mn_X_of : Nat := 50
abbrev mn_X_with : Nat := 51
abbrev mn_X_set : Nat := 52
abbrev mn_X_turn : Nat := 53
abbrev mn_X_as : Nat := 54
abbrev mn_X_couple : Nat := 55
abbrev mn_X_coupleOf : Nat := 56
abbrev mn_X_give : Nat := 57
abbrev mn_X_sundays : Nat := 58
abbrev mn_X_on : Nat := 59
abbrev mn_X_then : Nat := 60
abbrev mn_X_meets : Nat := 61
abbrev mn_X_well : Nat := 62
abbrev mn_X_cold : Nat := 63
abbrev mn_X_kind : Nat := 64
abbrev mn_X_warm : Nat := 65
abbrev mn_X_sit : Nat := 66
abbrev mn_X_loud : Nat := 67
abbrev mn_X_stoke : Nat := 68
abbrev mn_X_lonely : Nat := 69
abbrev mn_X_feed : Nat := 70
abbrev mn_X_wipe : Nat := 71
abbrev mn_X_institute : Nat := 72
abbrev mn_X_sheet : Nat := 73
abbrev mn_X_write : Nat := 74
abbrev mn_X_copy : Nat := 75
abbrev mn_X_lays : Nat := 76
abbrev mn_X_book : Nat := 77
abbrev mn_X_read : Nat := 78
abbrev mn_X_image : Nat := 79
abbrev mn_X_undo : Nat := 80
abbrev mn_X_tear : Nat := 81
abbrev mn_X_count : Nat := 82
abbrev mn_X_status : Nat := 83
abbrev mn_X_tell : Nat := 84
abbrev mn_X_put : Nat := 85
abbrev mn_X_goesAsBooked : Nat := 86
abbrev mn_X_isNoInlaw : Nat := 87
abbrev mn_X_isNoCouple : Nat := 88
abbrev mn_X_isNoKind : Nat := 89
abbrev mn_X_isNoSheet : Nat := 90
abbrev mn_X_isOutside : Nat := 91
abbrev mn_M_init : Nat := 92
abbrev mn_M_in : Nat := 93
abbrev mn_M_finds : Nat := 94
abbrev mn_M_saves : Nat := 95
abbrev mn_M_putsBack : Nat := 96
abbrev mn_M_laysAside : Nat := 97
abbrev mn_M_takesBack : Nat := 98
abbrev mn_M_becomes : Nat := 99
abbrev mn_M_spot : Nat := 100
abbrev mn_M_coupleSpot : Nat := 101
abbrev mn_M_its : Nat := 102
abbrev mn_M_theirs : Nat := 103
abbrev mn_M_isInlaw : Nat := 104
abbrev mn_M_isCouple : Nat := 105
abbrev mn_M_isKind : Nat := 106
abbrev mn_M_held : Nat := 107
abbrev mn_M_together : Nat := 108
abbrev mn_M_wells : Nat := 109
abbrev mn_M_fire : Nat := 110
abbrev mn_M_firstCouple : Nat := 111
abbrev mn_M_satOn : Nat := 112
abbrev mn_M_now : Nat := 113
abbrev mn_M_charms : Nat := 114
abbrev mn_M_does : Nat := 115
abbrev mn_M_thaws : Nat := 116
abbrev mn_M_chills : Nat := 117
abbrev mn_M_addsInlaw : Nat := 118
abbrev mn_M_inlaw : Nat := 119
abbrev mn_M_of : Nat := 120
abbrev mn_M_with : Nat := 121
abbrev mn_M_set : Nat := 122
abbrev mn_M_turn : Nat := 123
abbrev mn_M_isUnder : Nat := 124
abbrev mn_M_as : Nat := 125
abbrev mn_M_addsCouple : Nat := 126
abbrev mn_M_couple : Nat := 127
abbrev mn_M_hasNow : Nat := 128
abbrev mn_M_coupleOf : Nat := 129
abbrev mn_M_give : Nat := 130
abbrev mn_M_charmer : Nat := 131
abbrev mn_M_has : Nat := 132
abbrev mn_M_isAlone : Nat := 133
abbrev mn_M_sunday : Nat := 134
abbrev mn_M_sundaysGo : Nat := 135
abbrev mn_M_sundays : Nat := 136
abbrev mn_M_isAhead : Nat := 137
abbrev mn_M_behind : Nat := 138
abbrev mn_M_on : Nat := 139
abbrev mn_M_then : Nat := 140
abbrev mn_M_meets : Nat := 141
abbrev mn_M_well : Nat := 142
abbrev mn_M_cold : Nat := 143
abbrev mn_M_isSoon : Nat := 144
abbrev mn_M_mostBy : Nat := 145
abbrev mn_M_kind : Nat := 146
abbrev mn_M_warm : Nat := 147
abbrev mn_M_sit : Nat := 148
abbrev mn_M_loud : Nat := 149
abbrev mn_M_stoke : Nat := 150
abbrev mn_M_lonely : Nat := 151
abbrev mn_M_feed : Nat := 152
abbrev mn_M_wipe : Nat := 153
abbrev mn_M_byteAt : Nat := 154
abbrev mn_M_isLetter : Nat := 155
abbrev mn_M_isDigit : Nat := 156
abbrev mn_M_token : Nat := 157
abbrev mn_M_must : Nat := 158
abbrev mn_M_word : Nat := 159
abbrev mn_M_number : Nat := 160
abbrev mn_M_kindHere : Nat := 161
abbrev mn_M_inlawItem : Nat := 162
abbrev mn_M_coupleItem : Nat := 163
abbrev mn_M_fireItem : Nat := 164
abbrev mn_M_sitItem : Nat := 165
abbrev mn_M_item : Nat := 166
abbrev mn_M_institute : Nat := 167
abbrev mn_M_isOne : Nat := 168
abbrev mn_M_sheet : Nat := 169
abbrev mn_M_narrowed : Nat := 170
abbrev mn_M_wrongSheet : Nat := 171
abbrev mn_M_write : Nat := 172
abbrev mn_M_copy : Nat := 173
abbrev mn_M_lays : Nat := 174
abbrev mn_M_book : Nat := 175
abbrev mn_M_isBook : Nat := 176
abbrev mn_M_read : Nat := 177
abbrev mn_M_image : Nat := 178
abbrev mn_M_undo : Nat := 179
abbrev mn_M_tear : Nat := 180
abbrev mn_M_count : Nat := 181
abbrev mn_M_status : Nat := 182
end
section
/-! THE STATE: what the cells hold. zS: an institute, by field and number: 0 KIND, 1 WARM, 2 SAT ON, 3 ALONE, 4 HAD of in-laws; 5 LOUD, 6 WELL, 7 LAST of couples; 8: SUNDAY, FIRE, how many in-laws, how many couples -/
abbrev zS : Type := Nat → Nat → Int32
def s2 (σ : zS) (f i : Nat) (v : Int32) : zS := fun g => cond (Nat.beq g f) (upd (σ g) i v) (σ g)
/-- the same in one row of 68 -/
def ec (σ : zS) : Nat → Int32 := fun k => if k < 4 then σ 8 k else if k < 44 then σ ((k - 4) % 5) ((k - 4) / 5) else σ (5 + (k - 44) % 3) ((k - 44) / 3)
/-- a hall: the institute, whom each couple had latest, who is taken -/
abbrev zHl : Type := zS × (Nat → Int32) × Int32
/-- the tape: bytes, length, sort, start, behind, number -/
abbrev zTp : Type := (Nat → Int32) × Int32 × Int32 × Int32 × Int32 × Int32
/-- a sheet: bits, size, numbers -/
abbrev zSh : Type := Int32 × Int32 × (Nat → Int64)
def zm_sh : Nat → Option Nat := fun j => if j = 0 then some 34 else if j = 1 then some 36 else if j = 2 then some 38 else if j = 3 then some 40 else none
/-- the class: hall, ahead, kept, is one kept, tape, sheets, findings -/
def hX (H A K : zHl) (k : Int32) (T : zTp) (S : Nat → zSh) (F : Nat → Int32) : zH := [
  .inr (3, [.ref 1, .ref 11, .ref 21, .int k, .ref 31, .ref 33, .ref 42]),
  .inr (0, [.int (H.1 8 0), .int (H.1 8 1), .int (H.1 8 2), .ref 2, .ref 3, .ref 4, .ref 5, .ref 6, .int (H.1 8 3), .ref 7, .ref 8, .ref 9, .ref 10, .int H.2.2]),
  .inl (0, 8, .inl (H.1 0)),
  .inl (0, 8, .inl (H.1 1)),
  .inl (0, 8, .inl (H.1 2)),
  .inl (0, 8, .inl (H.1 3)),
  .inl (0, 8, .inl (H.1 4)),
  .inl (0, 8, .inl (H.1 5)),
  .inl (0, 8, .inl (H.1 6)),
  .inl (0, 8, .inl (H.1 7)),
  .inl (0, 8, .inl H.2.1),
  .inr (0, [.int (A.1 8 0), .int (A.1 8 1), .int (A.1 8 2), .ref 12, .ref 13, .ref 14, .ref 15, .ref 16, .int (A.1 8 3), .ref 17, .ref 18, .ref 19, .ref 20, .int A.2.2]),
  .inl (0, 8, .inl (A.1 0)),
  .inl (0, 8, .inl (A.1 1)),
  .inl (0, 8, .inl (A.1 2)),
  .inl (0, 8, .inl (A.1 3)),
  .inl (0, 8, .inl (A.1 4)),
  .inl (0, 8, .inl (A.1 5)),
  .inl (0, 8, .inl (A.1 6)),
  .inl (0, 8, .inl (A.1 7)),
  .inl (0, 8, .inl A.2.1),
  .inr (0, [.int (K.1 8 0), .int (K.1 8 1), .int (K.1 8 2), .ref 22, .ref 23, .ref 24, .ref 25, .ref 26, .int (K.1 8 3), .ref 27, .ref 28, .ref 29, .ref 30, .int K.2.2]),
  .inl (0, 8, .inl (K.1 0)),
  .inl (0, 8, .inl (K.1 1)),
  .inl (0, 8, .inl (K.1 2)),
  .inl (0, 8, .inl (K.1 3)),
  .inl (0, 8, .inl (K.1 4)),
  .inl (0, 8, .inl (K.1 5)),
  .inl (0, 8, .inl (K.1 6)),
  .inl (0, 8, .inl (K.1 7)),
  .inl (0, 8, .inl K.2.1),
  .inr (2, [.ref 32, .int T.2.1, .int T.2.2.1, .int T.2.2.2.1, .int T.2.2.2.2.1, .int T.2.2.2.2.2]),
  .inl (0, 120, .inl T.1),
  .inl (2, 4, .inr (.inr (.inr (.inr zm_sh)))),
  .inr (1, [.int (S 0).1, .int (S 0).2.1, .ref 35]),
  .inl (1, 40, .inr (.inl (S 0).2.2)),
  .inr (1, [.int (S 1).1, .int (S 1).2.1, .ref 37]),
  .inl (1, 40, .inr (.inl (S 1).2.2)),
  .inr (1, [.int (S 2).1, .int (S 2).2.1, .ref 39]),
  .inl (1, 40, .inr (.inl (S 2).2.2)),
  .inr (1, [.int (S 3).1, .int (S 3).2.1, .ref 41]),
  .inl (1, 40, .inr (.inl (S 3).2.2)),
  .inl (0, 7, .inl F)]
/-- the reference: its row, what is kept, other, aside, findings, got; is one kept; the tape and (taped, from, to, value, isWrong); sheets: bits, sizes, numbers, moved -/
abbrev zR : Type := Int32 × Int32 × Int32 × Int32 × Int32
def hM (s ks ot as F got : Nat → Int32) (kp : Int32) (tp : Nat → Int32) (R : zR) (Bi Sz : Nat → Int32) (N mv : Nat → Int64) : zH := [
  .inr (4, [.ref 44, .ref 45, .ref 46, .ref 47, .ref 48, .ref 49, .int kp, .ref 50, .int R.1, .int R.2.1, .int R.2.2.1, .int R.2.2.2.1, .int R.2.2.2.2, .ref 51, .ref 52, .ref 53, .ref 54]),
  .inl (0, 68, .inl s),
  .inl (0, 68, .inl ks),
  .inl (0, 68, .inl ot),
  .inl (0, 68, .inl as),
  .inl (0, 7, .inl F),
  .inl (0, 8, .inl got),
  .inl (0, 120, .inl tp),
  .inl (0, 4, .inl Bi),
  .inl (0, 4, .inl Sz),
  .inl (1, 160, .inr (.inl N)),
  .inl (1, 40, .inr (.inl mv))]
end
section
-- ===== PART A: goes FIRST, ahead of the names: the tables' words, and 'selects' of the private methods out of them =====
/-- a private method of a class that the tables say can be made, by its rows of tables_1 -/
def lw_okq (q : MethodName × Nat) : Prop := (q.1.cls ≠ "java/lang/invoke/MethodHandle" ∧ q.1.cls ≠ "java/lang/invoke/VarHandle") ∧ Cond.instantiable q.1.cls q.2 ∈ tables_1 ∧ Cond.privateMethod q.1 ∈ tables_1 ∧ Cond.instanceMethod q.1 ∈ tables_1
theorem lw_p0 : lw_okq (⟨"PooledInlaws", "tell", "(I)I"⟩, 7) := ⟨⟨by decide +kernel, by decide +kernel⟩, List.mem_of_getElem? (i := 15) (by decide +kernel), List.mem_of_getElem? (i := 170) (by decide +kernel), List.mem_of_getElem? (i := 171) (by decide +kernel)⟩
theorem lw_p1 : lw_okq (⟨"PooledInlaws", "isNoInlaw", "(I)Z"⟩, 7) := ⟨⟨by decide +kernel, by decide +kernel⟩, List.mem_of_getElem? (i := 15) (by decide +kernel), List.mem_of_getElem? (i := 213) (by decide +kernel), List.mem_of_getElem? (i := 214) (by decide +kernel)⟩
theorem lw_p2 : lw_okq (⟨"PooledInlaws", "isNoCouple", "(I)Z"⟩, 7) := ⟨⟨by decide +kernel, by decide +kernel⟩, List.mem_of_getElem? (i := 15) (by decide +kernel), List.mem_of_getElem? (i := 231) (by decide +kernel), List.mem_of_getElem? (i := 232) (by decide +kernel)⟩
theorem lw_p3 : lw_okq (⟨"PooledInlaws", "put", "([IIIII)I"⟩, 7) := ⟨⟨by decide +kernel, by decide +kernel⟩, List.mem_of_getElem? (i := 15) (by decide +kernel), List.mem_of_getElem? (i := 260) (by decide +kernel), List.mem_of_getElem? (i := 261) (by decide +kernel)⟩
theorem lw_p4 : lw_okq (⟨"PooledInlaws$Hall", "receive", "(I)V"⟩, 14) := ⟨⟨by decide +kernel, by decide +kernel⟩, List.mem_of_getElem? (i := 23) (by decide +kernel), List.mem_of_getElem? (i := 302) (by decide +kernel), List.mem_of_getElem? (i := 303) (by decide +kernel)⟩
theorem lw_p5 : lw_okq (⟨"PooledInlaws$Hall", "chosenBy", "(I)I"⟩, 14) := ⟨⟨by decide +kernel, by decide +kernel⟩, List.mem_of_getElem? (i := 23) (by decide +kernel), List.mem_of_getElem? (i := 306) (by decide +kernel), List.mem_of_getElem? (i := 307) (by decide +kernel)⟩
theorem lw_p6 : lw_okq (⟨"PooledInlaws$Hall", "isFree", "(I)Z"⟩, 14) := ⟨⟨by decide +kernel, by decide +kernel⟩, List.mem_of_getElem? (i := 23) (by decide +kernel), List.mem_of_getElem? (i := 310) (by decide +kernel), List.mem_of_getElem? (i := 311) (by decide +kernel)⟩
theorem lw_p7 : lw_okq (⟨"PooledInlaws$Tape", "advance", "()V"⟩, 6) := ⟨⟨by decide +kernel, by decide +kernel⟩, List.mem_of_getElem? (i := 92) (by decide +kernel), List.mem_of_getElem? (i := 400) (by decide +kernel), List.mem_of_getElem? (i := 401) (by decide +kernel)⟩
theorem lw_p8 : lw_okq (⟨"PooledInlaws$Tape", "takeWord", "()V"⟩, 6) := ⟨⟨by decide +kernel, by decide +kernel⟩, List.mem_of_getElem? (i := 92) (by decide +kernel), List.mem_of_getElem? (i := 407) (by decide +kernel), List.mem_of_getElem? (i := 408) (by decide +kernel)⟩
theorem lw_p9 : lw_okq (⟨"PooledInlaws$Tape", "takeNumber", "()V"⟩, 6) := ⟨⟨by decide +kernel, by decide +kernel⟩, List.mem_of_getElem? (i := 92) (by decide +kernel), List.mem_of_getElem? (i := 414) (by decide +kernel), List.mem_of_getElem? (i := 415) (by decide +kernel)⟩
theorem lw_p10 : lw_okq (⟨"PooledInlaws$Tape", "tellItem", "(LPooledInlaws$Hall;)Z"⟩, 6) := ⟨⟨by decide +kernel, by decide +kernel⟩, List.mem_of_getElem? (i := 92) (by decide +kernel), List.mem_of_getElem? (i := 419) (by decide +kernel), List.mem_of_getElem? (i := 420) (by decide +kernel)⟩
theorem lw_p11 : lw_okq (⟨"PooledInlaws$Tape", "isWord", "(Ljava/lang/String;)Z"⟩, 6) := ⟨⟨by decide +kernel, by decide +kernel⟩, List.mem_of_getElem? (i := 92) (by decide +kernel), List.mem_of_getElem? (i := 432) (by decide +kernel), List.mem_of_getElem? (i := 433) (by decide +kernel)⟩
theorem lw_p12 : lw_okq (⟨"PooledInlaws$Tape", "tellInlaw", "(LPooledInlaws$Hall;I)Z"⟩, 6) := ⟨⟨by decide +kernel, by decide +kernel⟩, List.mem_of_getElem? (i := 92) (by decide +kernel), List.mem_of_getElem? (i := 484) (by decide +kernel), List.mem_of_getElem? (i := 485) (by decide +kernel)⟩
theorem lw_p13 : lw_okq (⟨"PooledInlaws$Tape", "isNumberTo", "(I)Z"⟩, 6) := ⟨⟨by decide +kernel, by decide +kernel⟩, List.mem_of_getElem? (i := 92) (by decide +kernel), List.mem_of_getElem? (i := 490) (by decide +kernel), List.mem_of_getElem? (i := 491) (by decide +kernel)⟩
theorem lw_p14 : lw_okq (⟨"PooledInlaws$Tape", "tellCouple", "(LPooledInlaws$Hall;)Z"⟩, 6) := ⟨⟨by decide +kernel, by decide +kernel⟩, List.mem_of_getElem? (i := 92) (by decide +kernel), List.mem_of_getElem? (i := 496) (by decide +kernel), List.mem_of_getElem? (i := 497) (by decide +kernel)⟩
theorem lw_p15 : lw_okq (⟨"PooledInlaws$Tape", "tellFire", "(LPooledInlaws$Hall;)Z"⟩, 6) := ⟨⟨by decide +kernel, by decide +kernel⟩, List.mem_of_getElem? (i := 92) (by decide +kernel), List.mem_of_getElem? (i := 503) (by decide +kernel), List.mem_of_getElem? (i := 504) (by decide +kernel)⟩
def lw_privs_1 : List (MethodName × Nat) := [(⟨"PooledInlaws", "tell", "(I)I"⟩, 7), (⟨"PooledInlaws", "isNoInlaw", "(I)Z"⟩, 7), (⟨"PooledInlaws", "isNoCouple", "(I)Z"⟩, 7), (⟨"PooledInlaws", "put", "([IIIII)I"⟩, 7), (⟨"PooledInlaws$Hall", "receive", "(I)V"⟩, 14), (⟨"PooledInlaws$Hall", "chosenBy", "(I)I"⟩, 14), (⟨"PooledInlaws$Hall", "isFree", "(I)Z"⟩, 14), (⟨"PooledInlaws$Tape", "advance", "()V"⟩, 6), (⟨"PooledInlaws$Tape", "takeWord", "()V"⟩, 6), (⟨"PooledInlaws$Tape", "takeNumber", "()V"⟩, 6), (⟨"PooledInlaws$Tape", "tellItem", "(LPooledInlaws$Hall;)Z"⟩, 6), (⟨"PooledInlaws$Tape", "isWord", "(Ljava/lang/String;)Z"⟩, 6), (⟨"PooledInlaws$Tape", "tellInlaw", "(LPooledInlaws$Hall;I)Z"⟩, 6), (⟨"PooledInlaws$Tape", "isNumberTo", "(I)Z"⟩, 6), (⟨"PooledInlaws$Tape", "tellCouple", "(LPooledInlaws$Hall;)Z"⟩, 6), (⟨"PooledInlaws$Tape", "tellFire", "(LPooledInlaws$Hall;)Z"⟩, 6)]
theorem lw_r1 : ∀ q ∈ lw_privs_1, lw_okq q := List.forall_mem_cons.mpr ⟨lw_p0, List.forall_mem_cons.mpr ⟨lw_p1, List.forall_mem_cons.mpr ⟨lw_p2, List.forall_mem_cons.mpr ⟨lw_p3, List.forall_mem_cons.mpr ⟨lw_p4, List.forall_mem_cons.mpr ⟨lw_p5, List.forall_mem_cons.mpr ⟨lw_p6, List.forall_mem_cons.mpr ⟨lw_p7, List.forall_mem_cons.mpr ⟨lw_p8, List.forall_mem_cons.mpr ⟨lw_p9, List.forall_mem_cons.mpr ⟨lw_p10, List.forall_mem_cons.mpr ⟨lw_p11, List.forall_mem_cons.mpr ⟨lw_p12, List.forall_mem_cons.mpr ⟨lw_p13, List.forall_mem_cons.mpr ⟨lw_p14, List.forall_mem_cons.mpr ⟨lw_p15, fun _ h => absurd h List.not_mem_nil⟩⟩⟩⟩⟩⟩⟩⟩⟩⟩⟩⟩⟩⟩⟩⟩
theorem lw_p16 : lw_okq (⟨"PooledInlaws$Tape", "tellSit", "(LPooledInlaws$Hall;)Z"⟩, 6) := ⟨⟨by decide +kernel, by decide +kernel⟩, List.mem_of_getElem? (i := 92) (by decide +kernel), List.mem_of_getElem? (i := 508) (by decide +kernel), List.mem_of_getElem? (i := 509) (by decide +kernel)⟩
theorem lw_p17 : lw_okq (⟨"PooledInlaws", "goesAsBooked", "(LPooledInlaws$Sheet;I)Z"⟩, 7) := ⟨⟨by decide +kernel, by decide +kernel⟩, List.mem_of_getElem? (i := 15) (by decide +kernel), List.mem_of_getElem? (i := 563) (by decide +kernel), List.mem_of_getElem? (i := 564) (by decide +kernel)⟩
theorem lw_p18 : lw_okq (⟨"PooledInlawsModel", "becomes", "(II)I"⟩, 17) := ⟨⟨by decide +kernel, by decide +kernel⟩, List.mem_of_getElem? (i := 591) (by decide +kernel), List.mem_of_getElem? (i := 657) (by decide +kernel), List.mem_of_getElem? (i := 658) (by decide +kernel)⟩
theorem lw_p19 : lw_okq (⟨"PooledInlawsModel", "finds", "(I)I"⟩, 17) := ⟨⟨by decide +kernel, by decide +kernel⟩, List.mem_of_getElem? (i := 591) (by decide +kernel), List.mem_of_getElem? (i := 662) (by decide +kernel), List.mem_of_getElem? (i := 663) (by decide +kernel)⟩
theorem lw_p20 : lw_okq (⟨"PooledInlawsModel", "firstCouple", "()I"⟩, 17) := ⟨⟨by decide +kernel, by decide +kernel⟩, List.mem_of_getElem? (i := 591) (by decide +kernel), List.mem_of_getElem? (i := 670) (by decide +kernel), List.mem_of_getElem? (i := 671) (by decide +kernel)⟩
theorem lw_p21 : lw_okq (⟨"PooledInlawsModel", "satOn", "()I"⟩, 17) := ⟨⟨by decide +kernel, by decide +kernel⟩, List.mem_of_getElem? (i := 591) (by decide +kernel), List.mem_of_getElem? (i := 674) (by decide +kernel), List.mem_of_getElem? (i := 675) (by decide +kernel)⟩
theorem lw_p22 : lw_okq (⟨"PooledInlawsModel", "its", "(II)I"⟩, 17) := ⟨⟨by decide +kernel, by decide +kernel⟩, List.mem_of_getElem? (i := 591) (by decide +kernel), List.mem_of_getElem? (i := 678) (by decide +kernel), List.mem_of_getElem? (i := 679) (by decide +kernel)⟩
theorem lw_p23 : lw_okq (⟨"PooledInlawsModel", "wells", "()I"⟩, 17) := ⟨⟨by decide +kernel, by decide +kernel⟩, List.mem_of_getElem? (i := 591) (by decide +kernel), List.mem_of_getElem? (i := 685) (by decide +kernel), List.mem_of_getElem? (i := 686) (by decide +kernel)⟩
theorem lw_p24 : lw_okq (⟨"PooledInlawsModel", "theirs", "(II)I"⟩, 17) := ⟨⟨by decide +kernel, by decide +kernel⟩, List.mem_of_getElem? (i := 591) (by decide +kernel), List.mem_of_getElem? (i := 689) (by decide +kernel), List.mem_of_getElem? (i := 690) (by decide +kernel)⟩
theorem lw_p25 : lw_okq (⟨"PooledInlawsModel", "together", "(I)I"⟩, 17) := ⟨⟨by decide +kernel, by decide +kernel⟩, List.mem_of_getElem? (i := 591) (by decide +kernel), List.mem_of_getElem? (i := 696) (by decide +kernel), List.mem_of_getElem? (i := 697) (by decide +kernel)⟩
theorem lw_p26 : lw_okq (⟨"PooledInlawsModel", "addsInlaw", "(I)I"⟩, 17) := ⟨⟨by decide +kernel, by decide +kernel⟩, List.mem_of_getElem? (i := 591) (by decide +kernel), List.mem_of_getElem? (i := 709) (by decide +kernel), List.mem_of_getElem? (i := 710) (by decide +kernel)⟩
theorem lw_p27 : lw_okq (⟨"PooledInlawsModel", "isInlaw", "(I)Z"⟩, 17) := ⟨⟨by decide +kernel, by decide +kernel⟩, List.mem_of_getElem? (i := 591) (by decide +kernel), List.mem_of_getElem? (i := 717) (by decide +kernel), List.mem_of_getElem? (i := 718) (by decide +kernel)⟩
theorem lw_p28 : lw_okq (⟨"PooledInlawsModel", "chills", "(I)I"⟩, 17) := ⟨⟨by decide +kernel, by decide +kernel⟩, List.mem_of_getElem? (i := 591) (by decide +kernel), List.mem_of_getElem? (i := 721) (by decide +kernel), List.mem_of_getElem? (i := 722) (by decide +kernel)⟩
theorem lw_p29 : lw_okq (⟨"PooledInlawsModel", "isCouple", "(I)Z"⟩, 17) := ⟨⟨by decide +kernel, by decide +kernel⟩, List.mem_of_getElem? (i := 591) (by decide +kernel), List.mem_of_getElem? (i := 729) (by decide +kernel), List.mem_of_getElem? (i := 730) (by decide +kernel)⟩
theorem lw_p30 : lw_okq (⟨"PooledInlawsModel", "charms", "(II)I"⟩, 17) := ⟨⟨by decide +kernel, by decide +kernel⟩, List.mem_of_getElem? (i := 591) (by decide +kernel), List.mem_of_getElem? (i := 734) (by decide +kernel), List.mem_of_getElem? (i := 735) (by decide +kernel)⟩
theorem lw_p31 : lw_okq (⟨"PooledInlawsModel", "does", "(II)I"⟩, 17) := ⟨⟨by decide +kernel, by decide +kernel⟩, List.mem_of_getElem? (i := 591) (by decide +kernel), List.mem_of_getElem? (i := 738) (by decide +kernel), List.mem_of_getElem? (i := 739) (by decide +kernel)⟩
def lw_privs_2 : List (MethodName × Nat) := [(⟨"PooledInlaws$Tape", "tellSit", "(LPooledInlaws$Hall;)Z"⟩, 6), (⟨"PooledInlaws", "goesAsBooked", "(LPooledInlaws$Sheet;I)Z"⟩, 7), (⟨"PooledInlawsModel", "becomes", "(II)I"⟩, 17), (⟨"PooledInlawsModel", "finds", "(I)I"⟩, 17), (⟨"PooledInlawsModel", "firstCouple", "()I"⟩, 17), (⟨"PooledInlawsModel", "satOn", "()I"⟩, 17), (⟨"PooledInlawsModel", "its", "(II)I"⟩, 17), (⟨"PooledInlawsModel", "wells", "()I"⟩, 17), (⟨"PooledInlawsModel", "theirs", "(II)I"⟩, 17), (⟨"PooledInlawsModel", "together", "(I)I"⟩, 17), (⟨"PooledInlawsModel", "addsInlaw", "(I)I"⟩, 17), (⟨"PooledInlawsModel", "isInlaw", "(I)Z"⟩, 17), (⟨"PooledInlawsModel", "chills", "(I)I"⟩, 17), (⟨"PooledInlawsModel", "isCouple", "(I)Z"⟩, 17), (⟨"PooledInlawsModel", "charms", "(II)I"⟩, 17), (⟨"PooledInlawsModel", "does", "(II)I"⟩, 17)]
theorem lw_r2 : ∀ q ∈ lw_privs_2, lw_okq q := List.forall_mem_cons.mpr ⟨lw_p16, List.forall_mem_cons.mpr ⟨lw_p17, List.forall_mem_cons.mpr ⟨lw_p18, List.forall_mem_cons.mpr ⟨lw_p19, List.forall_mem_cons.mpr ⟨lw_p20, List.forall_mem_cons.mpr ⟨lw_p21, List.forall_mem_cons.mpr ⟨lw_p22, List.forall_mem_cons.mpr ⟨lw_p23, List.forall_mem_cons.mpr ⟨lw_p24, List.forall_mem_cons.mpr ⟨lw_p25, List.forall_mem_cons.mpr ⟨lw_p26, List.forall_mem_cons.mpr ⟨lw_p27, List.forall_mem_cons.mpr ⟨lw_p28, List.forall_mem_cons.mpr ⟨lw_p29, List.forall_mem_cons.mpr ⟨lw_p30, List.forall_mem_cons.mpr ⟨lw_p31, fun _ h => absurd h List.not_mem_nil⟩⟩⟩⟩⟩⟩⟩⟩⟩⟩⟩⟩⟩⟩⟩⟩
theorem lw_p32 : lw_okq (⟨"PooledInlawsModel", "thaws", "(II)I"⟩, 17) := ⟨⟨by decide +kernel, by decide +kernel⟩, List.mem_of_getElem? (i := 591) (by decide +kernel), List.mem_of_getElem? (i := 742) (by decide +kernel), List.mem_of_getElem? (i := 743) (by decide +kernel)⟩
theorem lw_p33 : lw_okq (⟨"PooledInlawsModel", "addsCouple", "(I)I"⟩, 17) := ⟨⟨by decide +kernel, by decide +kernel⟩, List.mem_of_getElem? (i := 591) (by decide +kernel), List.mem_of_getElem? (i := 770) (by decide +kernel), List.mem_of_getElem? (i := 771) (by decide +kernel)⟩
theorem lw_p34 : lw_okq (⟨"PooledInlawsModel", "hasNow", "(I)I"⟩, 17) := ⟨⟨by decide +kernel, by decide +kernel⟩, List.mem_of_getElem? (i := 591) (by decide +kernel), List.mem_of_getElem? (i := 779) (by decide +kernel), List.mem_of_getElem? (i := 780) (by decide +kernel)⟩
theorem lw_p35 : lw_okq (⟨"PooledInlawsModel", "laysAside", "()V"⟩, 17) := ⟨⟨by decide +kernel, by decide +kernel⟩, List.mem_of_getElem? (i := 591) (by decide +kernel), List.mem_of_getElem? (i := 783) (by decide +kernel), List.mem_of_getElem? (i := 784) (by decide +kernel)⟩
theorem lw_p36 : lw_okq (⟨"PooledInlawsModel", "sunday", "()V"⟩, 17) := ⟨⟨by decide +kernel, by decide +kernel⟩, List.mem_of_getElem? (i := 591) (by decide +kernel), List.mem_of_getElem? (i := 787) (by decide +kernel), List.mem_of_getElem? (i := 788) (by decide +kernel)⟩
theorem lw_p37 : lw_okq (⟨"PooledInlawsModel", "charmer", "(II)I"⟩, 17) := ⟨⟨by decide +kernel, by decide +kernel⟩, List.mem_of_getElem? (i := 591) (by decide +kernel), List.mem_of_getElem? (i := 791) (by decide +kernel), List.mem_of_getElem? (i := 792) (by decide +kernel)⟩
theorem lw_p38 : lw_okq (⟨"PooledInlawsModel", "has", "(II)V"⟩, 17) := ⟨⟨by decide +kernel, by decide +kernel⟩, List.mem_of_getElem? (i := 591) (by decide +kernel), List.mem_of_getElem? (i := 798) (by decide +kernel), List.mem_of_getElem? (i := 799) (by decide +kernel)⟩
theorem lw_p39 : lw_okq (⟨"PooledInlawsModel", "isAlone", "(I)V"⟩, 17) := ⟨⟨by decide +kernel, by decide +kernel⟩, List.mem_of_getElem? (i := 591) (by decide +kernel), List.mem_of_getElem? (i := 802) (by decide +kernel), List.mem_of_getElem? (i := 803) (by decide +kernel)⟩
theorem lw_p40 : lw_okq (⟨"PooledInlawsModel", "takesBack", "(I)I"⟩, 17) := ⟨⟨by decide +kernel, by decide +kernel⟩, List.mem_of_getElem? (i := 591) (by decide +kernel), List.mem_of_getElem? (i := 806) (by decide +kernel), List.mem_of_getElem? (i := 807) (by decide +kernel)⟩
theorem lw_p41 : lw_okq (⟨"PooledInlawsModel", "sundaysGo", "(I)V"⟩, 17) := ⟨⟨by decide +kernel, by decide +kernel⟩, List.mem_of_getElem? (i := 591) (by decide +kernel), List.mem_of_getElem? (i := 823) (by decide +kernel), List.mem_of_getElem? (i := 824) (by decide +kernel)⟩
theorem lw_p42 : lw_okq (⟨"PooledInlawsModel", "behind", "(II)I"⟩, 17) := ⟨⟨by decide +kernel, by decide +kernel⟩, List.mem_of_getElem? (i := 591) (by decide +kernel), List.mem_of_getElem? (i := 835) (by decide +kernel), List.mem_of_getElem? (i := 836) (by decide +kernel)⟩
theorem lw_p43 : lw_okq (⟨"PooledInlawsModel", "mostBy", "(IIII)I"⟩, 17) := ⟨⟨by decide +kernel, by decide +kernel⟩, List.mem_of_getElem? (i := 591) (by decide +kernel), List.mem_of_getElem? (i := 863) (by decide +kernel), List.mem_of_getElem? (i := 864) (by decide +kernel)⟩
theorem lw_p44 : lw_okq (⟨"PooledInlawsModel", "saves", "()V"⟩, 17) := ⟨⟨by decide +kernel, by decide +kernel⟩, List.mem_of_getElem? (i := 591) (by decide +kernel), List.mem_of_getElem? (i := 900) (by decide +kernel), List.mem_of_getElem? (i := 901) (by decide +kernel)⟩
theorem lw_p45 : lw_okq (⟨"PooledInlawsModel", "token", "()V"⟩, 17) := ⟨⟨by decide +kernel, by decide +kernel⟩, List.mem_of_getElem? (i := 591) (by decide +kernel), List.mem_of_getElem? (i := 904) (by decide +kernel), List.mem_of_getElem? (i := 905) (by decide +kernel)⟩
theorem lw_p46 : lw_okq (⟨"PooledInlawsModel", "byteAt", "(I)I"⟩, 17) := ⟨⟨by decide +kernel, by decide +kernel⟩, List.mem_of_getElem? (i := 591) (by decide +kernel), List.mem_of_getElem? (i := 908) (by decide +kernel), List.mem_of_getElem? (i := 909) (by decide +kernel)⟩
theorem lw_p47 : lw_okq (⟨"PooledInlawsModel", "item", "()V"⟩, 17) := ⟨⟨by decide +kernel, by decide +kernel⟩, List.mem_of_getElem? (i := 591) (by decide +kernel), List.mem_of_getElem? (i := 922) (by decide +kernel), List.mem_of_getElem? (i := 923) (by decide +kernel)⟩
def lw_privs_3 : List (MethodName × Nat) := [(⟨"PooledInlawsModel", "thaws", "(II)I"⟩, 17), (⟨"PooledInlawsModel", "addsCouple", "(I)I"⟩, 17), (⟨"PooledInlawsModel", "hasNow", "(I)I"⟩, 17), (⟨"PooledInlawsModel", "laysAside", "()V"⟩, 17), (⟨"PooledInlawsModel", "sunday", "()V"⟩, 17), (⟨"PooledInlawsModel", "charmer", "(II)I"⟩, 17), (⟨"PooledInlawsModel", "has", "(II)V"⟩, 17), (⟨"PooledInlawsModel", "isAlone", "(I)V"⟩, 17), (⟨"PooledInlawsModel", "takesBack", "(I)I"⟩, 17), (⟨"PooledInlawsModel", "sundaysGo", "(I)V"⟩, 17), (⟨"PooledInlawsModel", "behind", "(II)I"⟩, 17), (⟨"PooledInlawsModel", "mostBy", "(IIII)I"⟩, 17), (⟨"PooledInlawsModel", "saves", "()V"⟩, 17), (⟨"PooledInlawsModel", "token", "()V"⟩, 17), (⟨"PooledInlawsModel", "byteAt", "(I)I"⟩, 17), (⟨"PooledInlawsModel", "item", "()V"⟩, 17)]
theorem lw_r3 : ∀ q ∈ lw_privs_3, lw_okq q := List.forall_mem_cons.mpr ⟨lw_p32, List.forall_mem_cons.mpr ⟨lw_p33, List.forall_mem_cons.mpr ⟨lw_p34, List.forall_mem_cons.mpr ⟨lw_p35, List.forall_mem_cons.mpr ⟨lw_p36, List.forall_mem_cons.mpr ⟨lw_p37, List.forall_mem_cons.mpr ⟨lw_p38, List.forall_mem_cons.mpr ⟨lw_p39, List.forall_mem_cons.mpr ⟨lw_p40, List.forall_mem_cons.mpr ⟨lw_p41, List.forall_mem_cons.mpr ⟨lw_p42, List.forall_mem_cons.mpr ⟨lw_p43, List.forall_mem_cons.mpr ⟨lw_p44, List.forall_mem_cons.mpr ⟨lw_p45, List.forall_mem_cons.mpr ⟨lw_p46, List.forall_mem_cons.mpr ⟨lw_p47, fun _ h => absurd h List.not_mem_nil⟩⟩⟩⟩⟩⟩⟩⟩⟩⟩⟩⟩⟩⟩⟩⟩
theorem lw_p48 : lw_okq (⟨"PooledInlawsModel", "kindHere", "()I"⟩, 17) := ⟨⟨by decide +kernel, by decide +kernel⟩, List.mem_of_getElem? (i := 591) (by decide +kernel), List.mem_of_getElem? (i := 926) (by decide +kernel), List.mem_of_getElem? (i := 927) (by decide +kernel)⟩
theorem lw_p49 : lw_okq (⟨"PooledInlawsModel", "word", "()J"⟩, 17) := ⟨⟨by decide +kernel, by decide +kernel⟩, List.mem_of_getElem? (i := 591) (by decide +kernel), List.mem_of_getElem? (i := 930) (by decide +kernel), List.mem_of_getElem? (i := 931) (by decide +kernel)⟩
theorem lw_p50 : lw_okq (⟨"PooledInlawsModel", "inlawItem", "(I)V"⟩, 17) := ⟨⟨by decide +kernel, by decide +kernel⟩, List.mem_of_getElem? (i := 591) (by decide +kernel), List.mem_of_getElem? (i := 942) (by decide +kernel), List.mem_of_getElem? (i := 943) (by decide +kernel)⟩
theorem lw_p51 : lw_okq (⟨"PooledInlawsModel", "must", "(Z)V"⟩, 17) := ⟨⟨by decide +kernel, by decide +kernel⟩, List.mem_of_getElem? (i := 591) (by decide +kernel), List.mem_of_getElem? (i := 946) (by decide +kernel), List.mem_of_getElem? (i := 947) (by decide +kernel)⟩
theorem lw_p52 : lw_okq (⟨"PooledInlawsModel", "number", "(II)V"⟩, 17) := ⟨⟨by decide +kernel, by decide +kernel⟩, List.mem_of_getElem? (i := 591) (by decide +kernel), List.mem_of_getElem? (i := 951) (by decide +kernel), List.mem_of_getElem? (i := 952) (by decide +kernel)⟩
theorem lw_p53 : lw_okq (⟨"PooledInlawsModel", "coupleItem", "()V"⟩, 17) := ⟨⟨by decide +kernel, by decide +kernel⟩, List.mem_of_getElem? (i := 591) (by decide +kernel), List.mem_of_getElem? (i := 957) (by decide +kernel), List.mem_of_getElem? (i := 958) (by decide +kernel)⟩
theorem lw_p54 : lw_okq (⟨"PooledInlawsModel", "fireItem", "()V"⟩, 17) := ⟨⟨by decide +kernel, by decide +kernel⟩, List.mem_of_getElem? (i := 591) (by decide +kernel), List.mem_of_getElem? (i := 963) (by decide +kernel), List.mem_of_getElem? (i := 964) (by decide +kernel)⟩
theorem lw_p55 : lw_okq (⟨"PooledInlawsModel", "sitItem", "()V"⟩, 17) := ⟨⟨by decide +kernel, by decide +kernel⟩, List.mem_of_getElem? (i := 591) (by decide +kernel), List.mem_of_getElem? (i := 968) (by decide +kernel), List.mem_of_getElem? (i := 969) (by decide +kernel)⟩
theorem lw_p56 : lw_okq (⟨"PooledInlawsModel", "putsBack", "()V"⟩, 17) := ⟨⟨by decide +kernel, by decide +kernel⟩, List.mem_of_getElem? (i := 591) (by decide +kernel), List.mem_of_getElem? (i := 972) (by decide +kernel), List.mem_of_getElem? (i := 973) (by decide +kernel)⟩
theorem lw_p57 : lw_okq (⟨"PooledInlawsModel", "wrongSheet", "(I)I"⟩, 17) := ⟨⟨by decide +kernel, by decide +kernel⟩, List.mem_of_getElem? (i := 591) (by decide +kernel), List.mem_of_getElem? (i := 988) (by decide +kernel), List.mem_of_getElem? (i := 989) (by decide +kernel)⟩
theorem lw_p58 : lw_okq (⟨"PooledInlawsModel", "isBook", "(II)Z"⟩, 17) := ⟨⟨by decide +kernel, by decide +kernel⟩, List.mem_of_getElem? (i := 591) (by decide +kernel), List.mem_of_getElem? (i := 1012) (by decide +kernel), List.mem_of_getElem? (i := 1013) (by decide +kernel)⟩
def lw_privs_4 : List (MethodName × Nat) := [(⟨"PooledInlawsModel", "kindHere", "()I"⟩, 17), (⟨"PooledInlawsModel", "word", "()J"⟩, 17), (⟨"PooledInlawsModel", "inlawItem", "(I)V"⟩, 17), (⟨"PooledInlawsModel", "must", "(Z)V"⟩, 17), (⟨"PooledInlawsModel", "number", "(II)V"⟩, 17), (⟨"PooledInlawsModel", "coupleItem", "()V"⟩, 17), (⟨"PooledInlawsModel", "fireItem", "()V"⟩, 17), (⟨"PooledInlawsModel", "sitItem", "()V"⟩, 17), (⟨"PooledInlawsModel", "putsBack", "()V"⟩, 17), (⟨"PooledInlawsModel", "wrongSheet", "(I)I"⟩, 17), (⟨"PooledInlawsModel", "isBook", "(II)Z"⟩, 17)]
theorem lw_r4 : ∀ q ∈ lw_privs_4, lw_okq q := List.forall_mem_cons.mpr ⟨lw_p48, List.forall_mem_cons.mpr ⟨lw_p49, List.forall_mem_cons.mpr ⟨lw_p50, List.forall_mem_cons.mpr ⟨lw_p51, List.forall_mem_cons.mpr ⟨lw_p52, List.forall_mem_cons.mpr ⟨lw_p53, List.forall_mem_cons.mpr ⟨lw_p54, List.forall_mem_cons.mpr ⟨lw_p55, List.forall_mem_cons.mpr ⟨lw_p56, List.forall_mem_cons.mpr ⟨lw_p57, List.forall_mem_cons.mpr ⟨lw_p58, fun _ h => absurd h List.not_mem_nil⟩⟩⟩⟩⟩⟩⟩⟩⟩⟩⟩
def lw_privs : List (MethodName × Nat) := lw_privs_1 ++ (lw_privs_2 ++ (lw_privs_3 ++ (lw_privs_4)))
def lw_tbl : List Cond := k2_sels lw_privs ++ tables_1
theorem lw_privs_ok : ∀ q ∈ lw_privs, lw_okq q := by
  show ∀ q ∈ lw_privs_1 ++ (lw_privs_2 ++ (lw_privs_3 ++ (lw_privs_4))), lw_okq q
  exact List.forall_mem_append.mpr ⟨lw_r1, List.forall_mem_append.mpr ⟨lw_r2, List.forall_mem_append.mpr ⟨lw_r3, lw_r4⟩⟩⟩
/-- the words that may go from a caller to a callee -/
def zBT : List Cond := lw_tbl.filter goodWord
theorem zBT_in {w : Cond} (h : w ∈ lw_tbl) (g : goodWord w = true) : w ∈ zBT := List.mem_filter.mpr ⟨h, g⟩
theorem zBT_good {w : Cond} (h : w ∈ zBT) : (w.onTables && w.keeps) = true ∨ ∃ ty, w = .arrayClass ty := good_of_word (List.mem_filter.mp h).2
end
section
/-! NAMES (of the printed names: classes, fields, codes, method names) -/
def RX0 : String := "PooledInlaws$Hall"
def TX0 : u_T := fun k => match k with
  | 0 => ("PooledInlaws$Hall", "sunday", "I", false)
  | 1 => ("PooledInlaws$Hall", "fire", "I", false)
  | 2 => ("PooledInlaws$Hall", "inlaws", "I", false)
  | 3 => ("PooledInlaws$Hall", "kindOf", "[I", true)
  | 4 => ("PooledInlaws$Hall", "warmOf", "[I", true)
  | 5 => ("PooledInlaws$Hall", "satOf", "[I", true)
  | 6 => ("PooledInlaws$Hall", "aloneOf", "[I", true)
  | 7 => ("PooledInlaws$Hall", "hadOf", "[I", true)
  | 8 => ("PooledInlaws$Hall", "couples", "I", false)
  | 9 => ("PooledInlaws$Hall", "loudOf", "[I", true)
  | 10 => ("PooledInlaws$Hall", "wellOf", "[I", true)
  | 11 => ("PooledInlaws$Hall", "lastOf", "[I", true)
  | 12 => ("PooledInlaws$Hall", "hasOf", "[I", true)
  | _ => ("PooledInlaws$Hall", "taken", "I", false)
def tyX0 : Nat → FieldType := fun k => match k with
  | 0 => .int
  | 1 => .int
  | 2 => .int
  | 3 => .array .int
  | 4 => .array .int
  | 5 => .array .int
  | 6 => .array .int
  | 7 => .array .int
  | 8 => .int
  | 9 => .array .int
  | 10 => .array .int
  | 11 => .array .int
  | 12 => .array .int
  | _ => .int
abbrev wsX00 : List Cond := u_ws RX0 TX0 14
theorem nmX0 : ∀ a, a < 14 → ∀ b, b < 14 → a ≠ b → (TX0 a).2.1 ≠ (TX0 b).2.1 := by decide +kernel
theorem tyX0_ok : ∀ k, k < 14 → parseFieldDescriptor (TX0 k).2.2.1 = some (tyX0 k) := by decide +kernel
abbrev cX0_init : ByteArray := prog_2_method_1_code
def yX0_init : MethodName := ⟨RX0, "<init>", "()V"⟩
abbrev cX0_become : ByteArray := prog_2_method_2_code
def yX0_become : MethodName := ⟨RX0, "become", "(LPooledInlaws$Hall;)V"⟩
abbrev cX0_addInlaw : ByteArray := prog_2_method_3_code
def yX0_addInlaw : MethodName := ⟨RX0, "addInlaw", "(I)I"⟩
abbrev cX0_addCouple : ByteArray := prog_2_method_4_code
def yX0_addCouple : MethodName := ⟨RX0, "addCouple", "(I)I"⟩
abbrev cX0_firstCouple : ByteArray := prog_2_method_5_code
def yX0_firstCouple : MethodName := ⟨RX0, "firstCouple", "()I"⟩
abbrev cX0_satOnes : ByteArray := prog_2_method_6_code
def yX0_satOnes : MethodName := ⟨RX0, "satOnes", "()I"⟩
abbrev cX0_wellOfAll : ByteArray := prog_2_method_7_code
def yX0_wellOfAll : MethodName := ⟨RX0, "wellOfAll", "()I"⟩
abbrev cX0_warmOfAll : ByteArray := prog_2_method_8_code
def yX0_warmOfAll : MethodName := ⟨RX0, "warmOfAll", "()I"⟩
abbrev cX0_hadOfAll : ByteArray := prog_2_method_9_code
def yX0_hadOfAll : MethodName := ⟨RX0, "hadOfAll", "()I"⟩
abbrev cX0_charmsOf : ByteArray := prog_2_method_10_code
def yX0_charmsOf : MethodName := ⟨RX0, "charmsOf", "(II)I"⟩
abbrev cX0_doesOf : ByteArray := prog_2_method_11_code
def yX0_doesOf : MethodName := ⟨RX0, "doesOf", "(II)I"⟩
abbrev cX0_thawsOf : ByteArray := prog_2_method_12_code
def yX0_thawsOf : MethodName := ⟨RX0, "thawsOf", "(II)I"⟩
abbrev cX0_chillsOf : ByteArray := prog_2_method_13_code
def yX0_chillsOf : MethodName := ⟨RX0, "chillsOf", "(I)I"⟩
abbrev cX0_goSundays : ByteArray := prog_2_method_14_code
def yX0_goSundays : MethodName := ⟨RX0, "goSundays", "(I)V"⟩
abbrev cX0_goOneSunday : ByteArray := prog_2_method_15_code
def yX0_goOneSunday : MethodName := ⟨RX0, "goOneSunday", "()V"⟩
abbrev cX0_receive : ByteArray := prog_2_method_16_code
def yX0_receive : MethodName := ⟨RX0, "receive", "(I)V"⟩
abbrev cX0_chosenBy : ByteArray := prog_2_method_17_code
def yX0_chosenBy : MethodName := ⟨RX0, "chosenBy", "(I)I"⟩
abbrev cX0_isFree : ByteArray := prog_2_method_18_code
def yX0_isFree : MethodName := ⟨RX0, "isFree", "(I)Z"⟩
abbrev cX0_sum : ByteArray := prog_2_method_19_code
def yX0_sum : MethodName := ⟨RX0, "sum", "([II)I"⟩
abbrev cX0_hold : ByteArray := prog_2_method_20_code
def yX0_hold : MethodName := ⟨RX0, "hold", "(III)I"⟩
def RX1 : String := "PooledInlaws$Kinds"
def TX1 : u_T := fun k => match k with
  | _ => ("", "", "", false)
def tyX1 : Nat → FieldType := fun k => match k with
  | _ => .int
abbrev wsX10 : List Cond := u_ws RX1 TX1 0
theorem nmX1 : ∀ a, a < 0 → ∀ b, b < 0 → a ≠ b → (TX1 a).2.1 ≠ (TX1 b).2.1 := by decide +kernel
theorem tyX1_ok : ∀ k, k < 0 → parseFieldDescriptor (TX1 k).2.2.1 = some (tyX1 k) := by decide +kernel
abbrev cX1_isUnder : ByteArray := prog_3_method_2_code
def yX1_isUnder : MethodName := ⟨RX1, "isUnder", "(II)Z"⟩
abbrev cX1_nameOf : ByteArray := prog_3_method_3_code
def yX1_nameOf : MethodName := ⟨RX1, "nameOf", "(I)Ljava/lang/String;"⟩
abbrev cX1_charms : ByteArray := prog_3_method_4_code
def yX1_charms : MethodName := ⟨RX1, "charms", "(IIIZI)I"⟩
abbrev cX1_does : ByteArray := prog_3_method_5_code
def yX1_does : MethodName := ⟨RX1, "does", "(IIII)I"⟩
abbrev cX1_thaws : ByteArray := prog_3_method_6_code
def yX1_thaws : MethodName := ⟨RX1, "thaws", "(II)I"⟩
abbrev cX1_chills : ByteArray := prog_3_method_7_code
def yX1_chills : MethodName := ⟨RX1, "chills", "(II)I"⟩
def RX2 : String := "PooledInlaws$Sheet"
def TX2 : u_T := fun k => match k with
  | 0 => ("PooledInlaws$Sheet", "bits", "I", false)
  | 1 => ("PooledInlaws$Sheet", "size", "I", false)
  | _ => ("PooledInlaws$Sheet", "numbers", "[J", true)
def tyX2 : Nat → FieldType := fun k => match k with
  | 0 => .int
  | 1 => .int
  | _ => .array .long
abbrev wsX20 : List Cond := u_ws RX2 TX2 3
theorem nmX2 : ∀ a, a < 3 → ∀ b, b < 3 → a ≠ b → (TX2 a).2.1 ≠ (TX2 b).2.1 := by decide +kernel
theorem tyX2_ok : ∀ k, k < 3 → parseFieldDescriptor (TX2 k).2.2.1 = some (tyX2 k) := by decide +kernel
abbrev cX2_init : ByteArray := prog_4_method_1_code
def yX2_init : MethodName := ⟨RX2, "<init>", "()V"⟩
abbrev cX2_isMissing : ByteArray := prog_4_method_2_code
def yX2_isMissing : MethodName := ⟨RX2, "isMissing", "()Z"⟩
abbrev cX2_lay : ByteArray := prog_4_method_3_code
def yX2_lay : MethodName := ⟨RX2, "lay", "(II)V"⟩
abbrev cX2_put : ByteArray := prog_4_method_4_code
def yX2_put : MethodName := ⟨RX2, "put", "(IJ)V"⟩
abbrev cX2_hasRun : ByteArray := prog_4_method_5_code
def yX2_hasRun : MethodName := ⟨RX2, "hasRun", "(II)Z"⟩
def RX3 : String := "PooledInlaws$Tape"
def TX3 : u_T := fun k => match k with
  | 0 => ("PooledInlaws$Tape", "bytes", "[I", true)
  | 1 => ("PooledInlaws$Tape", "length", "I", false)
  | 2 => ("PooledInlaws$Tape", "sort", "I", false)
  | 3 => ("PooledInlaws$Tape", "start", "I", false)
  | 4 => ("PooledInlaws$Tape", "behind", "I", false)
  | _ => ("PooledInlaws$Tape", "number", "I", false)
def tyX3 : Nat → FieldType := fun k => match k with
  | 0 => .array .int
  | 1 => .int
  | 2 => .int
  | 3 => .int
  | 4 => .int
  | _ => .int
abbrev wsX30 : List Cond := u_ws RX3 TX3 6
theorem nmX3 : ∀ a, a < 6 → ∀ b, b < 6 → a ≠ b → (TX3 a).2.1 ≠ (TX3 b).2.1 := by decide +kernel
theorem tyX3_ok : ∀ k, k < 6 → parseFieldDescriptor (TX3 k).2.2.1 = some (tyX3 k) := by decide +kernel
abbrev cX3_init : ByteArray := prog_5_method_1_code
def yX3_init : MethodName := ⟨RX3, "<init>", "()V"⟩
abbrev cX3_tellTo : ByteArray := prog_5_method_2_code
def yX3_tellTo : MethodName := ⟨RX3, "tellTo", "(LPooledInlaws$Hall;)I"⟩
abbrev cX3_tellItem : ByteArray := prog_5_method_3_code
def yX3_tellItem : MethodName := ⟨RX3, "tellItem", "(LPooledInlaws$Hall;)Z"⟩
abbrev cX3_tellInlaw : ByteArray := prog_5_method_4_code
def yX3_tellInlaw : MethodName := ⟨RX3, "tellInlaw", "(LPooledInlaws$Hall;I)Z"⟩
abbrev cX3_tellCouple : ByteArray := prog_5_method_5_code
def yX3_tellCouple : MethodName := ⟨RX3, "tellCouple", "(LPooledInlaws$Hall;)Z"⟩
abbrev cX3_tellFire : ByteArray := prog_5_method_6_code
def yX3_tellFire : MethodName := ⟨RX3, "tellFire", "(LPooledInlaws$Hall;)Z"⟩
abbrev cX3_tellSit : ByteArray := prog_5_method_7_code
def yX3_tellSit : MethodName := ⟨RX3, "tellSit", "(LPooledInlaws$Hall;)Z"⟩
abbrev cX3_advance : ByteArray := prog_5_method_8_code
def yX3_advance : MethodName := ⟨RX3, "advance", "()V"⟩
abbrev cX3_takeWord : ByteArray := prog_5_method_9_code
def yX3_takeWord : MethodName := ⟨RX3, "takeWord", "()V"⟩
abbrev cX3_takeNumber : ByteArray := prog_5_method_10_code
def yX3_takeNumber : MethodName := ⟨RX3, "takeNumber", "()V"⟩
abbrev cX3_isWord : ByteArray := prog_5_method_11_code
def yX3_isWord : MethodName := ⟨RX3, "isWord", "(Ljava/lang/String;)Z"⟩
abbrev cX3_isNumberTo : ByteArray := prog_5_method_12_code
def yX3_isNumberTo : MethodName := ⟨RX3, "isNumberTo", "(I)Z"⟩
abbrev cX3_isLetter : ByteArray := prog_5_method_13_code
def yX3_isLetter : MethodName := ⟨RX3, "isLetter", "(I)Z"⟩
abbrev cX3_isDigit : ByteArray := prog_5_method_14_code
def yX3_isDigit : MethodName := ⟨RX3, "isDigit", "(I)Z"⟩
def RX4 : String := "PooledInlaws"
def TX4 : u_T := fun k => match k with
  | 0 => ("PooledInlaws", "hall", "LPooledInlaws$Hall;", true)
  | 1 => ("PooledInlaws", "ahead", "LPooledInlaws$Hall;", true)
  | 2 => ("PooledInlaws", "kept", "LPooledInlaws$Hall;", true)
  | 3 => ("PooledInlaws", "isKept", "Z", false)
  | 4 => ("PooledInlaws", "tape", "LPooledInlaws$Tape;", true)
  | 5 => ("PooledInlaws", "sheets", "[LPooledInlaws$Sheet;", true)
  | _ => ("PooledInlaws", "findings", "[I", true)
def tyX4 : Nat → FieldType := fun k => match k with
  | 0 => .object "PooledInlaws$Hall"
  | 1 => .object "PooledInlaws$Hall"
  | 2 => .object "PooledInlaws$Hall"
  | 3 => .boolean
  | 4 => .object "PooledInlaws$Tape"
  | 5 => .array (.object "PooledInlaws$Sheet")
  | _ => .array .int
abbrev wsX40 : List Cond := u_ws RX4 TX4 7
theorem nmX4 : ∀ a, a < 7 → ∀ b, b < 7 → a ≠ b → (TX4 a).2.1 ≠ (TX4 b).2.1 := by decide +kernel
theorem tyX4_ok : ∀ k, k < 7 → parseFieldDescriptor (TX4 k).2.2.1 = some (tyX4 k) := by decide +kernel
abbrev cX4_init : ByteArray := prog_1_method_1_code
def yX4_init : MethodName := ⟨RX4, "<init>", "()V"⟩
abbrev cX4_fire : ByteArray := prog_1_method_2_code
def yX4_fire : MethodName := ⟨RX4, "fire", "(I)I"⟩
abbrev cX4_now : ByteArray := prog_1_method_3_code
def yX4_now : MethodName := ⟨RX4, "now", "(I)I"⟩
abbrev cX4_inlaw : ByteArray := prog_1_method_4_code
def yX4_inlaw : MethodName := ⟨RX4, "inlaw", "(I)I"⟩
abbrev cX4_of : ByteArray := prog_1_method_5_code
def yX4_of : MethodName := ⟨RX4, "of", "(II)I"⟩
abbrev cX4_with : ByteArray := prog_1_method_6_code
def yX4_with : MethodName := ⟨RX4, "with", "(III)I"⟩
abbrev cX4_set : ByteArray := prog_1_method_7_code
def yX4_set : MethodName := ⟨RX4, "set", "(III)I"⟩
abbrev cX4_turn : ByteArray := prog_1_method_8_code
def yX4_turn : MethodName := ⟨RX4, "turn", "(II)I"⟩
abbrev cX4_as : ByteArray := prog_1_method_9_code
def yX4_as : MethodName := ⟨RX4, "as", "(II)I"⟩
abbrev cX4_couple : ByteArray := prog_1_method_10_code
def yX4_couple : MethodName := ⟨RX4, "couple", "(I)I"⟩
abbrev cX4_coupleOf : ByteArray := prog_1_method_11_code
def yX4_coupleOf : MethodName := ⟨RX4, "coupleOf", "(II)I"⟩
abbrev cX4_give : ByteArray := prog_1_method_12_code
def yX4_give : MethodName := ⟨RX4, "give", "(III)I"⟩
abbrev cX4_sundays : ByteArray := prog_1_method_13_code
def yX4_sundays : MethodName := ⟨RX4, "sundays", "(I)I"⟩
abbrev cX4_on : ByteArray := prog_1_method_14_code
def yX4_on : MethodName := ⟨RX4, "on", "(III)I"⟩
abbrev cX4_then : ByteArray := prog_1_method_15_code
def yX4_then : MethodName := ⟨RX4, "then", "(III)I"⟩
abbrev cX4_meets : ByteArray := prog_1_method_16_code
def yX4_meets : MethodName := ⟨RX4, "meets", "(II)I"⟩
abbrev cX4_well : ByteArray := prog_1_method_17_code
def yX4_well : MethodName := ⟨RX4, "well", "(II)I"⟩
abbrev cX4_cold : ByteArray := prog_1_method_18_code
def yX4_cold : MethodName := ⟨RX4, "cold", "(I)I"⟩
abbrev cX4_kind : ByteArray := prog_1_method_19_code
def yX4_kind : MethodName := ⟨RX4, "kind", "(II)I"⟩
abbrev cX4_warm : ByteArray := prog_1_method_20_code
def yX4_warm : MethodName := ⟨RX4, "warm", "(III)I"⟩
abbrev cX4_sit : ByteArray := prog_1_method_21_code
def yX4_sit : MethodName := ⟨RX4, "sit", "(I)I"⟩
abbrev cX4_loud : ByteArray := prog_1_method_22_code
def yX4_loud : MethodName := ⟨RX4, "loud", "(II)I"⟩
abbrev cX4_stoke : ByteArray := prog_1_method_23_code
def yX4_stoke : MethodName := ⟨RX4, "stoke", "(I)I"⟩
abbrev cX4_lonely : ByteArray := prog_1_method_24_code
def yX4_lonely : MethodName := ⟨RX4, "lonely", "(I)I"⟩
abbrev cX4_feed : ByteArray := prog_1_method_25_code
def yX4_feed : MethodName := ⟨RX4, "feed", "(II)I"⟩
abbrev cX4_wipe : ByteArray := prog_1_method_26_code
def yX4_wipe : MethodName := ⟨RX4, "wipe", "()I"⟩
abbrev cX4_institute : ByteArray := prog_1_method_27_code
def yX4_institute : MethodName := ⟨RX4, "institute", "()I"⟩
abbrev cX4_sheet : ByteArray := prog_1_method_28_code
def yX4_sheet : MethodName := ⟨RX4, "sheet", "(III)I"⟩
abbrev cX4_write : ByteArray := prog_1_method_29_code
def yX4_write : MethodName := ⟨RX4, "write", "(IIJ)J"⟩
abbrev cX4_copy : ByteArray := prog_1_method_30_code
def yX4_copy : MethodName := ⟨RX4, "copy", "(IIIII)I"⟩
abbrev cX4_lays : ByteArray := prog_1_method_31_code
def yX4_lays : MethodName := ⟨RX4, "lays", "(I)I"⟩
abbrev cX4_book : ByteArray := prog_1_method_32_code
def yX4_book : MethodName := ⟨RX4, "book", "(II)I"⟩
abbrev cX4_read : ByteArray := prog_1_method_33_code
def yX4_read : MethodName := ⟨RX4, "read", "(III)I"⟩
abbrev cX4_image : ByteArray := prog_1_method_34_code
def yX4_image : MethodName := ⟨RX4, "image", "()I"⟩
abbrev cX4_undo : ByteArray := prog_1_method_35_code
def yX4_undo : MethodName := ⟨RX4, "undo", "()I"⟩
abbrev cX4_tear : ByteArray := prog_1_method_36_code
def yX4_tear : MethodName := ⟨RX4, "tear", "()I"⟩
abbrev cX4_count : ByteArray := prog_1_method_37_code
def yX4_count : MethodName := ⟨RX4, "count", "(I)I"⟩
abbrev cX4_status : ByteArray := prog_1_method_38_code
def yX4_status : MethodName := ⟨RX4, "status", "(I)I"⟩
abbrev cX4_tell : ByteArray := prog_1_method_39_code
def yX4_tell : MethodName := ⟨RX4, "tell", "(I)I"⟩
abbrev cX4_put : ByteArray := prog_1_method_40_code
def yX4_put : MethodName := ⟨RX4, "put", "([IIIII)I"⟩
abbrev cX4_goesAsBooked : ByteArray := prog_1_method_41_code
def yX4_goesAsBooked : MethodName := ⟨RX4, "goesAsBooked", "(LPooledInlaws$Sheet;I)Z"⟩
abbrev cX4_isNoInlaw : ByteArray := prog_1_method_42_code
def yX4_isNoInlaw : MethodName := ⟨RX4, "isNoInlaw", "(I)Z"⟩
abbrev cX4_isNoCouple : ByteArray := prog_1_method_43_code
def yX4_isNoCouple : MethodName := ⟨RX4, "isNoCouple", "(I)Z"⟩
abbrev cX4_isNoKind : ByteArray := prog_1_method_44_code
def yX4_isNoKind : MethodName := ⟨RX4, "isNoKind", "(I)Z"⟩
abbrev cX4_isNoSheet : ByteArray := prog_1_method_45_code
def yX4_isNoSheet : MethodName := ⟨RX4, "isNoSheet", "(I)Z"⟩
abbrev cX4_isOutside : ByteArray := prog_1_method_46_code
def yX4_isOutside : MethodName := ⟨RX4, "isOutside", "(III)Z"⟩
def RX5 : String := "PooledInlawsModel"
def TX5 : u_T := fun k => match k with
  | 0 => ("PooledInlawsModel", "s", "[I", true)
  | 1 => ("PooledInlawsModel", "keptS", "[I", true)
  | 2 => ("PooledInlawsModel", "other", "[I", true)
  | 3 => ("PooledInlawsModel", "aside", "[I", true)
  | 4 => ("PooledInlawsModel", "statuses", "[I", true)
  | 5 => ("PooledInlawsModel", "got", "[I", true)
  | 6 => ("PooledInlawsModel", "isKept", "Z", false)
  | 7 => ("PooledInlawsModel", "tape", "[I", true)
  | 8 => ("PooledInlawsModel", "taped", "I", false)
  | 9 => ("PooledInlawsModel", "from", "I", false)
  | 10 => ("PooledInlawsModel", "to", "I", false)
  | 11 => ("PooledInlawsModel", "value", "I", false)
  | 12 => ("PooledInlawsModel", "isWrong", "Z", false)
  | 13 => ("PooledInlawsModel", "bitsOf", "[I", true)
  | 14 => ("PooledInlawsModel", "sizeOf", "[I", true)
  | 15 => ("PooledInlawsModel", "numbers", "[J", true)
  | _ => ("PooledInlawsModel", "moved", "[J", true)
def tyX5 : Nat → FieldType := fun k => match k with
  | 0 => .array .int
  | 1 => .array .int
  | 2 => .array .int
  | 3 => .array .int
  | 4 => .array .int
  | 5 => .array .int
  | 6 => .boolean
  | 7 => .array .int
  | 8 => .int
  | 9 => .int
  | 10 => .int
  | 11 => .int
  | 12 => .boolean
  | 13 => .array .int
  | 14 => .array .int
  | 15 => .array .long
  | _ => .array .long
abbrev wsX50 : List Cond := u_ws RX5 TX5 17
theorem nmX5 : ∀ a, a < 17 → ∀ b, b < 17 → a ≠ b → (TX5 a).2.1 ≠ (TX5 b).2.1 := by decide +kernel
theorem tyX5_ok : ∀ k, k < 17 → parseFieldDescriptor (TX5 k).2.2.1 = some (tyX5 k) := by decide +kernel
abbrev cX5_init : ByteArray := prog_7_method_1_code
def yX5_init : MethodName := ⟨RX5, "<init>", "()V"⟩
abbrev cX5_in : ByteArray := prog_7_method_2_code
def yX5_in : MethodName := ⟨RX5, "in", "(JJJ)Z"⟩
abbrev cX5_finds : ByteArray := prog_7_method_3_code
def yX5_finds : MethodName := ⟨RX5, "finds", "(I)I"⟩
abbrev cX5_saves : ByteArray := prog_7_method_4_code
def yX5_saves : MethodName := ⟨RX5, "saves", "()V"⟩
abbrev cX5_putsBack : ByteArray := prog_7_method_5_code
def yX5_putsBack : MethodName := ⟨RX5, "putsBack", "()V"⟩
abbrev cX5_laysAside : ByteArray := prog_7_method_6_code
def yX5_laysAside : MethodName := ⟨RX5, "laysAside", "()V"⟩
abbrev cX5_takesBack : ByteArray := prog_7_method_7_code
def yX5_takesBack : MethodName := ⟨RX5, "takesBack", "(I)I"⟩
abbrev cX5_becomes : ByteArray := prog_7_method_8_code
def yX5_becomes : MethodName := ⟨RX5, "becomes", "(II)I"⟩
abbrev cX5_spot : ByteArray := prog_7_method_9_code
def yX5_spot : MethodName := ⟨RX5, "spot", "(II)I"⟩
abbrev cX5_coupleSpot : ByteArray := prog_7_method_10_code
def yX5_coupleSpot : MethodName := ⟨RX5, "coupleSpot", "(II)I"⟩
abbrev cX5_its : ByteArray := prog_7_method_11_code
def yX5_its : MethodName := ⟨RX5, "its", "(II)I"⟩
abbrev cX5_theirs : ByteArray := prog_7_method_12_code
def yX5_theirs : MethodName := ⟨RX5, "theirs", "(II)I"⟩
abbrev cX5_isInlaw : ByteArray := prog_7_method_13_code
def yX5_isInlaw : MethodName := ⟨RX5, "isInlaw", "(I)Z"⟩
abbrev cX5_isCouple : ByteArray := prog_7_method_14_code
def yX5_isCouple : MethodName := ⟨RX5, "isCouple", "(I)Z"⟩
abbrev cX5_isKind : ByteArray := prog_7_method_15_code
def yX5_isKind : MethodName := ⟨RX5, "isKind", "(I)Z"⟩
abbrev cX5_held : ByteArray := prog_7_method_16_code
def yX5_held : MethodName := ⟨RX5, "held", "(III)I"⟩
abbrev cX5_together : ByteArray := prog_7_method_17_code
def yX5_together : MethodName := ⟨RX5, "together", "(I)I"⟩
abbrev cX5_wells : ByteArray := prog_7_method_18_code
def yX5_wells : MethodName := ⟨RX5, "wells", "()I"⟩
abbrev cX5_fire : ByteArray := prog_7_method_19_code
def yX5_fire : MethodName := ⟨RX5, "fire", "(I)I"⟩
abbrev cX5_firstCouple : ByteArray := prog_7_method_20_code
def yX5_firstCouple : MethodName := ⟨RX5, "firstCouple", "()I"⟩
abbrev cX5_satOn : ByteArray := prog_7_method_21_code
def yX5_satOn : MethodName := ⟨RX5, "satOn", "()I"⟩
abbrev cX5_now : ByteArray := prog_7_method_22_code
def yX5_now : MethodName := ⟨RX5, "now", "(I)I"⟩
abbrev cX5_charms : ByteArray := prog_7_method_23_code
def yX5_charms : MethodName := ⟨RX5, "charms", "(II)I"⟩
abbrev cX5_does : ByteArray := prog_7_method_24_code
def yX5_does : MethodName := ⟨RX5, "does", "(II)I"⟩
abbrev cX5_thaws : ByteArray := prog_7_method_25_code
def yX5_thaws : MethodName := ⟨RX5, "thaws", "(II)I"⟩
abbrev cX5_chills : ByteArray := prog_7_method_26_code
def yX5_chills : MethodName := ⟨RX5, "chills", "(I)I"⟩
abbrev cX5_addsInlaw : ByteArray := prog_7_method_27_code
def yX5_addsInlaw : MethodName := ⟨RX5, "addsInlaw", "(I)I"⟩
abbrev cX5_inlaw : ByteArray := prog_7_method_28_code
def yX5_inlaw : MethodName := ⟨RX5, "inlaw", "(I)I"⟩
abbrev cX5_of : ByteArray := prog_7_method_29_code
def yX5_of : MethodName := ⟨RX5, "of", "(II)I"⟩
abbrev cX5_with : ByteArray := prog_7_method_30_code
def yX5_with : MethodName := ⟨RX5, "with", "(III)I"⟩
abbrev cX5_set : ByteArray := prog_7_method_31_code
def yX5_set : MethodName := ⟨RX5, "set", "(III)I"⟩
abbrev cX5_turn : ByteArray := prog_7_method_32_code
def yX5_turn : MethodName := ⟨RX5, "turn", "(II)I"⟩
abbrev cX5_isUnder : ByteArray := prog_7_method_33_code
def yX5_isUnder : MethodName := ⟨RX5, "isUnder", "(II)Z"⟩
abbrev cX5_as : ByteArray := prog_7_method_34_code
def yX5_as : MethodName := ⟨RX5, "as", "(II)I"⟩
abbrev cX5_addsCouple : ByteArray := prog_7_method_35_code
def yX5_addsCouple : MethodName := ⟨RX5, "addsCouple", "(I)I"⟩
abbrev cX5_couple : ByteArray := prog_7_method_36_code
def yX5_couple : MethodName := ⟨RX5, "couple", "(I)I"⟩
abbrev cX5_hasNow : ByteArray := prog_7_method_37_code
def yX5_hasNow : MethodName := ⟨RX5, "hasNow", "(I)I"⟩
abbrev cX5_coupleOf : ByteArray := prog_7_method_38_code
def yX5_coupleOf : MethodName := ⟨RX5, "coupleOf", "(II)I"⟩
abbrev cX5_give : ByteArray := prog_7_method_39_code
def yX5_give : MethodName := ⟨RX5, "give", "(III)I"⟩
abbrev cX5_charmer : ByteArray := prog_7_method_40_code
def yX5_charmer : MethodName := ⟨RX5, "charmer", "(II)I"⟩
abbrev cX5_has : ByteArray := prog_7_method_41_code
def yX5_has : MethodName := ⟨RX5, "has", "(II)V"⟩
abbrev cX5_isAlone : ByteArray := prog_7_method_42_code
def yX5_isAlone : MethodName := ⟨RX5, "isAlone", "(I)V"⟩
abbrev cX5_sunday : ByteArray := prog_7_method_43_code
def yX5_sunday : MethodName := ⟨RX5, "sunday", "()V"⟩
abbrev cX5_sundaysGo : ByteArray := prog_7_method_44_code
def yX5_sundaysGo : MethodName := ⟨RX5, "sundaysGo", "(I)V"⟩
abbrev cX5_sundays : ByteArray := prog_7_method_45_code
def yX5_sundays : MethodName := ⟨RX5, "sundays", "(I)I"⟩
abbrev cX5_isAhead : ByteArray := prog_7_method_46_code
def yX5_isAhead : MethodName := ⟨RX5, "isAhead", "(I)Z"⟩
abbrev cX5_behind : ByteArray := prog_7_method_47_code
def yX5_behind : MethodName := ⟨RX5, "behind", "(II)I"⟩
abbrev cX5_on : ByteArray := prog_7_method_48_code
def yX5_on : MethodName := ⟨RX5, "on", "(III)I"⟩
abbrev cX5_then : ByteArray := prog_7_method_49_code
def yX5_then : MethodName := ⟨RX5, "then", "(III)I"⟩
abbrev cX5_meets : ByteArray := prog_7_method_50_code
def yX5_meets : MethodName := ⟨RX5, "meets", "(II)I"⟩
abbrev cX5_well : ByteArray := prog_7_method_51_code
def yX5_well : MethodName := ⟨RX5, "well", "(II)I"⟩
abbrev cX5_cold : ByteArray := prog_7_method_52_code
def yX5_cold : MethodName := ⟨RX5, "cold", "(I)I"⟩
abbrev cX5_isSoon : ByteArray := prog_7_method_53_code
def yX5_isSoon : MethodName := ⟨RX5, "isSoon", "(I)Z"⟩
abbrev cX5_mostBy : ByteArray := prog_7_method_54_code
def yX5_mostBy : MethodName := ⟨RX5, "mostBy", "(IIII)I"⟩
abbrev cX5_kind : ByteArray := prog_7_method_55_code
def yX5_kind : MethodName := ⟨RX5, "kind", "(II)I"⟩
abbrev cX5_warm : ByteArray := prog_7_method_56_code
def yX5_warm : MethodName := ⟨RX5, "warm", "(III)I"⟩
abbrev cX5_sit : ByteArray := prog_7_method_57_code
def yX5_sit : MethodName := ⟨RX5, "sit", "(I)I"⟩
abbrev cX5_loud : ByteArray := prog_7_method_58_code
def yX5_loud : MethodName := ⟨RX5, "loud", "(II)I"⟩
abbrev cX5_stoke : ByteArray := prog_7_method_59_code
def yX5_stoke : MethodName := ⟨RX5, "stoke", "(I)I"⟩
abbrev cX5_lonely : ByteArray := prog_7_method_60_code
def yX5_lonely : MethodName := ⟨RX5, "lonely", "(I)I"⟩
abbrev cX5_feed : ByteArray := prog_7_method_61_code
def yX5_feed : MethodName := ⟨RX5, "feed", "(II)I"⟩
abbrev cX5_wipe : ByteArray := prog_7_method_62_code
def yX5_wipe : MethodName := ⟨RX5, "wipe", "()I"⟩
abbrev cX5_byteAt : ByteArray := prog_7_method_63_code
def yX5_byteAt : MethodName := ⟨RX5, "byteAt", "(I)I"⟩
abbrev cX5_isLetter : ByteArray := prog_7_method_64_code
def yX5_isLetter : MethodName := ⟨RX5, "isLetter", "(I)Z"⟩
abbrev cX5_isDigit : ByteArray := prog_7_method_65_code
def yX5_isDigit : MethodName := ⟨RX5, "isDigit", "(I)Z"⟩
abbrev cX5_token : ByteArray := prog_7_method_66_code
def yX5_token : MethodName := ⟨RX5, "token", "()V"⟩
abbrev cX5_must : ByteArray := prog_7_method_67_code
def yX5_must : MethodName := ⟨RX5, "must", "(Z)V"⟩
abbrev cX5_word : ByteArray := prog_7_method_68_code
def yX5_word : MethodName := ⟨RX5, "word", "()J"⟩
abbrev cX5_number : ByteArray := prog_7_method_69_code
def yX5_number : MethodName := ⟨RX5, "number", "(II)V"⟩
abbrev cX5_kindHere : ByteArray := prog_7_method_70_code
def yX5_kindHere : MethodName := ⟨RX5, "kindHere", "()I"⟩
abbrev cX5_inlawItem : ByteArray := prog_7_method_71_code
def yX5_inlawItem : MethodName := ⟨RX5, "inlawItem", "(I)V"⟩
abbrev cX5_coupleItem : ByteArray := prog_7_method_72_code
def yX5_coupleItem : MethodName := ⟨RX5, "coupleItem", "()V"⟩
abbrev cX5_fireItem : ByteArray := prog_7_method_73_code
def yX5_fireItem : MethodName := ⟨RX5, "fireItem", "()V"⟩
abbrev cX5_sitItem : ByteArray := prog_7_method_74_code
def yX5_sitItem : MethodName := ⟨RX5, "sitItem", "()V"⟩
abbrev cX5_item : ByteArray := prog_7_method_75_code
def yX5_item : MethodName := ⟨RX5, "item", "()V"⟩
abbrev cX5_institute : ByteArray := prog_7_method_76_code
def yX5_institute : MethodName := ⟨RX5, "institute", "()I"⟩
abbrev cX5_isOne : ByteArray := prog_7_method_77_code
def yX5_isOne : MethodName := ⟨RX5, "isOne", "(I)Z"⟩
abbrev cX5_sheet : ByteArray := prog_7_method_78_code
def yX5_sheet : MethodName := ⟨RX5, "sheet", "(III)I"⟩
abbrev cX5_narrowed : ByteArray := prog_7_method_79_code
def yX5_narrowed : MethodName := ⟨RX5, "narrowed", "(IJ)J"⟩
abbrev cX5_wrongSheet : ByteArray := prog_7_method_80_code
def yX5_wrongSheet : MethodName := ⟨RX5, "wrongSheet", "(I)I"⟩
abbrev cX5_write : ByteArray := prog_7_method_81_code
def yX5_write : MethodName := ⟨RX5, "write", "(IIJ)J"⟩
abbrev cX5_copy : ByteArray := prog_7_method_82_code
def yX5_copy : MethodName := ⟨RX5, "copy", "(IIIII)I"⟩
abbrev cX5_lays : ByteArray := prog_7_method_83_code
def yX5_lays : MethodName := ⟨RX5, "lays", "(I)I"⟩
abbrev cX5_book : ByteArray := prog_7_method_84_code
def yX5_book : MethodName := ⟨RX5, "book", "(II)I"⟩
abbrev cX5_isBook : ByteArray := prog_7_method_85_code
def yX5_isBook : MethodName := ⟨RX5, "isBook", "(II)Z"⟩
abbrev cX5_read : ByteArray := prog_7_method_86_code
def yX5_read : MethodName := ⟨RX5, "read", "(III)I"⟩
abbrev cX5_image : ByteArray := prog_7_method_87_code
def yX5_image : MethodName := ⟨RX5, "image", "()I"⟩
abbrev cX5_undo : ByteArray := prog_7_method_88_code
def yX5_undo : MethodName := ⟨RX5, "undo", "()I"⟩
abbrev cX5_tear : ByteArray := prog_7_method_89_code
def yX5_tear : MethodName := ⟨RX5, "tear", "()I"⟩
abbrev cX5_count : ByteArray := prog_7_method_90_code
def yX5_count : MethodName := ⟨RX5, "count", "(I)I"⟩
abbrev cX5_status : ByteArray := prog_7_method_91_code
def yX5_status : MethodName := ⟨RX5, "status", "(I)I"⟩
def RJx145de : String := "java/io/Serializable"
def RJx9f9b0 : String := "java/lang/CharSequence"
def RJxb160c : String := "java/lang/Comparable"
def RJ9 : String := "java/lang/Math"
abbrev cJ9_max_7cf53 : ByteArray := prog_8_method_65_code
def yJ9_max_7cf53 : MethodName := ⟨RJ9, "max", "(II)I"⟩
abbrev cJ9_min_7cf53 : ByteArray := prog_8_method_69_code
def yJ9_min_7cf53 : MethodName := ⟨RJ9, "min", "(II)I"⟩
def RJ0 : String := "java/lang/String"
abbrev cJ0_length_8abf5 : ByteArray := prog_9_method_54_code
def yJ0_length_8abf5 : MethodName := ⟨RJ0, "length", "()I"⟩
abbrev cJ0_charAt_5068e : ByteArray := prog_9_method_56_code
def yJ0_charAt_5068e : MethodName := ⟨RJ0, "charAt", "(I)C"⟩
abbrev cJ0_coder_7d493 : ByteArray := prog_9_method_152_code
def yJ0_coder_7d493 : MethodName := ⟨RJ0, "coder", "()B"⟩
abbrev cJ0_isLatin1_aae02 : ByteArray := prog_9_method_154_code
def yJ0_isLatin1_aae02 : MethodName := ⟨RJ0, "isLatin1", "()Z"⟩
abbrev cJ0_checkIndex_df160 : ByteArray := prog_9_method_155_code
def yJ0_checkIndex_df160 : MethodName := ⟨RJ0, "checkIndex", "(II)V"⟩
def RJ1 : String := "java/lang/StringLatin1"
abbrev cJ1_charAt_3b067 : ByteArray := prog_10_method_2_code
def yJ1_charAt_3b067 : MethodName := ⟨RJ1, "charAt", "([BI)C"⟩
def RJ2 : String := "java/lang/StringUTF16"
abbrev cJ2_getChar_3b067 : ByteArray := prog_11_method_5_code
def yJ2_getChar_3b067 : MethodName := ⟨RJ2, "getChar", "([BI)C"⟩
abbrev cJ2_length_9d52b : ByteArray := prog_11_method_6_code
def yJ2_length_9d52b : MethodName := ⟨RJ2, "length", "([B)I"⟩
abbrev cJ2_charAt_3b067 : ByteArray := prog_11_method_83_code
def yJ2_charAt_3b067 : MethodName := ⟨RJ2, "charAt", "([BI)C"⟩
abbrev cJ2_checkIndex_2214a : ByteArray := prog_11_method_91_code
def yJ2_checkIndex_2214a : MethodName := ⟨RJ2, "checkIndex", "(I[B)V"⟩
def RJ10 : String := "java/lang/System"
def RJxfd54e : String := "java/lang/constant/Constable"
def RJx3cf43 : String := "java/lang/constant/ConstantDesc"
def RJ7 : String := "java/util/Arrays"
abbrev cJ7_fill_d0a16 : ByteArray := prog_13_method_101_code
def yJ7_fill_d0a16 : MethodName := ⟨RJ7, "fill", "([JJ)V"⟩
def RJ3 : String := "jdk/internal/util/Preconditions"
abbrev cJ3_checkIndex_8e157 : ByteArray := prog_14_method_11_code
def yJ3_checkIndex_8e157 : MethodName := ⟨RJ3, "checkIndex", "(IILjava/util/function/BiFunction;)I"⟩
def RL : String := "PooledInlawsLaw"
abbrev vwCl : List vw_C := [(RX0, TX0, 14), (RX2, TX2, 3), (RX3, TX3, 6), (RX4, TX4, 7), (RX5, TX5, 17)]
end
section
/-! THE SMALL MACHINE AND THE MACHINE: places are addresses, by a map; the world of cells -/
def zt (ad : Nat → Nat) : Value → Value
  | .ref k => .ref (ad k)
  | v => v
theorem zt_cat (ad : Nat → Nat) (v : Value) : (zt ad v).category = v.category := by cases v <;> rfl
abbrev zKp : Type := ClassId × ClassId × ClassId
def ze (κ : zKp) (ad : Nat → Nat) : va_E → va_E
  | .inl (_, n, .inl f) => .inl (κ.1, n, .inl f)
  | .inl (_, n, .inr (.inl f)) => .inl (κ.2.1, n, .inr (.inl f))
  | .inl (c, n, .inr (.inr (.inl f))) => .inl (c, n, .inr (.inr (.inl f)))
  | .inl (c, n, .inr (.inr (.inr (.inl f)))) => .inl (c, n, .inr (.inr (.inr (.inl f))))
  | .inl (_, n, .inr (.inr (.inr (.inr f)))) => .inl (κ.2.2, n, .inr (.inr (.inr (.inr (fun j => (f j).map ad)))))
  | .inr (ci, fs) => .inr (ci, fs.map (zt ad))
def zW (κ : zKp) (ad : Nat → Nat) (h : zH) : va_W := h.mapIdx (fun k e => (ad k, ze κ ad e))
theorem zW_at {κ : zKp} {ad : Nat → Nat} {h : zH} {k : Nat} {e : va_E} (hk : zm_g h k = some e) : (zW κ ad h)[k]? = some (ad k, ze κ ad e) := by
  rw [zm_g_eq] at hk
  simp [zW, List.getElem?_mapIdx, hk]
theorem zW_len (κ : zKp) (ad : Nat → Nat) (h : zH) : (zW κ ad h).length = h.length := by simp [zW]
theorem zW_get {κ : zKp} {ad : Nat → Nat} {h : zH} {k : Nat} {q : Nat × va_E} (hk : (zW κ ad h)[k]? = some q) : ∃ e, h[k]? = some e ∧ q = (ad k, ze κ ad e) := by
  simp only [zW, List.getElem?_mapIdx, Option.map_eq_some_iff] at hk
  obtain ⟨e, h1, h2⟩ := hk
  exact ⟨e, h1, h2.symm⟩
theorem zW_set (κ : zKp) (ad : Nat → Nat) (h : zH) (k : Nat) (e : va_E) : zW κ ad (h.set k e) = (zW κ ad h).set k (ad k, ze κ ad e) := by
  apply List.ext_getElem?
  intro i
  simp only [zW, List.getElem?_mapIdx, List.getElem?_set, List.length_mapIdx]
  by_cases hk : k = i
  · subst hk
    by_cases hl : k < h.length
    · simp [hl]
    · simp [hl]
  · simp [hk]
theorem zD_fst {A : Nat → Prop} {ws ws' : va_W} (hf : ws.map Prod.fst = ws'.map Prod.fst) (hD : va_D A ws) : va_D A ws' := by
  have key : ∀ (k : Nat) (q : Nat × va_E), ws'[k]? = some q → ∃ q0, ws[k]? = some q0 ∧ q0.1 = q.1 := by
    intro k q hk
    have h1 : (ws'.map Prod.fst)[k]? = some q.1 := by rw [List.getElem?_map, hk]; rfl
    rw [← hf, List.getElem?_map, Option.map_eq_some_iff] at h1
    exact h1
  refine ⟨fun i j x y hi hj hxy => ?_, fun k q hk => ?_⟩
  · obtain ⟨x0, a1, a2⟩ := key i x hi
    obtain ⟨y0, b1, b2⟩ := key j y hj
    exact hD.1 i j x0 y0 a1 b1 (a2.trans (hxy.trans b2.symm))
  · obtain ⟨q0, a1, a2⟩ := key k q hk
    rw [← a2]
    exact hD.2 k q0 a1
theorem zW_fst (κ : zKp) (ad : Nat → Nat) (h : zH) : (zW κ ad h).map Prod.fst = (List.range h.length).map ad := by
  apply List.ext_getElem?
  intro i
  simp only [zW, List.getElem?_map, List.getElem?_mapIdx, List.getElem?_range']
  by_cases hl : i < h.length
  · rw [List.getElem?_eq_getElem hl]
    simp [List.getElem?_range hl]
  · rw [List.getElem?_eq_none (by omega), List.getElem?_eq_none (by simpa using hl)]
    rfl
/-- the same cells -/
theorem zm_eH_get : ∀ {h h' : zH}, zm_eH h h' → h.length = h'.length ∧ ∀ (k : Nat) (e' : va_E), h'[k]? = some e' → ∃ e, h[k]? = some e ∧ zm_eA e e'
  | [], [], _ => ⟨rfl, fun k e' hk => by simp at hk⟩
  | [], _ :: _, he => he.elim
  | _ :: _, [], he => he.elim
  | a :: l, b :: m, he => by
    obtain ⟨h1, h2⟩ := he
    obtain ⟨g1, g2⟩ := zm_eH_get h2
    refine ⟨by simp [g1], fun k e' hk => ?_⟩
    cases k with
    | zero => simp at hk; subst hk; exact ⟨a, rfl, h1⟩
    | succ k => simp only [List.getElem?_cons_succ] at hk ⊢; exact g2 k e' hk
theorem arrV_cong {c : ClassId} {n : Nat} {f g : Nat → Value} (h : ∀ j, j < n → f j = g j) : arrV c n f = arrV c n g := by
  unfold arrV
  congr 1
  have : (fun j : Fin n => f j.val) = fun j : Fin n => g j.val := funext fun j => h j.val j.isLt
  rw [this]
theorem ze_same {κ : zKp} {ad : Nat → Nat} {D : va_G} {cl : List vw_C} {a : Nat} {e e' : va_E} {H : Heap} (he : zm_eA e e') (h : va_at D cl (a, ze κ ad e) H) : va_at D cl (a, ze κ ad e') H := by
  rcases he with rfl | ⟨c, n, f, g, rfl, rfl, hfg⟩ | ⟨c, n, f, g, rfl, rfl, hfg⟩
  · exact h
  · have h1 : H[a]? = some (arrV κ.1 n (fun j => .int (f j))) := h
    show H[a]? = some (arrV κ.1 n (fun j => .int (g j)))
    rw [h1, arrV_cong (fun j hj => by rw [hfg j hj])]
  · have h1 : H[a]? = some (arrV κ.2.1 n (fun j => .long (f j))) := h
    show H[a]? = some (arrV κ.2.1 n (fun j => .long (g j)))
    rw [h1, arrV_cong (fun j hj => by rw [hfg j hj])]
theorem zP_same {κ : zKp} {ad : Nat → Nat} {D : va_G} {cl : List vw_C} {h h' : zH} {H : Heap} (he : zm_eH h h') (hP : va_P D cl (zW κ ad h) H) : va_P D cl (zW κ ad h') H := by
  obtain ⟨-, g2⟩ := zm_eH_get he
  intro k q hk
  obtain ⟨e', h1, rfl⟩ := zW_get hk
  obtain ⟨e, h2, h3⟩ := g2 k e' h1
  exact ze_same h3 (hP k (ad k, ze κ ad e) (zW_at (by rw [zm_g_eq]; exact h2)))
theorem zD_len {A : Nat → Prop} {κ κ' : zKp} {ad : Nat → Nat} {h h' : zH} (he : h.length = h'.length) (hD : va_D A (zW κ ad h)) : va_D A (zW κ' ad h') := zD_fst (by rw [zW_fst, zW_fst, he]) hD
/-- the map grows: what was there reads the same -/
def zAg (n : Nat) (ad ad' : Nat → Nat) : Prop := ∀ k, k < n ∨ 1000 ≤ k → ad' k = ad k
theorem zm_okv_ag {n : Nat} {ad ad' : Nat → Nat} (ha : zAg n ad ad') {v : Value} (h : zm_okv n v = true) : zt ad' v = zt ad v := by
  cases v with
  | ref k =>
    simp only [zm_okv, Bool.or_eq_true, Nat.ble_eq] at h
    show Value.ref (ad' k) = Value.ref (ad k)
    rw [ha k (by omega)]
  | _ => rfl
theorem zm_oks_ag {n : Nat} {ad ad' : Nat → Nat} (ha : zAg n ad ad') : ∀ {st : List Value}, st.all (zm_okv n) = true → st.map (zt ad') = st.map (zt ad)
  | [], _ => rfl
  | v :: st, h => by
    simp only [List.all_cons, Bool.and_eq_true] at h
    rw [List.map_cons, List.map_cons, zm_okv_ag ha h.1, zm_oks_ag ha h.2]
theorem zm_okr_ag {n : Nat} {ad ad' : Nat → Nat} (ha : zAg n ad ad') {v : Option Nat} (h : zm_okr n v = true) : v.map ad' = v.map ad := by
  cases v with
  | none => rfl
  | some k =>
    simp only [zm_okr, Bool.or_eq_true, Nat.ble_eq] at h
    show some (ad' k) = some (ad k)
    rw [ha k (by omega)]
theorem ze_ag {κ : zKp} {n : Nat} {ad ad' : Nat → Nat} (ha : zAg n ad ad') {D : va_G} {cl : List vw_C} {a : Nat} {e : va_E} {H : Heap} (he : zm_oke n e = true) (h : va_at D cl (a, ze κ ad e) H) : va_at D cl (a, ze κ ad' e) H := by
  cases e with
  | inr q =>
    obtain ⟨ci, fs⟩ := q
    have e1 : fs.map (zt ad') = fs.map (zt ad) := zm_oks_ag ha he
    show va_at D cl (a, .inr (ci, fs.map (zt ad'))) H
    rw [e1]
    exact h
  | inl q =>
    obtain ⟨c, k, f⟩ := q
    rcases f with f | f | f | f | f
    · exact h
    · exact h
    · exact h
    · exact h
    · have h1 : H[a]? = some (arrV κ.2.2 k (fun j => va_rf ((f j).map ad))) := h
      show H[a]? = some (arrV κ.2.2 k (fun j => va_rf ((f j).map ad')))
      rw [h1]
      have he' : (List.range k).all (fun j => zm_okr n (f j)) = true := he
      rw [List.all_eq_true] at he'
      have e2 : arrV κ.2.2 k (fun j => va_rf ((f j).map ad)) = arrV κ.2.2 k (fun j => va_rf ((f j).map ad')) := arrV_cong (fun j hj => by rw [zm_okr_ag ha (he' j (List.mem_range.mpr hj))])
      rw [e2]
theorem zP_ag {κ : zKp} {ad ad' : Nat → Nat} {D : va_G} {cl : List vw_C} {h : zH} {H : Heap} (ha : zAg h.length ad ad') (ho : h.all (zm_oke h.length) = true) (hP : va_P D cl (zW κ ad h) H) : va_P D cl (zW κ ad' h) H := by
  intro k q hk
  obtain ⟨e, h1, rfl⟩ := zW_get hk
  have hl : k < h.length := (List.getElem?_eq_some_iff.mp h1).1
  rw [ha k (Or.inl hl)]
  exact ze_ag ha (List.all_eq_true.mp ho e (List.mem_of_getElem? h1)) (hP k (ad k, ze κ ad e) (zW_at (by rw [zm_g_eq]; exact h1)))
theorem zW_push (κ : zKp) (ad : Nat → Nat) (h : zH) (e : va_E) : zW κ ad (h ++ [e]) = zW κ ad h ++ [(ad h.length, ze κ ad e)] := by
  simp [zW, List.mapIdx_append]
/-- locals -/
def zA (ad : Nat → Nat) : Nat → zL → List (Nat × Value)
  | _, [] => []
  | i, none :: l => zA ad (i + 1) l
  | i, some v :: l => (i, zt ad v) :: zA ad (i + 1) l
theorem zA_mem {ad : Nat → Nat} : ∀ {L : zL} {i j : Nat} {v : Value}, L[j]? = some (some v) → (i + j, zt ad v) ∈ zA ad i L
  | [], _, _, _, h => by simp at h
  | none :: l, i, 0, v, h => by simp at h
  | some w :: l, i, 0, v, h => by
    simp only [List.getElem?_cons_zero, Option.some.injEq] at h
    subst h
    exact List.mem_cons_self
  | none :: l, i, j + 1, v, h => by
    have h1 := zA_mem (i := i + 1) (ad := ad) (show l[j]? = some (some v) from by simpa using h)
    rw [show i + 1 + j = i + (j + 1) by omega] at h1
    exact h1
  | some w :: l, i, j + 1, v, h => by
    have h1 := zA_mem (i := i + 1) (ad := ad) (show l[j]? = some (some v) from by simpa using h)
    rw [show i + 1 + j = i + (j + 1) by omega] at h1
    exact List.mem_cons_of_mem _ h1
theorem zA_of {ad : Nat → Nat} : ∀ {L : zL} {i : Nat} {q : Nat × Value}, q ∈ zA ad i L → ∃ j v, q = (i + j, zt ad v) ∧ L[j]? = some (some v)
  | [], _, _, h => by cases h
  | none :: l, i, q, h => by
    obtain ⟨j, v, h1, h2⟩ := zA_of (L := l) (i := i + 1) h
    exact ⟨j + 1, v, by rw [h1]; congr 1; omega, by simpa using h2⟩
  | some w :: l, i, q, h => by
    rcases List.mem_cons.mp h with rfl | h
    · exact ⟨0, w, rfl, rfl⟩
    · obtain ⟨j, v, h1, h2⟩ := zA_of (L := l) (i := i + 1) h
      exact ⟨j + 1, v, by rw [h1]; congr 1; omega, by simpa using h2⟩
theorem zset_self {α : Type} : ∀ {l : List α} {i : Nat} {a b : α}, (l.set i a)[i]? = some b → b = a
  | [], _, _, _, h => by simp at h
  | _ :: _, 0, _, _, h => by simp at h; exact h.symm
  | _ :: l, i + 1, _, _, h => zset_self (l := l) (i := i) (by simpa using h)
def zLs (ls : Array Slot) (nL : Nat) (ad : Nat → Nat) (L : zL) : Prop := L.length = nL ∧ lv_has ls nL (zA ad 0 L)
theorem zLs.at {ls : Array Slot} {nL : Nat} {ad : Nat → Nat} {L : zL} (h : zLs ls nL ad L) {i : Nat} {v : Value} (hi : zm_g L i = some (some v)) : ls[i]? = some (.val (zt ad v)) := by
  rw [zm_g_eq] at hi
  have h1 := zA_mem (i := 0) (ad := ad) hi
  rw [Nat.zero_add] at h1
  exact h.2.2.2 _ h1
theorem zLs.lt {ls : Array Slot} {nL : Nat} {ad : Nat → Nat} {L : zL} (h : zLs ls nL ad L) {i : Nat} {v : Option Value} (hi : zm_g L i = some v) : i < nL := by
  rw [zm_g_eq] at hi
  rw [← h.1]
  exact (List.getElem?_eq_some_iff.mp hi).1
theorem zm_x_len : ∀ (L : zL) (i : Nat), (zm_x L i).length = L.length
  | [], _ => rfl
  | _ :: _, 0 => rfl
  | _ :: _, 1 => rfl
  | _ :: l, n + 2 => by simp [zm_x, zm_x_len l (n + 1)]
theorem zm_x_get : ∀ {L : zL} {i j : Nat} {v : Value}, (zm_x L i)[j]? = some (some v) → L[j]? = some (some v) ∧ ¬ (j + 1 = i ∧ v.category = 2)
  | [], _, _, _, h => by simp [zm_x] at h
  | a :: l, 0, j, v, h => ⟨h, by omega⟩
  | a :: l, 1, 0, v, h => by
    simp only [zm_x, List.getElem?_cons_zero, Option.some.injEq] at h
    rcases a with _ | a
    · simp at h
    · cases a with
      | long x => simp at h
      | double x => simp at h
      | _ => (simp at h; subst h; exact ⟨rfl, by simp [Value.category]⟩)
  | a :: l, 1, j + 1, v, h => ⟨by simpa [zm_x] using h, by omega⟩
  | a :: l, n + 2, 0, v, h => ⟨by simpa [zm_x] using h, by omega⟩
  | a :: l, n + 2, j + 1, v, h => by
    have h1 : (zm_x l (n + 1))[j]? = some (some v) := by simpa [zm_x] using h
    obtain ⟨h2, h3⟩ := zm_x_get h1
    exact ⟨by simpa using h2, fun z => h3 ⟨by omega, z.2⟩⟩
theorem zLs.st {ls' : Array Slot} {nL : Nat} {ad : Nat → Nat} {L : zL} {i : Nat} {v : Value} (hl : L.length = nL) (h : lv_has ls' nL ((i, zt ad v) :: (zA ad 0 L).filter (fun q => !(q.1 == i) && !(q.1 + 1 == i && q.2.category == 2)))) : zLs ls' nL ad (zm_st L i v) := by
  refine ⟨by simp [zm_st, zm_x_len, hl], h.1, h.2.1, fun q hq => ?_⟩
  obtain ⟨j, w, rfl, hj⟩ := zA_of hq
  refine h.2.2 _ ?_
  rw [Nat.zero_add]
  unfold zm_st at hj
  by_cases hij : i = j
  · subst hij
    cases zset_self hj
    exact List.mem_cons_self
  · rw [List.getElem?_set_ne hij] at hj
    obtain ⟨h1, h2⟩ := zm_x_get hj
    have h3 := zA_mem (i := 0) (ad := ad) h1
    rw [Nat.zero_add] at h3
    refine List.mem_cons_of_mem _ (List.mem_filter.mpr ⟨h3, ?_⟩)
    have a1 : (j == i) = false := by simp; omega
    simp only [a1, zt_cat, Bool.not_false, Bool.true_and, Bool.not_eq_true', Bool.and_eq_false_iff, beq_eq_false_iff_ne]
    by_cases z : j + 1 = i
    · exact Or.inr (fun q => h2 ⟨z, q⟩)
    · exact Or.inl z
theorem zLs.st2 {ls' : Array Slot} {nL : Nat} {ad : Nat → Nat} {L : zL} {i : Nat} {v : Value} (hl : L.length = nL) (h : lv_has ls' nL ((i, zt ad v) :: (zA ad 0 L).filter (fun q => !(q.1 == i) && (!(q.1 == i + 1) && !(q.1 + 1 == i && q.2.category == 2))))) : zLs ls' nL ad (zm_st2 L i v) := by
  refine ⟨by simp [zm_st2, zm_x_len, hl], h.1, h.2.1, fun q hq => ?_⟩
  obtain ⟨j, w, rfl, hj⟩ := zA_of hq
  refine h.2.2 _ ?_
  rw [Nat.zero_add]
  unfold zm_st2 at hj
  by_cases hij1 : i + 1 = j
  · subst hij1
    cases zset_self hj
  · rw [List.getElem?_set_ne hij1] at hj
    by_cases hij : i = j
    · subst hij
      cases zset_self hj
      exact List.mem_cons_self
    · rw [List.getElem?_set_ne hij] at hj
      obtain ⟨h1, h2⟩ := zm_x_get hj
      have h3 := zA_mem (i := 0) (ad := ad) h1
      rw [Nat.zero_add] at h3
      refine List.mem_cons_of_mem _ (List.mem_filter.mpr ⟨h3, ?_⟩)
      have a1 : (j == i) = false := by simp; omega
      have a2 : (j == i + 1) = false := by simp; omega
      simp only [a1, a2, zt_cat, Bool.not_false, Bool.true_and, Bool.not_eq_true', Bool.and_eq_false_iff, beq_eq_false_iff_ne]
      by_cases z : j + 1 = i
      · exact Or.inr (fun q => h2 ⟨z, q⟩)
      · exact Or.inl z
theorem zLs.inc {ls ls' : Array Slot} {nL : Nat} {ad : Nat → Nat} {L : zL} {i : Nat} {x v : Int32} (h0 : zLs ls nL ad L) (hg : zm_g L i = some (some (.int x))) (h : lv_has ls' nL ((i, .int v) :: (zA ad 0 L).filter (fun q => !(q.1 == i) && !(q.1 + 1 == i && q.2.category == 2)))) : zLs ls' nL ad (L.set i (some (.int v))) := by
  refine ⟨by simp [h0.1], h.1, h.2.1, fun q hq => ?_⟩
  obtain ⟨j, w, rfl, hj⟩ := zA_of hq
  rw [Nat.zero_add]
  by_cases hij : i = j
  · subst hij
    cases zset_self hj
    exact h.2.2 _ List.mem_cons_self
  · rw [List.getElem?_set_ne hij] at hj
    have h3 := zA_mem (i := 0) (ad := ad) hj
    rw [Nat.zero_add] at h3
    refine h.2.2 _ (List.mem_cons_of_mem _ (List.mem_filter.mpr ⟨h3, ?_⟩))
    have a1 : (j == i) = false := by simp; omega
    simp only [a1, zt_cat, Bool.not_false, Bool.true_and, Bool.not_eq_true', Bool.and_eq_false_iff, beq_eq_false_iff_ne]
    by_cases z : j + 1 = i
    · refine Or.inr (fun q => ?_)
      have w1 := h0.2.2.1.1 j (zt ad w) (h0.2.2.2 _ h3) (by rw [zt_cat]; exact q)
      rw [z] at w1
      have w2 := h0.at hg
      rw [w1] at w2
      cases w2
    · exact Or.inl z
theorem zLs.ag {ls : Array Slot} {nL n : Nat} {ad ad' : Nat → Nat} {L : zL} (ha : zAg n ad ad') (ho : zm_okl n L = true) (h : zLs ls nL ad L) : zLs ls nL ad' L := by
  refine ⟨h.1, h.2.1, h.2.2.1, fun q hq => ?_⟩
  obtain ⟨j, w, rfl, hj⟩ := zA_of hq
  have h3 := zA_mem (i := 0) (ad := ad) hj
  have hw : zm_okv n w = true := by
    have := List.all_eq_true.mp ho (some w) (List.mem_of_getElem? hj)
    simpa using this
  rw [zm_okv_ag ha hw]
  exact h.2.2.2 _ h3
/-- a method's locals at its entry -/
theorem zm_en_get (ad : Nat → Nat) : ∀ (vs : List Value) (n i : Nat), (lg_sl (vs.map (zt ad))).length ≤ n → (zm_en vs n).length = n ∧ ∀ (j : Nat) (v : Value), (zm_en vs n)[j]? = some (some v) → (i + j, zt ad v) ∈ lv_args i (vs.map (zt ad)) := by
  intro vs
  induction vs with
  | nil =>
    intro n i _
    refine ⟨by simp [zm_en], fun j v hj => ?_⟩
    simp only [zm_en] at hj
    have := List.mem_of_getElem? hj
    simp at this
  | cons w vs ih =>
    intro n i hn
    have one : w.category = 1 → zm_en (w :: vs) n = some w :: zm_en vs (n - 1) := by
      intro hc
      cases w <;> first | rfl | (simp [Value.category] at hc)
    have two : w.category = 2 → zm_en (w :: vs) n = some w :: none :: zm_en vs (n - 2) := by
      intro hc
      cases w <;> first | rfl | (simp [Value.category] at hc)
    rcases lv_cat w with hc | hc
    · have e1 : (lg_sl ((w :: vs).map (zt ad))).length = 1 + (lg_sl (vs.map (zt ad))).length := by
        simp [lg_sl, List.flatMap_cons, zt_cat, hc]; omega
      have hn' : (lg_sl (vs.map (zt ad))).length ≤ n - 1 := by omega
      obtain ⟨g1, g2⟩ := ih (n - 1) (i + 1) hn'
      rw [one hc]
      refine ⟨by simp [g1]; omega, fun j v hj => ?_⟩
      have ea : lv_args i ((w :: vs).map (zt ad)) = (i, zt ad w) :: lv_args (i + 1) (vs.map (zt ad)) := by
        simp [lv_args, zt_cat, hc]
      rw [ea]
      cases j with
      | zero => simp at hj; subst hj; exact List.mem_cons_self
      | succ j =>
        have := g2 j v (by simpa using hj)
        rw [show i + 1 + j = i + (j + 1) by omega] at this
        exact List.mem_cons_of_mem _ this
    · have e1 : (lg_sl ((w :: vs).map (zt ad))).length = 2 + (lg_sl (vs.map (zt ad))).length := by
        simp [lg_sl, List.flatMap_cons, zt_cat, hc]; omega
      have hn' : (lg_sl (vs.map (zt ad))).length ≤ n - 2 := by omega
      obtain ⟨g1, g2⟩ := ih (n - 2) (i + 2) hn'
      rw [two hc]
      refine ⟨by simp [g1]; omega, fun j v hj => ?_⟩
      have ea : lv_args i ((w :: vs).map (zt ad)) = (i, zt ad w) :: lv_args (i + 2) (vs.map (zt ad)) := by
        simp [lv_args, zt_cat, hc]
      rw [ea]
      match j, hj with
      | 0, hj => simp at hj; subst hj; exact List.mem_cons_self
      | 1, hj => simp at hj
      | j + 2, hj =>
        have := g2 j v (by simpa using hj)
        rw [show i + 2 + j = i + (j + 2) by omega] at this
        exact List.mem_cons_of_mem _ this
theorem zLs_entry (ad : Nat → Nat) (vs : List Value) {n : Nat} (h : (lg_sl (vs.map (zt ad))).length ≤ n) : zLs ((lg_sl (vs.map (zt ad)) ++ List.replicate (n - (lg_sl (vs.map (zt ad))).length) Slot.unset).toArray) n ad (zm_en vs n) := by
  have h1 := lv_entry (vs.map (zt ad)) h
  obtain ⟨g1, g2⟩ := zm_en_get ad vs n 0 h
  refine ⟨g1, h1.1, h1.2.1, fun q hq => ?_⟩
  obtain ⟨j, w, rfl, hj⟩ := zA_of hq
  exact h1.2.2 _ (g2 j w hj)
end
section
/-! EACH INSTRUCTION: what the small machine says of it is what the machine does -/
def zm_ln : List Nat := [5, 6, 6, 5, 6, 7, 6, 4, 3, 4, 3, 3]
def zm_ow (i : Nat) : String × Nat × String := match i with
  | 0 => ("PooledInlaws$Kinds", 23, "inlaw")
  | 1 => ("PooledInlaws$Kinds", 13, "mother")
  | 2 => ("PooledInlaws$Kinds", 15, "father")
  | 3 => ("PooledInlaws$Kinds", 17, "uncle")
  | 4 => ("PooledInlaws$Kinds", 19, "tartar")
  | 5 => ("PooledInlaws$Kinds", 21, "blesser")
  | 6 => ("PooledInlaws$Tape", 52, "couple")
  | 7 => ("PooledInlaws$Tape", 57, "fire")
  | 8 => ("PooledInlaws$Tape", 62, "sit")
  | 9 => ("PooledInlaws$Tape", 73, "warm")
  | 10 => ("PooledInlaws$Tape", 82, "sat")
  | _ => ("PooledInlaws$Tape", 93, "had")
/-- what nobody writes: the String constants, two statics of the library's, the row ABOVE -/
def zG (ad adV : Nat → Nat) (A : Nat → Prop) (U : State) (H : Heap) : Prop :=
  vk_S 12 zm_ln zm_tx (fun i => ad (1000 + i)) adV A U H ∧ va_Z "java/lang/String" "COMPACT_STRINGS" "Z" (.int 1) A U H ∧ va_Zq "jdk/internal/util/Preconditions" "SIOOBE_FORMATTER" "Ljava/util/function/BiFunction;" A U H ∧
  va_Z "PooledInlaws$Kinds" "ABOVE" "[I" (.ref (ad 2000)) A U H ∧ va_T .int (ad 2000) 6 (fun j => .int (zm_ab.getD j 0)) A U H ∧ va_AO RX2 U ∧ ∀ i, i < 12 → vk_R (zm_ow i).1 (zm_ow i).2.1 (zm_ow i).2.2 (ad (1000 + i)) U
theorem zG.kept {ad adV : Nat → Nat} {A : Nat → Prop} {U : State} {H H1 : Heap} (h : zG ad adV A U H) (hq : ∀ a : Nat, a < H.size → ¬ A a → H1[a]? = H[a]?) : zG ad adV A U H1 :=
  ⟨h.1.kept hq, h.2.1.kept hq, h.2.2.1.kept hq, h.2.2.2.1.kept hq, h.2.2.2.2.1.kept hq, h.2.2.2.2.2⟩
theorem zG.narrow {ad adV : Nat → Nat} {A B : Nat → Prop} {U : State} {H : Heap} (h : zG ad adV A U H) (hq : ∀ q, B q → A q) : zG ad adV B U H :=
  ⟨h.1.narrow hq, h.2.1.narrow hq, h.2.2.1.narrow hq, h.2.2.2.1.narrow hq, h.2.2.2.2.1.narrow hq, h.2.2.2.2.2⟩
theorem zG.warm {ad adV : Nat → Nat} {A : Nat → Prop} {s U : State} {H : Heap} (hW : s.WarmedH U.vm) (h : zG ad adV A s H) : zG ad adV A U H :=
  ⟨h.1.moved hW.alike, h.2.1.moved hW.alike, h.2.2.1.moved hW.alike, h.2.2.2.1.moved hW.alike, h.2.2.2.2.1.moved hW.alike, h.2.2.2.2.2.1.moved hW.alike, fun i hi => (h.2.2.2.2.2.2 i hi).warm hW⟩
theorem zG.same {ad adV : Nat → Nat} {A : Nat → Prop} {s U : State} {H : Heap} (hv : U.vm = s.vm) (h : zG ad adV A s H) : zG ad adV A U H := by
  have ha : s.vm.Alike U.vm := by rw [hv]; exact Vm.Alike.refl _
  exact ⟨h.1.moved ha, h.2.1.moved ha, h.2.2.1.moved ha, h.2.2.2.1.moved ha, h.2.2.2.2.1.moved ha, h.2.2.2.2.2.1.moved ha, fun i hi => (h.2.2.2.2.2.2 i hi).same hv⟩
theorem zG.ag {n : Nat} {ad ad' adV : Nat → Nat} {A : Nat → Prop} {U : State} {H : Heap} (ha : zAg n ad ad') (h : zG ad adV A U H) : zG ad' adV A U H := by
  have e1 : (fun i => ad' (1000 + i)) = fun i => ad (1000 + i) := funext fun i => ha _ (Or.inr (by omega))
  have e2 : ad' 2000 = ad 2000 := ha _ (Or.inr (by omega))
  refine ⟨by rw [e1]; exact h.1, h.2.1, h.2.2.1, by rw [e2]; exact h.2.2.2.1, by rw [e2]; exact h.2.2.2.2.1, h.2.2.2.2.2.1, fun i hi => by rw [ha _ (Or.inr (by omega))]; exact h.2.2.2.2.2.2 i hi⟩
def zty (κ : zKp) : List (ClassId × FieldType) := [(κ.1, .int), (κ.2.1, .long), (κ.2.2, .object RX2)]
/-- a method's start -/
def zPre (D : va_G) (κ : zKp) (ad adV : Nat → Nat) (h : zH) (sz : Nat) (U : State) : Prop := U.heap.size = sz ∧ va_P D vwCl (zW κ ad h) U.heap ∧ va_K D vwCl (zty κ) U ∧ va_D (fun _ => True) (zW κ ad h) ∧ zG ad adV (va_A (zW κ ad h) sz) U U.heap
/-- a method's end -/
def zPost (D : va_G) (κ : zKp) (ad : Nat → Nat) (h : zH) (sz mc : Nat) (Qp : zQ) : Array Value → State → Outcome → State → Prop := fun _ st oc t =>
  (∃ (r : Option Value) (h' : zH) (ad' : Nat → Nat), oc = .returned (r.map (zt ad')) ∧ Qp r h' ∧ zAg h.length ad ad' ∧ (mc = 0 → ad' = ad) ∧ h.length ≤ h'.length ∧ va_P D vwCl (zW κ ad' h') t.heap ∧ va_K D vwCl (zty κ) t ∧ va_D (va_A (zW κ ad h) sz) (zW κ ad' h')) ∧ va_F (va_A (zW κ ad h) sz) st t
def zCx (p : Program) (s : State) (m : MethodId) (args : Array Value) (c : Code) (own : String) (cc : ByteArray) (nL : Nat) (A : Nat → Prop) (D : va_G) (κ : zKp) (ad0 adV : Nat → Nat) : Prop :=
  CallFix p m c cc nL s args zBT own ∧ va_K D vwCl (zty κ) s ∧ (∀ q, s.heap.size ≤ q → A q) ∧ zG ad0 adV A s s.heap
def zK (p : Program) (l : Launch) (e : Env) (R : Room) (s : State) (m : MethodId) (args : Array Value) (below : List Frame) (meth : Method) (c : Code) (Q : State → Prop) (A : Nat → Prop) (D : va_G) (κ : zKp) (ad0 : Nat → Nat) (n0 nL : Nat) : zP := fun pc L st u h =>
  ∀ (ad : Nat → Nat) (H : Heap) (locs : List Loc) (ls : Array Slot), zAg n0 ad0 ad → (u.1 = 0 → ad = ad0) → (n0 ≤ h.length ∧ u.1 ≤ R.cells ∧ u.2 ≤ R.slots) → va_P D vwCl (zW κ ad h) H → va_D A (zW κ ad h) → va_S A s.heap H locs → zLs ls nL ad L →
    W p l e R s m args below meth c H locs u.1 u.2 Q (F0 m pc ls (st.map (zt ad)))
def zLe (P K : zP) : Prop := ∀ pc L st u h, P pc L st u h → K pc L st u h
theorem zm_cat_eq (ad : Nat → Nat) : ∀ (r : List Value), ((r.map (zt ad)).map fun v => v.category).sum = zm_cat r
  | [] => rfl
  | v :: r => by
    rw [List.map_cons, List.map_cons, List.sum_cons, zm_cat_eq ad r, zt_cat]
    rfl
theorem zcond {b : Bool} {X : Prop} (k : cond b X False) : b = true ∧ X := by
  cases b with
  | false => exact k.elim
  | true => exact ⟨rfl, k⟩
theorem zk_same {p : Program} {l : Launch} {e : Env} {R : Room} {s : State} {m : MethodId} {args : Array Value} {below : List Frame} {meth : Method} {c : Code} {Q : State → Prop} {A : Nat → Prop} {D : va_G} {κ : zKp} {ad0 : Nat → Nat} {n0 nL pc : Nat} {L : zL} {st : List Value} {u : Nat × Nat} {h h' : zH}
    (he : zm_eH h h') (k : zK p l e R s m args below meth c Q A D κ ad0 n0 nL pc L st u h') : zK p l e R s m args below meth c Q A D κ ad0 n0 nL pc L st u h := by
  intro ad H locs ls h1 h2 h3 h4 h5 h6 h7
  have hl := (zm_eH_get he).1
  exact k ad H locs ls h1 h2 ⟨by rw [← hl]; exact h3.1, h3.2⟩ (zP_same he h4) (zD_len hl h5) h6 h7
section ZK
variable {p : Program} {l : Launch} {e : Env} {R : Room} {s : State} {m : MethodId} {args : Array Value} {below : List Frame} {meth : Method} {c : Code} {Q : State → Prop} {A : Nat → Prop} {D : va_G} {κ : zKp} {ad0 adV : Nat → Nat} {n0 nL : Nat} {own : String} {cc : ByteArray}
variable {P : zP} {C : zC} {Qp : zQ} {pc nx : Nat} {L : zL} {st : List Value} {u : Nat × Nat} {h : zH}
theorem zk_iconst (X : zCx p s m args c own cc nL A D κ ad0 adV) (hP : zLe P (zK p l e R s m args below meth c Q A D κ ad0 n0 nL)) {n : Int} (hd : decode cc pc = .ok (.iconst n, 1)) (hn : nx = pc + 1) {v : Int32} (hv : Int32.ofInt n = v) (k : zo_c (.int v) nx P C Qp L st u h) : zK p l e R s m args below meth c Q A D κ ad0 n0 nL pc L st u h := by
  subst hn
  obtain ⟨⟨hx, hb, hml, hown, hts⟩, hK, hA, hG⟩ := X
  intro ad H locs ls h1 h2 h3 h4 h5 h6 h7
  exact lv_iconst hx hb hd hv (hP _ _ _ _ _ k ad H locs ls h1 h2 h3 h4 h5 h6 h7)
theorem zk_bipush (X : zCx p s m args c own cc nL A D κ ad0 adV) (hP : zLe P (zK p l e R s m args below meth c Q A D κ ad0 n0 nL)) {n : Int} (hd : decode cc pc = .ok (.bipush n, 2)) (hn : nx = pc + 2) {v : Int32} (hv : (Int8.ofInt n).toInt32 = v) (k : zo_c (.int v) nx P C Qp L st u h) : zK p l e R s m args below meth c Q A D κ ad0 n0 nL pc L st u h := by
  subst hn
  obtain ⟨⟨hx, hb, hml, hown, hts⟩, hK, hA, hG⟩ := X
  intro ad H locs ls h1 h2 h3 h4 h5 h6 h7
  exact lv_bipush hx hb hd hv (hP _ _ _ _ _ k ad H locs ls h1 h2 h3 h4 h5 h6 h7)
theorem zk_sipush (X : zCx p s m args c own cc nL A D κ ad0 adV) (hP : zLe P (zK p l e R s m args below meth c Q A D κ ad0 n0 nL)) {n : Int} (hd : decode cc pc = .ok (.sipush n, 3)) (hn : nx = pc + 3) {v : Int32} (hv : (Int16.ofInt n).toInt32 = v) (k : zo_c (.int v) nx P C Qp L st u h) : zK p l e R s m args below meth c Q A D κ ad0 n0 nL pc L st u h := by
  subst hn
  obtain ⟨⟨hx, hb, hml, hown, hts⟩, hK, hA, hG⟩ := X
  intro ad H locs ls h1 h2 h3 h4 h5 h6 h7
  exact lv_sipush hx hb hd hv (hP _ _ _ _ _ k ad H locs ls h1 h2 h3 h4 h5 h6 h7)
theorem zk_lconst (X : zCx p s m args c own cc nL A D κ ad0 adV) (hP : zLe P (zK p l e R s m args below meth c Q A D κ ad0 n0 nL)) {n : Fin 2} (hd : decode cc pc = .ok (.lconst n, 1)) (hn : nx = pc + 1) {v : Int64} (hv : Int64.ofNat (n : Nat) = v) (k : zo_c (.long v) nx P C Qp L st u h) : zK p l e R s m args below meth c Q A D κ ad0 n0 nL pc L st u h := by
  subst hn
  obtain ⟨⟨hx, hb, hml, hown, hts⟩, hK, hA, hG⟩ := X
  intro ad H locs ls h1 h2 h3 h4 h5 h6 h7
  exact lv_lconst hx hb hd hv (hP _ _ _ _ _ k ad H locs ls h1 h2 h3 h4 h5 h6 h7)
theorem zk_ldc (X : zCx p s m args c own cc nL A D κ ad0 adV) (hP : zLe P (zK p l e R s m args below meth c Q A D κ ad0 n0 nL)) {n : Nat} (hd : decode cc pc = .ok (.ldc n, 2)) (hn : nx = pc + 2) {v : Int32} (hw : Cond.constant own n v ∈ zBT) (k : zo_c (.int v) nx P C Qp L st u h) : zK p l e R s m args below meth c Q A D κ ad0 n0 nL pc L st u h := by
  subst hn
  obtain ⟨⟨hx, hb, hml, hown, hts⟩, hK, hA, hG⟩ := X
  intro ad H locs ls h1 h2 h3 h4 h5 h6 h7
  exact lv_ldc hx hb hown (hts _ hw) hd (hP _ _ _ _ _ k ad H locs ls h1 h2 h3 h4 h5 h6 h7)
theorem zk_ldcw (X : zCx p s m args c own cc nL A D κ ad0 adV) (hP : zLe P (zK p l e R s m args below meth c Q A D κ ad0 n0 nL)) {n : Nat} (hd : decode cc pc = .ok (.ldc_w n, 3)) (hn : nx = pc + 3) {v : Int32} (hw : Cond.constant own n v ∈ zBT) (k : zo_c (.int v) nx P C Qp L st u h) : zK p l e R s m args below meth c Q A D κ ad0 n0 nL pc L st u h := by
  subst hn
  obtain ⟨⟨hx, hb, hml, hown, hts⟩, hK, hA, hG⟩ := X
  intro ad H locs ls h1 h2 h3 h4 h5 h6 h7
  exact lv_ldcw hx hb hown (hts _ hw) hd (hP _ _ _ _ _ k ad H locs ls h1 h2 h3 h4 h5 h6 h7)
theorem zk_ldc2 (X : zCx p s m args c own cc nL A D κ ad0 adV) (hP : zLe P (zK p l e R s m args below meth c Q A D κ ad0 n0 nL)) {n : Nat} (hd : decode cc pc = .ok (.ldc2_w n, 3)) (hn : nx = pc + 3) {v : Int64} (hw : Cond.constantLong own n v ∈ zBT) (k : zo_c (.long v) nx P C Qp L st u h) : zK p l e R s m args below meth c Q A D κ ad0 n0 nL pc L st u h := by
  subst hn
  obtain ⟨⟨hx, hb, hml, hown, hts⟩, hK, hA, hG⟩ := X
  intro ad H locs ls h1 h2 h3 h4 h5 h6 h7
  exact lv_ldc2 hx hb hown (hts _ hw) hd (hP _ _ _ _ _ k ad H locs ls h1 h2 h3 h4 h5 h6 h7)
theorem zk_ldcs (X : zCx p s m args c own cc nL A D κ ad0 adV) (hP : zLe P (zK p l e R s m args below meth c Q A D κ ad0 n0 nL)) {i : Nat} (hd : decode cc pc = .ok (.ldc (zm_ow i).2.1, 2)) (hn : nx = pc + 2) (hi : i < 12) (hw : own = (zm_ow i).1) (k : zo_c (.ref (1000 + i)) nx P C Qp L st u h) : zK p l e R s m args below meth c Q A D κ ad0 n0 nL pc L st u h := by
  subst hn
  obtain ⟨⟨hx, hb, hml, hown, hts⟩, hK, hA, hG⟩ := X
  intro ad H locs ls h1 h2 h3 h4 h5 h6 h7
  subst hw
  have e1 : ad (1000 + i) = ad0 (1000 + i) := h1 _ (Or.inr (by omega))
  refine va_ldcS (tx := (zm_ow i).2.2) (q := ad (1000 + i)) hx hb hown ?_ hd (hP _ _ _ _ _ k ad H locs ls h1 h2 h3 h4 h5 h6 h7)
  rw [e1]
  exact hG.2.2.2.2.2.2 i hi
theorem zk_iln (X : zCx p s m args c own cc nL A D κ ad0 adV) (hP : zLe P (zK p l e R s m args below meth c Q A D κ ad0 n0 nL)) {i : Nat} {j : Fin 4} (hd : decode cc pc = .ok (.iload_n j, 1)) (hn : nx = pc + 1) (hi : (j : Nat) = i) (k : zo_il i nx P C Qp L st u h) : zK p l e R s m args below meth c Q A D κ ad0 n0 nL pc L st u h := by
  subst hn
  obtain ⟨⟨hx, hb, hml, hown, hts⟩, hK, hA, hG⟩ := X
  intro ad H locs ls h1 h2 h3 h4 h5 h6 h7
  unfold zo_il at k
  split at k
  · next x hg => exact lv_iload_n hx hb hd hi (h7.at hg) (hP _ _ _ _ _ k ad H locs ls h1 h2 h3 h4 h5 h6 h7)
  · exact k.elim
theorem zk_il (X : zCx p s m args c own cc nL A D κ ad0 adV) (hP : zLe P (zK p l e R s m args below meth c Q A D κ ad0 n0 nL)) {i : Nat} (hd : decode cc pc = .ok (.iload i, 2)) (hn : nx = pc + 2)  (k : zo_il i nx P C Qp L st u h) : zK p l e R s m args below meth c Q A D κ ad0 n0 nL pc L st u h := by
  subst hn
  obtain ⟨⟨hx, hb, hml, hown, hts⟩, hK, hA, hG⟩ := X
  intro ad H locs ls h1 h2 h3 h4 h5 h6 h7
  unfold zo_il at k
  split at k
  · next x hg => exact lv_iload hx hb hd (h7.at hg) (hP _ _ _ _ _ k ad H locs ls h1 h2 h3 h4 h5 h6 h7)
  · exact k.elim
theorem zk_lln (X : zCx p s m args c own cc nL A D κ ad0 adV) (hP : zLe P (zK p l e R s m args below meth c Q A D κ ad0 n0 nL)) {i : Nat} {j : Fin 4} (hd : decode cc pc = .ok (.lload_n j, 1)) (hn : nx = pc + 1) (hi : (j : Nat) = i) (k : zo_ll i nx P C Qp L st u h) : zK p l e R s m args below meth c Q A D κ ad0 n0 nL pc L st u h := by
  subst hn
  obtain ⟨⟨hx, hb, hml, hown, hts⟩, hK, hA, hG⟩ := X
  intro ad H locs ls h1 h2 h3 h4 h5 h6 h7
  unfold zo_ll at k
  split at k
  · next x hg => exact lv_lload_n hx hb hd hi (h7.at hg) (hP _ _ _ _ _ k ad H locs ls h1 h2 h3 h4 h5 h6 h7)
  · exact k.elim
theorem zk_ll (X : zCx p s m args c own cc nL A D κ ad0 adV) (hP : zLe P (zK p l e R s m args below meth c Q A D κ ad0 n0 nL)) {i : Nat} (hd : decode cc pc = .ok (.lload i, 2)) (hn : nx = pc + 2)  (k : zo_ll i nx P C Qp L st u h) : zK p l e R s m args below meth c Q A D κ ad0 n0 nL pc L st u h := by
  subst hn
  obtain ⟨⟨hx, hb, hml, hown, hts⟩, hK, hA, hG⟩ := X
  intro ad H locs ls h1 h2 h3 h4 h5 h6 h7
  unfold zo_ll at k
  split at k
  · next x hg => exact lv_lload hx hb hd (h7.at hg) (hP _ _ _ _ _ k ad H locs ls h1 h2 h3 h4 h5 h6 h7)
  · exact k.elim
theorem zk_aln (X : zCx p s m args c own cc nL A D κ ad0 adV) (hP : zLe P (zK p l e R s m args below meth c Q A D κ ad0 n0 nL)) {i : Nat} {j : Fin 4} (hd : decode cc pc = .ok (.aload_n j, 1)) (hn : nx = pc + 1) (hi : (j : Nat) = i) (k : zo_al i nx P C Qp L st u h) : zK p l e R s m args below meth c Q A D κ ad0 n0 nL pc L st u h := by
  subst hn
  obtain ⟨⟨hx, hb, hml, hown, hts⟩, hK, hA, hG⟩ := X
  intro ad H locs ls h1 h2 h3 h4 h5 h6 h7
  unfold zo_al at k
  split at k
  · next x hg => exact lv_aload_n hx hb hd hi (h7.at hg) (hP _ _ _ _ _ k ad H locs ls h1 h2 h3 h4 h5 h6 h7)
  · exact k.elim
theorem zk_al (X : zCx p s m args c own cc nL A D κ ad0 adV) (hP : zLe P (zK p l e R s m args below meth c Q A D κ ad0 n0 nL)) {i : Nat} (hd : decode cc pc = .ok (.aload i, 2)) (hn : nx = pc + 2)  (k : zo_al i nx P C Qp L st u h) : zK p l e R s m args below meth c Q A D κ ad0 n0 nL pc L st u h := by
  subst hn
  obtain ⟨⟨hx, hb, hml, hown, hts⟩, hK, hA, hG⟩ := X
  intro ad H locs ls h1 h2 h3 h4 h5 h6 h7
  unfold zo_al at k
  split at k
  · next x hg => exact lv_aload hx hb hd (h7.at hg) (hP _ _ _ _ _ k ad H locs ls h1 h2 h3 h4 h5 h6 h7)
  · exact k.elim
theorem zk_isn (X : zCx p s m args c own cc nL A D κ ad0 adV) (hP : zLe P (zK p l e R s m args below meth c Q A D κ ad0 n0 nL)) {i : Nat} {j : Fin 4} (hd : decode cc pc = .ok (.istore_n j, 1)) (hn : nx = pc + 1) (hi : (j : Nat) = i) (hl : i < nL) (k : zo_is i nx P C Qp L st u h) : zK p l e R s m args below meth c Q A D κ ad0 n0 nL pc L st u h := by
  subst hn
  obtain ⟨⟨hx, hb, hml, hown, hts⟩, hK, hA, hG⟩ := X
  intro ad H locs ls h1 h2 h3 h4 h5 h6 h7
  unfold zo_is at k
  split at k
  · exact lv_istore_n hx hb hd hi h7.2 hl rfl (fun ls' hl' => hP _ _ _ _ _ k ad H locs ls' h1 h2 h3 h4 h5 h6 (zLs.st h7.1 hl'))
  · exact k.elim
theorem zk_is (X : zCx p s m args c own cc nL A D κ ad0 adV) (hP : zLe P (zK p l e R s m args below meth c Q A D κ ad0 n0 nL)) {i : Nat} (hd : decode cc pc = .ok (.istore i, 2)) (hn : nx = pc + 2) (hl : i < nL) (k : zo_is i nx P C Qp L st u h) : zK p l e R s m args below meth c Q A D κ ad0 n0 nL pc L st u h := by
  subst hn
  obtain ⟨⟨hx, hb, hml, hown, hts⟩, hK, hA, hG⟩ := X
  intro ad H locs ls h1 h2 h3 h4 h5 h6 h7
  unfold zo_is at k
  split at k
  · exact lv_istore hx hb hd h7.2 hl rfl (fun ls' hl' => hP _ _ _ _ _ k ad H locs ls' h1 h2 h3 h4 h5 h6 (zLs.st h7.1 hl'))
  · exact k.elim
theorem zk_asn (X : zCx p s m args c own cc nL A D κ ad0 adV) (hP : zLe P (zK p l e R s m args below meth c Q A D κ ad0 n0 nL)) {i : Nat} {j : Fin 4} (hd : decode cc pc = .ok (.astore_n j, 1)) (hn : nx = pc + 1) (hi : (j : Nat) = i) (hl : i < nL) (k : zo_as i nx P C Qp L st u h) : zK p l e R s m args below meth c Q A D κ ad0 n0 nL pc L st u h := by
  subst hn
  obtain ⟨⟨hx, hb, hml, hown, hts⟩, hK, hA, hG⟩ := X
  intro ad H locs ls h1 h2 h3 h4 h5 h6 h7
  unfold zo_as at k
  split at k
  · exact lv_astore_n hx hb hd hi h7.2 hl rfl (fun ls' hl' => hP _ _ _ _ _ k ad H locs ls' h1 h2 h3 h4 h5 h6 (zLs.st h7.1 hl'))
  · exact k.elim
theorem zk_as (X : zCx p s m args c own cc nL A D κ ad0 adV) (hP : zLe P (zK p l e R s m args below meth c Q A D κ ad0 n0 nL)) {i : Nat} (hd : decode cc pc = .ok (.astore i, 2)) (hn : nx = pc + 2) (hl : i < nL) (k : zo_as i nx P C Qp L st u h) : zK p l e R s m args below meth c Q A D κ ad0 n0 nL pc L st u h := by
  subst hn
  obtain ⟨⟨hx, hb, hml, hown, hts⟩, hK, hA, hG⟩ := X
  intro ad H locs ls h1 h2 h3 h4 h5 h6 h7
  unfold zo_as at k
  split at k
  · exact lv_astore hx hb hd h7.2 hl rfl (fun ls' hl' => hP _ _ _ _ _ k ad H locs ls' h1 h2 h3 h4 h5 h6 (zLs.st h7.1 hl'))
  · exact k.elim
theorem zk_lsn (X : zCx p s m args c own cc nL A D κ ad0 adV) (hP : zLe P (zK p l e R s m args below meth c Q A D κ ad0 n0 nL)) {i : Nat} {j : Fin 4} (hd : decode cc pc = .ok (.lstore_n j, 1)) (hn : nx = pc + 1) (hi : (j : Nat) = i) (hl : i + 1 < nL) (k : zo_ls i nx P C Qp L st u h) : zK p l e R s m args below meth c Q A D κ ad0 n0 nL pc L st u h := by
  subst hn
  obtain ⟨⟨hx, hb, hml, hown, hts⟩, hK, hA, hG⟩ := X
  intro ad H locs ls h1 h2 h3 h4 h5 h6 h7
  unfold zo_ls at k
  split at k
  · exact lv_lstore_n hx hb hd hi h7.2 hl rfl (fun ls' hl' => hP _ _ _ _ _ k ad H locs ls' h1 h2 h3 h4 h5 h6 (zLs.st2 h7.1 hl'))
  · exact k.elim
theorem zk_ls (X : zCx p s m args c own cc nL A D κ ad0 adV) (hP : zLe P (zK p l e R s m args below meth c Q A D κ ad0 n0 nL)) {i : Nat} (hd : decode cc pc = .ok (.lstore i, 2)) (hn : nx = pc + 2) (hl : i + 1 < nL) (k : zo_ls i nx P C Qp L st u h) : zK p l e R s m args below meth c Q A D κ ad0 n0 nL pc L st u h := by
  subst hn
  obtain ⟨⟨hx, hb, hml, hown, hts⟩, hK, hA, hG⟩ := X
  intro ad H locs ls h1 h2 h3 h4 h5 h6 h7
  unfold zo_ls at k
  split at k
  · exact lv_lstore hx hb hd h7.2 hl rfl (fun ls' hl' => hP _ _ _ _ _ k ad H locs ls' h1 h2 h3 h4 h5 h6 (zLs.st2 h7.1 hl'))
  · exact k.elim
theorem zk_inc (X : zCx p s m args c own cc nL A D κ ad0 adV) (hP : zLe P (zK p l e R s m args below meth c Q A D κ ad0 n0 nL)) {i : Nat} {n : Int} (hd : decode cc pc = .ok (.iinc i n, 3)) (hn : nx = pc + 3) {v : Int32} (hv : Int32.ofInt n = v) (k : zo_inc i v nx P C Qp L st u h) : zK p l e R s m args below meth c Q A D κ ad0 n0 nL pc L st u h := by
  subst hn
  obtain ⟨⟨hx, hb, hml, hown, hts⟩, hK, hA, hG⟩ := X
  intro ad H locs ls h1 h2 h3 h4 h5 h6 h7
  unfold zo_inc at k
  split at k
  · next x hg =>
    obtain ⟨q, hq⟩ : ∃ q, (zA ad 0 L)[q]? = some (i, Value.int x) := by
      rw [zm_g_eq] at hg
      have h8 := zA_mem (i := 0) (ad := ad) hg
      rw [Nat.zero_add] at h8
      exact List.getElem?_of_mem h8
    exact lv_iinc (v := x + v) hx hb hd h7.2 hq (by rw [hv]) (h7.lt hg) rfl (fun ls' hl' => hP _ _ _ _ _ k ad H locs ls' h1 h2 h3 h4 h5 h6 (zLs.inc h7 hg hl'))
  · exact k.elim
theorem zk_iadd (X : zCx p s m args c own cc nL A D κ ad0 adV) (hP : zLe P (zK p l e R s m args below meth c Q A D κ ad0 n0 nL)) (hd : decode cc pc = .ok (.iadd, 1)) (hn : nx = pc + 1)  (k : zo_iadd nx P C Qp L st u h) : zK p l e R s m args below meth c Q A D κ ad0 n0 nL pc L st u h := by
  subst hn
  obtain ⟨⟨hx, hb, hml, hown, hts⟩, hK, hA, hG⟩ := X
  intro ad H locs ls h1 h2 h3 h4 h5 h6 h7
  unfold zo_iadd at k
  split at k
  · exact lv_iadd hx hb hd (hP _ _ _ _ _ k ad H locs ls h1 h2 h3 h4 h5 h6 h7)
  · exact k.elim
theorem zk_isub (X : zCx p s m args c own cc nL A D κ ad0 adV) (hP : zLe P (zK p l e R s m args below meth c Q A D κ ad0 n0 nL)) (hd : decode cc pc = .ok (.isub, 1)) (hn : nx = pc + 1)  (k : zo_isub nx P C Qp L st u h) : zK p l e R s m args below meth c Q A D κ ad0 n0 nL pc L st u h := by
  subst hn
  obtain ⟨⟨hx, hb, hml, hown, hts⟩, hK, hA, hG⟩ := X
  intro ad H locs ls h1 h2 h3 h4 h5 h6 h7
  unfold zo_isub at k
  split at k
  · exact lv_isub hx hb hd (hP _ _ _ _ _ k ad H locs ls h1 h2 h3 h4 h5 h6 h7)
  · exact k.elim
theorem zk_imul (X : zCx p s m args c own cc nL A D κ ad0 adV) (hP : zLe P (zK p l e R s m args below meth c Q A D κ ad0 n0 nL)) (hd : decode cc pc = .ok (.imul, 1)) (hn : nx = pc + 1)  (k : zo_imul nx P C Qp L st u h) : zK p l e R s m args below meth c Q A D κ ad0 n0 nL pc L st u h := by
  subst hn
  obtain ⟨⟨hx, hb, hml, hown, hts⟩, hK, hA, hG⟩ := X
  intro ad H locs ls h1 h2 h3 h4 h5 h6 h7
  unfold zo_imul at k
  split at k
  · exact lv_imul hx hb hd (hP _ _ _ _ _ k ad H locs ls h1 h2 h3 h4 h5 h6 h7)
  · exact k.elim
theorem zk_iand (X : zCx p s m args c own cc nL A D κ ad0 adV) (hP : zLe P (zK p l e R s m args below meth c Q A D κ ad0 n0 nL)) (hd : decode cc pc = .ok (.iand, 1)) (hn : nx = pc + 1)  (k : zo_iand nx P C Qp L st u h) : zK p l e R s m args below meth c Q A D κ ad0 n0 nL pc L st u h := by
  subst hn
  obtain ⟨⟨hx, hb, hml, hown, hts⟩, hK, hA, hG⟩ := X
  intro ad H locs ls h1 h2 h3 h4 h5 h6 h7
  unfold zo_iand at k
  split at k
  · exact lv_iand hx hb hd (hP _ _ _ _ _ k ad H locs ls h1 h2 h3 h4 h5 h6 h7)
  · exact k.elim
theorem zk_ior (X : zCx p s m args c own cc nL A D κ ad0 adV) (hP : zLe P (zK p l e R s m args below meth c Q A D κ ad0 n0 nL)) (hd : decode cc pc = .ok (.ior, 1)) (hn : nx = pc + 1)  (k : zo_ior nx P C Qp L st u h) : zK p l e R s m args below meth c Q A D κ ad0 n0 nL pc L st u h := by
  subst hn
  obtain ⟨⟨hx, hb, hml, hown, hts⟩, hK, hA, hG⟩ := X
  intro ad H locs ls h1 h2 h3 h4 h5 h6 h7
  unfold zo_ior at k
  split at k
  · exact lv_ior hx hb hd (hP _ _ _ _ _ k ad H locs ls h1 h2 h3 h4 h5 h6 h7)
  · exact k.elim
theorem zk_ishl (X : zCx p s m args c own cc nL A D κ ad0 adV) (hP : zLe P (zK p l e R s m args below meth c Q A D κ ad0 n0 nL)) (hd : decode cc pc = .ok (.ishl, 1)) (hn : nx = pc + 1)  (k : zo_ishl nx P C Qp L st u h) : zK p l e R s m args below meth c Q A D κ ad0 n0 nL pc L st u h := by
  subst hn
  obtain ⟨⟨hx, hb, hml, hown, hts⟩, hK, hA, hG⟩ := X
  intro ad H locs ls h1 h2 h3 h4 h5 h6 h7
  unfold zo_ishl at k
  split at k
  · exact lv_ishl hx hb hd (hP _ _ _ _ _ k ad H locs ls h1 h2 h3 h4 h5 h6 h7)
  · exact k.elim
theorem zk_ishr (X : zCx p s m args c own cc nL A D κ ad0 adV) (hP : zLe P (zK p l e R s m args below meth c Q A D κ ad0 n0 nL)) (hd : decode cc pc = .ok (.ishr, 1)) (hn : nx = pc + 1)  (k : zo_ishr nx P C Qp L st u h) : zK p l e R s m args below meth c Q A D κ ad0 n0 nL pc L st u h := by
  subst hn
  obtain ⟨⟨hx, hb, hml, hown, hts⟩, hK, hA, hG⟩ := X
  intro ad H locs ls h1 h2 h3 h4 h5 h6 h7
  unfold zo_ishr at k
  split at k
  · exact lv_ishr hx hb hd (hP _ _ _ _ _ k ad H locs ls h1 h2 h3 h4 h5 h6 h7)
  · exact k.elim
theorem zk_ladd (X : zCx p s m args c own cc nL A D κ ad0 adV) (hP : zLe P (zK p l e R s m args below meth c Q A D κ ad0 n0 nL)) (hd : decode cc pc = .ok (.ladd, 1)) (hn : nx = pc + 1)  (k : zo_ladd nx P C Qp L st u h) : zK p l e R s m args below meth c Q A D κ ad0 n0 nL pc L st u h := by
  subst hn
  obtain ⟨⟨hx, hb, hml, hown, hts⟩, hK, hA, hG⟩ := X
  intro ad H locs ls h1 h2 h3 h4 h5 h6 h7
  unfold zo_ladd at k
  split at k
  · exact lv_ladd hx hb hd (hP _ _ _ _ _ k ad H locs ls h1 h2 h3 h4 h5 h6 h7)
  · exact k.elim
theorem zk_lmul (X : zCx p s m args c own cc nL A D κ ad0 adV) (hP : zLe P (zK p l e R s m args below meth c Q A D κ ad0 n0 nL)) (hd : decode cc pc = .ok (.lmul, 1)) (hn : nx = pc + 1)  (k : zo_lmul nx P C Qp L st u h) : zK p l e R s m args below meth c Q A D κ ad0 n0 nL pc L st u h := by
  subst hn
  obtain ⟨⟨hx, hb, hml, hown, hts⟩, hK, hA, hG⟩ := X
  intro ad H locs ls h1 h2 h3 h4 h5 h6 h7
  unfold zo_lmul at k
  split at k
  · exact lv_lmul hx hb hd (hP _ _ _ _ _ k ad H locs ls h1 h2 h3 h4 h5 h6 h7)
  · exact k.elim
theorem zk_land (X : zCx p s m args c own cc nL A D κ ad0 adV) (hP : zLe P (zK p l e R s m args below meth c Q A D κ ad0 n0 nL)) (hd : decode cc pc = .ok (.land, 1)) (hn : nx = pc + 1)  (k : zo_land nx P C Qp L st u h) : zK p l e R s m args below meth c Q A D κ ad0 n0 nL pc L st u h := by
  subst hn
  obtain ⟨⟨hx, hb, hml, hown, hts⟩, hK, hA, hG⟩ := X
  intro ad H locs ls h1 h2 h3 h4 h5 h6 h7
  unfold zo_land at k
  split at k
  · exact lv_land hx hb hd (hP _ _ _ _ _ k ad H locs ls h1 h2 h3 h4 h5 h6 h7)
  · exact k.elim
theorem zk_lor (X : zCx p s m args c own cc nL A D κ ad0 adV) (hP : zLe P (zK p l e R s m args below meth c Q A D κ ad0 n0 nL)) (hd : decode cc pc = .ok (.lor, 1)) (hn : nx = pc + 1)  (k : zo_lor nx P C Qp L st u h) : zK p l e R s m args below meth c Q A D κ ad0 n0 nL pc L st u h := by
  subst hn
  obtain ⟨⟨hx, hb, hml, hown, hts⟩, hK, hA, hG⟩ := X
  intro ad H locs ls h1 h2 h3 h4 h5 h6 h7
  unfold zo_lor at k
  split at k
  · exact lv_lor hx hb hd (hP _ _ _ _ _ k ad H locs ls h1 h2 h3 h4 h5 h6 h7)
  · exact k.elim
theorem zk_lcmp (X : zCx p s m args c own cc nL A D κ ad0 adV) (hP : zLe P (zK p l e R s m args below meth c Q A D κ ad0 n0 nL)) (hd : decode cc pc = .ok (.lcmp, 1)) (hn : nx = pc + 1)  (k : zo_lcmp nx P C Qp L st u h) : zK p l e R s m args below meth c Q A D κ ad0 n0 nL pc L st u h := by
  subst hn
  obtain ⟨⟨hx, hb, hml, hown, hts⟩, hK, hA, hG⟩ := X
  intro ad H locs ls h1 h2 h3 h4 h5 h6 h7
  unfold zo_lcmp at k
  split at k
  · exact W.lcmp hx hb hd (hP _ _ _ _ _ k ad H locs ls h1 h2 h3 h4 h5 h6 h7)
  · exact k.elim
theorem zk_lshl (X : zCx p s m args c own cc nL A D κ ad0 adV) (hP : zLe P (zK p l e R s m args below meth c Q A D κ ad0 n0 nL)) (hd : decode cc pc = .ok (.lshl, 1)) (hn : nx = pc + 1)  (k : zo_lshl nx P C Qp L st u h) : zK p l e R s m args below meth c Q A D κ ad0 n0 nL pc L st u h := by
  subst hn
  obtain ⟨⟨hx, hb, hml, hown, hts⟩, hK, hA, hG⟩ := X
  intro ad H locs ls h1 h2 h3 h4 h5 h6 h7
  unfold zo_lshl at k
  split at k
  · exact lv_lshl hx hb hd rfl (hP _ _ _ _ _ k ad H locs ls h1 h2 h3 h4 h5 h6 h7)
  · exact k.elim
theorem zk_i2l (X : zCx p s m args c own cc nL A D κ ad0 adV) (hP : zLe P (zK p l e R s m args below meth c Q A D κ ad0 n0 nL)) (hd : decode cc pc = .ok (.i2l, 1)) (hn : nx = pc + 1)  (k : zo_i2l nx P C Qp L st u h) : zK p l e R s m args below meth c Q A D κ ad0 n0 nL pc L st u h := by
  subst hn
  obtain ⟨⟨hx, hb, hml, hown, hts⟩, hK, hA, hG⟩ := X
  intro ad H locs ls h1 h2 h3 h4 h5 h6 h7
  unfold zo_i2l at k
  split at k
  · exact lv_i2l hx hb hd rfl (hP _ _ _ _ _ k ad H locs ls h1 h2 h3 h4 h5 h6 h7)
  · exact k.elim
theorem zk_l2i (X : zCx p s m args c own cc nL A D κ ad0 adV) (hP : zLe P (zK p l e R s m args below meth c Q A D κ ad0 n0 nL)) (hd : decode cc pc = .ok (.l2i, 1)) (hn : nx = pc + 1)  (k : zo_l2i nx P C Qp L st u h) : zK p l e R s m args below meth c Q A D κ ad0 n0 nL pc L st u h := by
  subst hn
  obtain ⟨⟨hx, hb, hml, hown, hts⟩, hK, hA, hG⟩ := X
  intro ad H locs ls h1 h2 h3 h4 h5 h6 h7
  unfold zo_l2i at k
  split at k
  · exact lv_l2i hx hb hd rfl (hP _ _ _ _ _ k ad H locs ls h1 h2 h3 h4 h5 h6 h7)
  · exact k.elim
theorem zk_i2b (X : zCx p s m args c own cc nL A D κ ad0 adV) (hP : zLe P (zK p l e R s m args below meth c Q A D κ ad0 n0 nL)) (hd : decode cc pc = .ok (.i2b, 1)) (hn : nx = pc + 1)  (k : zo_i2b nx P C Qp L st u h) : zK p l e R s m args below meth c Q A D κ ad0 n0 nL pc L st u h := by
  subst hn
  obtain ⟨⟨hx, hb, hml, hown, hts⟩, hK, hA, hG⟩ := X
  intro ad H locs ls h1 h2 h3 h4 h5 h6 h7
  unfold zo_i2b at k
  split at k
  · exact lv_i2b hx hb hd rfl (hP _ _ _ _ _ k ad H locs ls h1 h2 h3 h4 h5 h6 h7)
  · exact k.elim
theorem zk_i2s (X : zCx p s m args c own cc nL A D κ ad0 adV) (hP : zLe P (zK p l e R s m args below meth c Q A D κ ad0 n0 nL)) (hd : decode cc pc = .ok (.i2s, 1)) (hn : nx = pc + 1)  (k : zo_i2s nx P C Qp L st u h) : zK p l e R s m args below meth c Q A D κ ad0 n0 nL pc L st u h := by
  subst hn
  obtain ⟨⟨hx, hb, hml, hown, hts⟩, hK, hA, hG⟩ := X
  intro ad H locs ls h1 h2 h3 h4 h5 h6 h7
  unfold zo_i2s at k
  split at k
  · exact lv_i2s hx hb hd rfl (hP _ _ _ _ _ k ad H locs ls h1 h2 h3 h4 h5 h6 h7)
  · exact k.elim
theorem zk_idiv (X : zCx p s m args c own cc nL A D κ ad0 adV) (hP : zLe P (zK p l e R s m args below meth c Q A D κ ad0 n0 nL)) (hd : decode cc pc = .ok (.idiv, 1)) (hn : nx = pc + 1)  (k : zo_idiv nx P C Qp L st u h) : zK p l e R s m args below meth c Q A D κ ad0 n0 nL pc L st u h := by
  subst hn
  obtain ⟨⟨hx, hb, hml, hown, hts⟩, hK, hA, hG⟩ := X
  intro ad H locs ls h1 h2 h3 h4 h5 h6 h7
  unfold zo_idiv at k
  split at k
  · exact lv_idiv hx hb hd k.1 (hP _ _ _ _ _ k.2 ad H locs ls h1 h2 h3 h4 h5 h6 h7)
  · exact k.elim
theorem zk_irem (X : zCx p s m args c own cc nL A D κ ad0 adV) (hP : zLe P (zK p l e R s m args below meth c Q A D κ ad0 n0 nL)) (hd : decode cc pc = .ok (.irem, 1)) (hn : nx = pc + 1)  (k : zo_irem nx P C Qp L st u h) : zK p l e R s m args below meth c Q A D κ ad0 n0 nL pc L st u h := by
  subst hn
  obtain ⟨⟨hx, hb, hml, hown, hts⟩, hK, hA, hG⟩ := X
  intro ad H locs ls h1 h2 h3 h4 h5 h6 h7
  unfold zo_irem at k
  split at k
  · exact lv_irem hx hb hd k.1 (hP _ _ _ _ _ k.2 ad H locs ls h1 h2 h3 h4 h5 h6 h7)
  · exact k.elim
theorem zk_dup (X : zCx p s m args c own cc nL A D κ ad0 adV) (hP : zLe P (zK p l e R s m args below meth c Q A D κ ad0 n0 nL)) (hd : decode cc pc = .ok (.dup, 1)) (hn : nx = pc + 1)  (k : zo_dup nx P C Qp L st u h) : zK p l e R s m args below meth c Q A D κ ad0 n0 nL pc L st u h := by
  subst hn
  obtain ⟨⟨hx, hb, hml, hown, hts⟩, hK, hA, hG⟩ := X
  intro ad H locs ls h1 h2 h3 h4 h5 h6 h7
  unfold zo_dup at k
  split at k
  · obtain ⟨c1, k⟩ := zcond k
    exact lv_dup hx hb hd (by rw [zt_cat]; exact Nat.eq_of_beq_eq_true c1) (hP _ _ _ _ _ k ad H locs ls h1 h2 h3 h4 h5 h6 h7)
  · exact k.elim
theorem zk_dup2 (X : zCx p s m args c own cc nL A D κ ad0 adV) (hP : zLe P (zK p l e R s m args below meth c Q A D κ ad0 n0 nL)) (hd : decode cc pc = .ok (.dup2, 1)) (hn : nx = pc + 1)  (k : zo_dup2 nx P C Qp L st u h) : zK p l e R s m args below meth c Q A D κ ad0 n0 nL pc L st u h := by
  subst hn
  obtain ⟨⟨hx, hb, hml, hown, hts⟩, hK, hA, hG⟩ := X
  intro ad H locs ls h1 h2 h3 h4 h5 h6 h7
  unfold zo_dup2 at k
  split at k
  · obtain ⟨c1, k⟩ := zcond k
    obtain ⟨c2, k⟩ := zcond k
    exact lv_dup2_11 hx hb hd (by rw [zt_cat]; exact Nat.eq_of_beq_eq_true c1) (by rw [zt_cat]; exact Nat.eq_of_beq_eq_true c2) (hP _ _ _ _ _ k ad H locs ls h1 h2 h3 h4 h5 h6 h7)
  · exact k.elim
theorem zk_pop (X : zCx p s m args c own cc nL A D κ ad0 adV) (hP : zLe P (zK p l e R s m args below meth c Q A D κ ad0 n0 nL)) (hd : decode cc pc = .ok (.pop, 1)) (hn : nx = pc + 1)  (k : zo_pop nx P C Qp L st u h) : zK p l e R s m args below meth c Q A D κ ad0 n0 nL pc L st u h := by
  subst hn
  obtain ⟨⟨hx, hb, hml, hown, hts⟩, hK, hA, hG⟩ := X
  intro ad H locs ls h1 h2 h3 h4 h5 h6 h7
  unfold zo_pop at k
  split at k
  · obtain ⟨c1, k⟩ := zcond k
    exact lv_pop hx hb hd (by rw [zt_cat]; exact Nat.eq_of_beq_eq_true c1) (hP _ _ _ _ _ k ad H locs ls h1 h2 h3 h4 h5 h6 h7)
  · exact k.elim
theorem zk_goto (X : zCx p s m args c own cc nL A D κ ad0 adV) (hP : zLe P (zK p l e R s m args below meth c Q A D κ ad0 n0 nL)) {off : Int} {t : Nat} (hd : decode cc pc = .ok (.goto off, 3)) (ht : (pc : Int) + off = (t : Int)) (k : zo_goto t P C Qp L st u h) : zK p l e R s m args below meth c Q A D κ ad0 n0 nL pc L st u h := by
  obtain ⟨⟨hx, hb, hml, hown, hts⟩, hK, hA, hG⟩ := X
  intro ad H locs ls h1 h2 h3 h4 h5 h6 h7
  exact lv_goto hx hb hd ht (hP _ _ _ _ _ k ad H locs ls h1 h2 h3 h4 h5 h6 h7)
theorem zk_ifeq (X : zCx p s m args c own cc nL A D κ ad0 adV) (hP : zLe P (zK p l e R s m args below meth c Q A D κ ad0 n0 nL)) {off : Int} {t : Nat} (hd : decode cc pc = .ok (.ifCond .eq off, 3)) (hn : nx = pc + 3) (ht : (pc : Int) + off = (t : Int)) (k : zo_ifeq t nx P C Qp L st u h) : zK p l e R s m args below meth c Q A D κ ad0 n0 nL pc L st u h := by
  subst hn
  obtain ⟨⟨hx, hb, hml, hown, hts⟩, hK, hA, hG⟩ := X
  intro ad H locs ls h1 h2 h3 h4 h5 h6 h7
  unfold zo_ifeq at k
  split at k
  · exact lv_if_eq hx hb hd ht (fun z => hP _ _ _ _ _ (k.1 z) ad H locs ls h1 h2 h3 h4 h5 h6 h7) (fun z => hP _ _ _ _ _ (k.2 z) ad H locs ls h1 h2 h3 h4 h5 h6 h7)
  · exact k.elim
theorem zk_ifne (X : zCx p s m args c own cc nL A D κ ad0 adV) (hP : zLe P (zK p l e R s m args below meth c Q A D κ ad0 n0 nL)) {off : Int} {t : Nat} (hd : decode cc pc = .ok (.ifCond .ne off, 3)) (hn : nx = pc + 3) (ht : (pc : Int) + off = (t : Int)) (k : zo_ifne t nx P C Qp L st u h) : zK p l e R s m args below meth c Q A D κ ad0 n0 nL pc L st u h := by
  subst hn
  obtain ⟨⟨hx, hb, hml, hown, hts⟩, hK, hA, hG⟩ := X
  intro ad H locs ls h1 h2 h3 h4 h5 h6 h7
  unfold zo_ifne at k
  split at k
  · exact lv_if_ne hx hb hd ht (fun z => hP _ _ _ _ _ (k.1 z) ad H locs ls h1 h2 h3 h4 h5 h6 h7) (fun z => hP _ _ _ _ _ (k.2 z) ad H locs ls h1 h2 h3 h4 h5 h6 h7)
  · exact k.elim
theorem zk_iflt (X : zCx p s m args c own cc nL A D κ ad0 adV) (hP : zLe P (zK p l e R s m args below meth c Q A D κ ad0 n0 nL)) {off : Int} {t : Nat} (hd : decode cc pc = .ok (.ifCond .lt off, 3)) (hn : nx = pc + 3) (ht : (pc : Int) + off = (t : Int)) (k : zo_iflt t nx P C Qp L st u h) : zK p l e R s m args below meth c Q A D κ ad0 n0 nL pc L st u h := by
  subst hn
  obtain ⟨⟨hx, hb, hml, hown, hts⟩, hK, hA, hG⟩ := X
  intro ad H locs ls h1 h2 h3 h4 h5 h6 h7
  unfold zo_iflt at k
  split at k
  · exact lv_if_lt hx hb hd ht (fun z => hP _ _ _ _ _ (k.1 z) ad H locs ls h1 h2 h3 h4 h5 h6 h7) (fun z => hP _ _ _ _ _ (k.2 z) ad H locs ls h1 h2 h3 h4 h5 h6 h7)
  · exact k.elim
theorem zk_ifge (X : zCx p s m args c own cc nL A D κ ad0 adV) (hP : zLe P (zK p l e R s m args below meth c Q A D κ ad0 n0 nL)) {off : Int} {t : Nat} (hd : decode cc pc = .ok (.ifCond .ge off, 3)) (hn : nx = pc + 3) (ht : (pc : Int) + off = (t : Int)) (k : zo_ifge t nx P C Qp L st u h) : zK p l e R s m args below meth c Q A D κ ad0 n0 nL pc L st u h := by
  subst hn
  obtain ⟨⟨hx, hb, hml, hown, hts⟩, hK, hA, hG⟩ := X
  intro ad H locs ls h1 h2 h3 h4 h5 h6 h7
  unfold zo_ifge at k
  split at k
  · exact lv_if_ge hx hb hd ht (fun z => hP _ _ _ _ _ (k.1 z) ad H locs ls h1 h2 h3 h4 h5 h6 h7) (fun z => hP _ _ _ _ _ (k.2 z) ad H locs ls h1 h2 h3 h4 h5 h6 h7)
  · exact k.elim
theorem zk_ifgt (X : zCx p s m args c own cc nL A D κ ad0 adV) (hP : zLe P (zK p l e R s m args below meth c Q A D κ ad0 n0 nL)) {off : Int} {t : Nat} (hd : decode cc pc = .ok (.ifCond .gt off, 3)) (hn : nx = pc + 3) (ht : (pc : Int) + off = (t : Int)) (k : zo_ifgt t nx P C Qp L st u h) : zK p l e R s m args below meth c Q A D κ ad0 n0 nL pc L st u h := by
  subst hn
  obtain ⟨⟨hx, hb, hml, hown, hts⟩, hK, hA, hG⟩ := X
  intro ad H locs ls h1 h2 h3 h4 h5 h6 h7
  unfold zo_ifgt at k
  split at k
  · exact lv_if_gt hx hb hd ht (fun z => hP _ _ _ _ _ (k.1 z) ad H locs ls h1 h2 h3 h4 h5 h6 h7) (fun z => hP _ _ _ _ _ (k.2 z) ad H locs ls h1 h2 h3 h4 h5 h6 h7)
  · exact k.elim
theorem zk_ifle (X : zCx p s m args c own cc nL A D κ ad0 adV) (hP : zLe P (zK p l e R s m args below meth c Q A D κ ad0 n0 nL)) {off : Int} {t : Nat} (hd : decode cc pc = .ok (.ifCond .le off, 3)) (hn : nx = pc + 3) (ht : (pc : Int) + off = (t : Int)) (k : zo_ifle t nx P C Qp L st u h) : zK p l e R s m args below meth c Q A D κ ad0 n0 nL pc L st u h := by
  subst hn
  obtain ⟨⟨hx, hb, hml, hown, hts⟩, hK, hA, hG⟩ := X
  intro ad H locs ls h1 h2 h3 h4 h5 h6 h7
  unfold zo_ifle at k
  split at k
  · exact lv_if_le hx hb hd ht (fun z => hP _ _ _ _ _ (k.1 z) ad H locs ls h1 h2 h3 h4 h5 h6 h7) (fun z => hP _ _ _ _ _ (k.2 z) ad H locs ls h1 h2 h3 h4 h5 h6 h7)
  · exact k.elim
theorem zk_ceq (X : zCx p s m args c own cc nL A D κ ad0 adV) (hP : zLe P (zK p l e R s m args below meth c Q A D κ ad0 n0 nL)) {off : Int} {t : Nat} (hd : decode cc pc = .ok (.if_icmp .eq off, 3)) (hn : nx = pc + 3) (ht : (pc : Int) + off = (t : Int)) (k : zo_ceq t nx P C Qp L st u h) : zK p l e R s m args below meth c Q A D κ ad0 n0 nL pc L st u h := by
  subst hn
  obtain ⟨⟨hx, hb, hml, hown, hts⟩, hK, hA, hG⟩ := X
  intro ad H locs ls h1 h2 h3 h4 h5 h6 h7
  unfold zo_ceq at k
  split at k
  · exact lv_icmp_eq hx hb hd ht (fun z => hP _ _ _ _ _ (k.1 z) ad H locs ls h1 h2 h3 h4 h5 h6 h7) (fun z => hP _ _ _ _ _ (k.2 z) ad H locs ls h1 h2 h3 h4 h5 h6 h7)
  · exact k.elim
theorem zk_cne (X : zCx p s m args c own cc nL A D κ ad0 adV) (hP : zLe P (zK p l e R s m args below meth c Q A D κ ad0 n0 nL)) {off : Int} {t : Nat} (hd : decode cc pc = .ok (.if_icmp .ne off, 3)) (hn : nx = pc + 3) (ht : (pc : Int) + off = (t : Int)) (k : zo_cne t nx P C Qp L st u h) : zK p l e R s m args below meth c Q A D κ ad0 n0 nL pc L st u h := by
  subst hn
  obtain ⟨⟨hx, hb, hml, hown, hts⟩, hK, hA, hG⟩ := X
  intro ad H locs ls h1 h2 h3 h4 h5 h6 h7
  unfold zo_cne at k
  split at k
  · exact lv_icmp_ne hx hb hd ht (fun z => hP _ _ _ _ _ (k.1 z) ad H locs ls h1 h2 h3 h4 h5 h6 h7) (fun z => hP _ _ _ _ _ (k.2 z) ad H locs ls h1 h2 h3 h4 h5 h6 h7)
  · exact k.elim
theorem zk_clt (X : zCx p s m args c own cc nL A D κ ad0 adV) (hP : zLe P (zK p l e R s m args below meth c Q A D κ ad0 n0 nL)) {off : Int} {t : Nat} (hd : decode cc pc = .ok (.if_icmp .lt off, 3)) (hn : nx = pc + 3) (ht : (pc : Int) + off = (t : Int)) (k : zo_clt t nx P C Qp L st u h) : zK p l e R s m args below meth c Q A D κ ad0 n0 nL pc L st u h := by
  subst hn
  obtain ⟨⟨hx, hb, hml, hown, hts⟩, hK, hA, hG⟩ := X
  intro ad H locs ls h1 h2 h3 h4 h5 h6 h7
  unfold zo_clt at k
  split at k
  · exact lv_icmp_lt hx hb hd ht (fun z => hP _ _ _ _ _ (k.1 z) ad H locs ls h1 h2 h3 h4 h5 h6 h7) (fun z => hP _ _ _ _ _ (k.2 z) ad H locs ls h1 h2 h3 h4 h5 h6 h7)
  · exact k.elim
theorem zk_cge (X : zCx p s m args c own cc nL A D κ ad0 adV) (hP : zLe P (zK p l e R s m args below meth c Q A D κ ad0 n0 nL)) {off : Int} {t : Nat} (hd : decode cc pc = .ok (.if_icmp .ge off, 3)) (hn : nx = pc + 3) (ht : (pc : Int) + off = (t : Int)) (k : zo_cge t nx P C Qp L st u h) : zK p l e R s m args below meth c Q A D κ ad0 n0 nL pc L st u h := by
  subst hn
  obtain ⟨⟨hx, hb, hml, hown, hts⟩, hK, hA, hG⟩ := X
  intro ad H locs ls h1 h2 h3 h4 h5 h6 h7
  unfold zo_cge at k
  split at k
  · exact lv_icmp_ge hx hb hd ht (fun z => hP _ _ _ _ _ (k.1 z) ad H locs ls h1 h2 h3 h4 h5 h6 h7) (fun z => hP _ _ _ _ _ (k.2 z) ad H locs ls h1 h2 h3 h4 h5 h6 h7)
  · exact k.elim
theorem zk_cgt (X : zCx p s m args c own cc nL A D κ ad0 adV) (hP : zLe P (zK p l e R s m args below meth c Q A D κ ad0 n0 nL)) {off : Int} {t : Nat} (hd : decode cc pc = .ok (.if_icmp .gt off, 3)) (hn : nx = pc + 3) (ht : (pc : Int) + off = (t : Int)) (k : zo_cgt t nx P C Qp L st u h) : zK p l e R s m args below meth c Q A D κ ad0 n0 nL pc L st u h := by
  subst hn
  obtain ⟨⟨hx, hb, hml, hown, hts⟩, hK, hA, hG⟩ := X
  intro ad H locs ls h1 h2 h3 h4 h5 h6 h7
  unfold zo_cgt at k
  split at k
  · exact lv_icmp_gt hx hb hd ht (fun z => hP _ _ _ _ _ (k.1 z) ad H locs ls h1 h2 h3 h4 h5 h6 h7) (fun z => hP _ _ _ _ _ (k.2 z) ad H locs ls h1 h2 h3 h4 h5 h6 h7)
  · exact k.elim
theorem zk_cle (X : zCx p s m args c own cc nL A D κ ad0 adV) (hP : zLe P (zK p l e R s m args below meth c Q A D κ ad0 n0 nL)) {off : Int} {t : Nat} (hd : decode cc pc = .ok (.if_icmp .le off, 3)) (hn : nx = pc + 3) (ht : (pc : Int) + off = (t : Int)) (k : zo_cle t nx P C Qp L st u h) : zK p l e R s m args below meth c Q A D κ ad0 n0 nL pc L st u h := by
  subst hn
  obtain ⟨⟨hx, hb, hml, hown, hts⟩, hK, hA, hG⟩ := X
  intro ad H locs ls h1 h2 h3 h4 h5 h6 h7
  unfold zo_cle at k
  split at k
  · exact lv_icmp_le hx hb hd ht (fun z => hP _ _ _ _ _ (k.1 z) ad H locs ls h1 h2 h3 h4 h5 h6 h7) (fun z => hP _ _ _ _ _ (k.2 z) ad H locs ls h1 h2 h3 h4 h5 h6 h7)
  · exact k.elim
end ZK
end
section
/-! EACH INSTRUCTION, second part: switches, fields, arrays, makings, calls, ends -/
theorem zm_sw_out {F : Nat → Prop} {x : Int32} {d : Nat} : ∀ {ts : List Nat} {a : Nat}, (∀ j, j < ts.length → ¬ x = nI (a + j)) → zm_sw F x d (nI a) ts → F d
  | [], _, _, k => k
  | t :: ts, a, hx, k => by
    have h0 := hx 0 (by simp)
    rw [Nat.add_zero] at h0
    have k1 := k.2 h0
    rw [nI_1] at k1
    refine zm_sw_out (ts := ts) (a := a + 1) (fun j hj => ?_) k1
    rw [show a + 1 + j = a + (j + 1) by omega]
    exact hx (j + 1) (by simp; omega)
theorem zm_sw_in {F : Nat → Prop} {x : Int32} {d : Nat} : ∀ {ts : List Nat} {a j t : Nat}, a + j < 2 ^ 31 → x = nI (a + j) → ts[j]? = some t → zm_sw F x d (nI a) ts → F t
  | [], _, _, _, _, _, ht, _ => by simp at ht
  | t0 :: ts, a, 0, t, _, hx, ht, k => by
    simp only [List.getElem?_cons_zero, Option.some.injEq] at ht
    subst ht
    exact k.1 hx
  | t0 :: ts, a, j + 1, t, hl, hx, ht, k => by
    have k1 := k.2 (fun e => by rw [hx] at e; have := (nI_eq (by omega) (by omega)).mp e; omega)
    rw [nI_1] at k1
    exact zm_sw_in (ts := ts) (a := a + 1) (j := j) (by omega) (by rw [hx]; congr 1; omega) (by simpa using ht) k1
theorem zm_sp_eq : ∀ {n : Nat} {acc st as r : List Value}, zm_sp n acc st = some (as, r) → as.reverse ++ r = acc.reverse ++ st ∧ as.length = n + acc.length
  | 0, acc, st, as, r, h => by
    simp only [zm_sp, Option.some.injEq, Prod.mk.injEq] at h
    obtain ⟨rfl, rfl⟩ := h
    exact ⟨rfl, by omega⟩
  | n + 1, acc, v :: st, as, r, h => by
    obtain ⟨h1, h2⟩ := zm_sp_eq (n := n) (acc := v :: acc) (st := st) h
    refine ⟨by rw [h1]; simp, by rw [h2]; simp; omega⟩
  | n + 1, acc, [], as, r, h => by simp [zm_sp] at h
theorem zin_nI {j n : Nat} (hj : j < n) (hn : Nat.ble n 1000 = true) : vp_in (nI j) n ∧ (nI j).toNatClampNeg = j := by
  have := Nat.le_of_ble_eq_true hn
  exact ⟨vp_in_nI hj (by omega), nI_clamp (by omega)⟩
theorem znn {n : Nat} (h : n ≤ 1000) : ¬ nI n < 0 ∧ (nI n).toNatClampNeg = n := ⟨nI_pos (by omega), nI_clamp (by omega)⟩
section ZK2
variable {p : Program} {l : Launch} {e : Env} {R : Room} {s : State} {m : MethodId} {args : Array Value} {below : List Frame} {meth : Method} {c : Code} {Q : State → Prop} {A : Nat → Prop} {D : va_G} {κ : zKp} {ad0 adV : Nat → Nat} {n0 nL : Nat} {own : String} {cc : ByteArray}
variable {P : zP} {C : zC} {Qp : zQ} {pc nx : Nat} {L : zL} {st : List Value} {u : Nat × Nat} {h : zH}
theorem zk_sw (X : zCx p s m args c own cc nL A D κ ad0 adV) (hP : zLe P (zK p l e R s m args below meth c Q A D κ ad0 n0 nL)) {dflt lo hi : Int} {offs : Array Int} {len d : Nat} {ts : List Nat} (a : Nat) (hd : decode cc pc = .ok (.tableswitch dflt lo hi offs, len)) (hlo : lo = (a : Int)) (hhi : hi + 1 = (a + ts.length : Nat)) (hs : a + ts.length ≤ 1000) (hdf : (pc : Int) + dflt = (d : Int)) (hof : ∀ (j t : Nat), ts[j]? = some t → ∃ off, offs[j]? = some off ∧ (pc : Int) + off = (t : Int)) (k : zo_sw (nI a) ts d P C Qp L st u h) : zK p l e R s m args below meth c Q A D κ ad0 n0 nL pc L st u h := by
  obtain ⟨⟨hx, hb, hml, hown, hts⟩, hK, hA, hG⟩ := X
  intro ad H locs ls h1 h2 h3 h4 h5 h6 h7
  unfold zo_sw at k
  split at k
  · next x r =>
    by_cases hr : x.toInt < lo ∨ hi < x.toInt
    · refine lv_tableOut hx hb hd hr hdf (hP _ _ _ _ _ (zm_sw_out (fun j hj e => ?_) k) ad H locs ls h1 h2 h3 h4 h5 h6 h7)
      have e2 := nI_toInt (n := a + j) (by omega)
      rw [← e] at e2
      omega
    · have hr1 : ¬ x.toInt < lo := fun z => hr (Or.inl z)
      have hr2 : ¬ hi < x.toInt := fun z => hr (Or.inr z)
      obtain ⟨q, hq, rfl⟩ := nI_of (x := x) (by rw [Int32.lt_iff_toInt_lt]; simp; omega)
      have e2 := nI_toInt (n := q) hq
      obtain ⟨j, rfl⟩ : ∃ j, q = a + j := ⟨q - a, by omega⟩
      have hj : j < ts.length := by omega
      obtain ⟨off, g1, g2⟩ := hof j ts[j] (List.getElem?_eq_getElem hj)
      exact lv_tableIn hx hb hd hr1 hr2 (by rw [show ((nI (a + j)).toInt - lo).toNat = j by omega]; exact g1) g2 (hP _ _ _ _ _ (zm_sw_in (by omega) rfl (List.getElem?_eq_getElem hj) k) ad H locs ls h1 h2 h3 h4 h5 h6 h7)
  · exact k.elim
theorem zk_get (X : zCx p s m args c own cc nL A D κ ad0 adV) (hP : zLe P (zK p l e R s m args below meth c Q A D κ ad0 n0 nL)) {ci : Nat} {CN : String} {T : u_T} {N : Nat} {index k0 : Nat} (hd : decode cc pc = .ok (.getfield index, 3)) (hn : nx = pc + 3) (hc : vwCl[ci]? = some (CN, T, N)) (hk : k0 < N) (hin : ∀ w ∈ u_ws CN T N, w ∈ zBT) (hw : Cond.fieldLink own index (T k0).1 (T k0).2.1 (T k0).2.2.1 ∈ zBT) (k : zo_get ci k0 nx P C Qp L st u h) : zK p l e R s m args below meth c Q A D κ ad0 n0 nL pc L st u h := by
  subst hn
  obtain ⟨⟨hx, hb, hml, hown, hts⟩, hK, hA, hG⟩ := X
  intro ad H locs ls h1 h2 h3 h4 h5 h6 h7
  unfold zo_get at k
  split at k
  · next a r =>
    split at k
    · next c1 fs hg =>
      replace k := zcond k
      obtain ⟨c2, k⟩ := k
      have := Nat.eq_of_beq_eq_true c2
      subst this
      split at k
      · next v hv =>
        rw [zm_g_eq] at hv
        exact va_get (v := zt ad v) hx hb hts hin hown hK h4 a (zW_at hg) hc k0 hk (hts _ hw) (fun _ h9 => h9) (by rw [List.getElem?_map, hv]; rfl) hd (hP _ _ _ _ _ k ad H locs ls h1 h2 h3 h4 h5 h6 h7)
      · exact k.elim
    · exact k.elim
  · exact k.elim
theorem zk_puti (X : zCx p s m args c own cc nL A D κ ad0 adV) (hP : zLe P (zK p l e R s m args below meth c Q A D κ ad0 n0 nL)) {ci : Nat} {CN : String} {T : u_T} {N : Nat} {index k0 : Nat} {ty0 : Nat → FieldType} (hd : decode cc pc = .ok (.putfield index, 3)) (hn : nx = pc + 3) (hc : vwCl[ci]? = some (CN, T, N)) (hk : k0 < N) (hin : ∀ w ∈ u_ws CN T N, w ∈ zBT) (hw : Cond.fieldLink own index (T k0).1 (T k0).2.1 (T k0).2.2.1 ∈ zBT) (hty : ∀ k, k < N → parseFieldDescriptor (T k).2.2.1 = some (ty0 k)) (hnm : ∀ a, a < N → ∀ b, b < N → a ≠ b → (T a).2.1 ≠ (T b).2.1) (hfin : (T k0).2.2.2 = false) (hds : parseFieldDescriptor (T k0).2.2.1 = some .int) (k : zo_puti ci k0 nx P C Qp L st u h) : zK p l e R s m args below meth c Q A D κ ad0 n0 nL pc L st u h := by
  subst hn
  obtain ⟨⟨hx, hb, hml, hown, hts⟩, hK, hA, hG⟩ := X
  intro ad H locs ls h1 h2 h3 h4 h5 h6 h7
  unfold zo_puti at k
  split at k
  · next x a r =>
    split at k
    · next c1 fs hg =>
      replace k := zcond k
      obtain ⟨c2, k⟩ := k
      replace k := zcond k
      obtain ⟨c3, k⟩ := k
      have := Nat.eq_of_beq_eq_true c2
      subst this
      refine va_put (v := zt ad (.int x)) (ty := .int) hx hb hts hin ty0 hty hnm hown hK h4 h5 h6 a (zW_at hg) hc k0 hk (hts _ hw) (fun _ h9 => h9) hfin hds rfl rfl (by rw [List.length_map]; exact Nat.le_of_ble_eq_true c3) hd (fun H1 locs1 hP1 hD1 hS1 => ?_)
      rw [show (zt ad (.int x)) = zt ad (.int x) from rfl, ← List.map_set, show (Sum.inr (c1, (fs.set k0 (.int x)).map (zt ad)) : va_E) = ze κ ad (.inr (c1, fs.set k0 (.int x))) from rfl, ← zW_set] at hP1 hD1
      exact hP _ _ _ _ _ k ad H1 locs1 ls h1 h2 (by rw [List.length_set]; exact h3) hP1 hD1 hS1 h7
    · exact k.elim
  · exact k.elim
theorem zk_putz (X : zCx p s m args c own cc nL A D κ ad0 adV) (hP : zLe P (zK p l e R s m args below meth c Q A D κ ad0 n0 nL)) {ci : Nat} {CN : String} {T : u_T} {N : Nat} {index k0 : Nat} {ty0 : Nat → FieldType} (hd : decode cc pc = .ok (.putfield index, 3)) (hn : nx = pc + 3) (hc : vwCl[ci]? = some (CN, T, N)) (hk : k0 < N) (hin : ∀ w ∈ u_ws CN T N, w ∈ zBT) (hw : Cond.fieldLink own index (T k0).1 (T k0).2.1 (T k0).2.2.1 ∈ zBT) (hty : ∀ k, k < N → parseFieldDescriptor (T k).2.2.1 = some (ty0 k)) (hnm : ∀ a, a < N → ∀ b, b < N → a ≠ b → (T a).2.1 ≠ (T b).2.1) (hfin : (T k0).2.2.2 = false) (hds : parseFieldDescriptor (T k0).2.2.1 = some .boolean) (k : zo_putz ci k0 nx P C Qp L st u h) : zK p l e R s m args below meth c Q A D κ ad0 n0 nL pc L st u h := by
  subst hn
  obtain ⟨⟨hx, hb, hml, hown, hts⟩, hK, hA, hG⟩ := X
  intro ad H locs ls h1 h2 h3 h4 h5 h6 h7
  unfold zo_putz at k
  split at k
  · next x a r =>
    split at k
    · next c1 fs hg =>
      replace k := zcond k
      obtain ⟨c2, k⟩ := k
      replace k := zcond k
      obtain ⟨c3, k⟩ := k
      have := Nat.eq_of_beq_eq_true c2
      subst this
      refine va_put (v := zt ad (.int x)) (ty := .boolean) hx hb hts hin ty0 hty hnm hown hK h4 h5 h6 a (zW_at hg) hc k0 hk (hts _ hw) (fun _ h9 => h9) hfin hds (by rcases k.1 with rfl | rfl <;> rfl) (by rcases k.1 with rfl | rfl <;> rfl) (by rw [List.length_map]; exact Nat.le_of_ble_eq_true c3) hd (fun H1 locs1 hP1 hD1 hS1 => ?_)
      rw [show (zt ad (.int x)) = zt ad (.int x) from rfl, ← List.map_set, show (Sum.inr (c1, (fs.set k0 (.int x)).map (zt ad)) : va_E) = ze κ ad (.inr (c1, fs.set k0 (.int x))) from rfl, ← zW_set] at hP1 hD1
      exact hP _ _ _ _ _ k.2 ad H1 locs1 ls h1 h2 (by rw [List.length_set]; exact h3) hP1 hD1 hS1 h7
    · exact k.elim
  · exact k.elim
theorem zk_puta (X : zCx p s m args c own cc nL A D κ ad0 adV) (hP : zLe P (zK p l e R s m args below meth c Q A D κ ad0 n0 nL)) {ci : Nat} {CN : String} {T : u_T} {N : Nat} {index k0 : Nat} {ty0 : Nat → FieldType} (hd : decode cc pc = .ok (.putfield index, 3)) (hn : nx = pc + 3) (hc : vwCl[ci]? = some (CN, T, N)) (hk : k0 < N) (hin : ∀ w ∈ u_ws CN T N, w ∈ zBT) (hw : Cond.fieldLink own index (T k0).1 (T k0).2.1 (T k0).2.2.1 ∈ zBT) (hty : ∀ k, k < N → parseFieldDescriptor (T k).2.2.1 = some (ty0 k)) (hnm : ∀ a, a < N → ∀ b, b < N → a ≠ b → (T a).2.1 ≠ (T b).2.1) (hfin : (T k0).2.2.2 = true) (hin2 : meth.name = "<init>") (hdecl : (T k0).1 = own) {ty : FieldType} (hds : parseFieldDescriptor (T k0).2.2.1 = some ty) (hnr : ∀ a, narrow ty (.ref a) = .ref a) (hfr : ∀ a, fits ty (.ref a) = true) (k : zo_puta ci k0 nx P C Qp L st u h) : zK p l e R s m args below meth c Q A D κ ad0 n0 nL pc L st u h := by
  subst hn
  obtain ⟨⟨hx, hb, hml, hown, hts⟩, hK, hA, hG⟩ := X
  intro ad H locs ls h1 h2 h3 h4 h5 h6 h7
  unfold zo_puta at k
  split at k
  · next x a r =>
    split at k
    · next c1 fs hg =>
      replace k := zcond k
      obtain ⟨c2, k⟩ := k
      replace k := zcond k
      obtain ⟨c3, k⟩ := k
      have := Nat.eq_of_beq_eq_true c2
      subst this
      refine va_putF (v := zt ad (.ref x)) (ty := ty) hx hb hts hin ty0 hty hnm hown hK h4 h5 h6 a (zW_at hg) hc k0 hk (hts _ hw) (fun _ h9 => h9) hfin hin2 hdecl hds (hnr _) (hfr _) (by rw [List.length_map]; exact Nat.le_of_ble_eq_true c3) hd (fun H1 locs1 hP1 hD1 hS1 => ?_)
      rw [show (zt ad (.ref x)) = zt ad (.ref x) from rfl, ← List.map_set, show (Sum.inr (c1, (fs.set k0 (.ref x)).map (zt ad)) : va_E) = ze κ ad (.inr (c1, fs.set k0 (.ref x))) from rfl, ← zW_set] at hP1 hD1
      exact hP _ _ _ _ _ k ad H1 locs1 ls h1 h2 (by rw [List.length_set]; exact h3) hP1 hD1 hS1 h7
    · exact k.elim
  · exact k.elim
theorem zk_iald (X : zCx p s m args c own cc nL A D κ ad0 adV) (hP : zLe P (zK p l e R s m args below meth c Q A D κ ad0 n0 nL))  (hd : decode cc pc = .ok (.iaload, 1)) (hn : nx = pc + 1)  (k : zo_iald nx P C Qp L st u h) : zK p l e R s m args below meth c Q A D κ ad0 n0 nL pc L st u h := by
  subst hn
  obtain ⟨⟨hx, hb, hml, hown, hts⟩, hK, hA, hG⟩ := X
  intro ad H locs ls h1 h2 h3 h4 h5 h6 h7
  unfold zo_iald at k
  split at k
  · next i a r =>
    split at k
    · next c1 n f hg =>
      replace k := zcond k
      obtain ⟨c2, j, hj, rfl, k⟩ := k
      obtain ⟨g1, g2⟩ := zin_nI hj c2
      refine va_iald hx hb hK h4 a 0 (zW_at hg) rfl g1 hd ?_
      rw [g2]
      exact hP _ _ _ _ _ k ad H locs ls h1 h2 h3 h4 h5 h6 h7
    · exact k.elim
  · exact k.elim
theorem zk_lald (X : zCx p s m args c own cc nL A D κ ad0 adV) (hP : zLe P (zK p l e R s m args below meth c Q A D κ ad0 n0 nL))  (hd : decode cc pc = .ok (.laload, 1)) (hn : nx = pc + 1)  (k : zo_lald nx P C Qp L st u h) : zK p l e R s m args below meth c Q A D κ ad0 n0 nL pc L st u h := by
  subst hn
  obtain ⟨⟨hx, hb, hml, hown, hts⟩, hK, hA, hG⟩ := X
  intro ad H locs ls h1 h2 h3 h4 h5 h6 h7
  unfold zo_lald at k
  split at k
  · next i a r =>
    split at k
    · next c1 n f hg =>
      replace k := zcond k
      obtain ⟨c2, j, hj, rfl, k⟩ := k
      obtain ⟨g1, g2⟩ := zin_nI hj c2
      refine va_lald hx hb hK h4 a 1 (zW_at hg) rfl g1 hd ?_
      rw [g2]
      exact hP _ _ _ _ _ k ad H locs ls h1 h2 h3 h4 h5 h6 h7
    · exact k.elim
  · exact k.elim
theorem zk_aald (X : zCx p s m args c own cc nL A D κ ad0 adV) (hP : zLe P (zK p l e R s m args below meth c Q A D κ ad0 n0 nL))  (hd : decode cc pc = .ok (.aaload, 1)) (hn : nx = pc + 1)  (k : zo_aald nx P C Qp L st u h) : zK p l e R s m args below meth c Q A D κ ad0 n0 nL pc L st u h := by
  subst hn
  obtain ⟨⟨hx, hb, hml, hown, hts⟩, hK, hA, hG⟩ := X
  intro ad H locs ls h1 h2 h3 h4 h5 h6 h7
  unfold zo_aald at k
  split at k
  · next i a r =>
    split at k
    · next c1 n f hg =>
      replace k := zcond k
      obtain ⟨c2, j, hj, rfl, b, hb1, k⟩ := k
      obtain ⟨g1, g2⟩ := zin_nI hj c2
      refine va_aldq (C := RX2) hx hb hK h4 a 2 (zW_at hg) rfl g1 hd ?_
      rw [g2, hb1]
      exact hP _ _ _ _ _ k ad H locs ls h1 h2 h3 h4 h5 h6 h7
    · exact k.elim
  · exact k.elim
theorem zk_iast (X : zCx p s m args c own cc nL A D κ ad0 adV) (hP : zLe P (zK p l e R s m args below meth c Q A D κ ad0 n0 nL))  (hd : decode cc pc = .ok (.iastore, 1)) (hn : nx = pc + 1)  (k : zo_iast nx P C Qp L st u h) : zK p l e R s m args below meth c Q A D κ ad0 n0 nL pc L st u h := by
  subst hn
  obtain ⟨⟨hx, hb, hml, hown, hts⟩, hK, hA, hG⟩ := X
  intro ad H locs ls h1 h2 h3 h4 h5 h6 h7
  unfold zo_iast at k
  split at k
  · next x i a r =>
    split at k
    · next c1 n f hg =>
      replace k := zcond k
      obtain ⟨c2, j, hj, rfl, k⟩ := k
      obtain ⟨g1, g2⟩ := zin_nI hj c2
      refine va_iast hx hb hK h4 h5 h6 a 0 (zW_at hg) rfl g1 hd (fun H1 locs1 hP1 hD1 hS1 => ?_)
      rw [g2, show (Sum.inl (κ.1, n, .inl (upd f j x)) : va_E) = ze κ ad (.inl (c1, n, .inl (upd f j x))) from rfl, ← zW_set] at hP1 hD1
      exact hP _ _ _ _ _ k ad H1 locs1 ls h1 h2 (by rw [List.length_set]; exact h3) hP1 hD1 hS1 h7
    · exact k.elim
  · exact k.elim
theorem zk_last (X : zCx p s m args c own cc nL A D κ ad0 adV) (hP : zLe P (zK p l e R s m args below meth c Q A D κ ad0 n0 nL))  (hd : decode cc pc = .ok (.lastore, 1)) (hn : nx = pc + 1)  (k : zo_last nx P C Qp L st u h) : zK p l e R s m args below meth c Q A D κ ad0 n0 nL pc L st u h := by
  subst hn
  obtain ⟨⟨hx, hb, hml, hown, hts⟩, hK, hA, hG⟩ := X
  intro ad H locs ls h1 h2 h3 h4 h5 h6 h7
  unfold zo_last at k
  split at k
  · next x i a r =>
    split at k
    · next c1 n f hg =>
      replace k := zcond k
      obtain ⟨c2, j, hj, rfl, k⟩ := k
      obtain ⟨g1, g2⟩ := zin_nI hj c2
      refine va_last hx hb hK h4 h5 h6 a 1 (zW_at hg) rfl g1 hd (fun H1 locs1 hP1 hD1 hS1 => ?_)
      rw [g2, show (Sum.inl (κ.2.1, n, .inr (.inl (vp_updL f j x))) : va_E) = ze κ ad (.inl (c1, n, .inr (.inl (vp_updL f j x)))) from rfl, ← zW_set] at hP1 hD1
      exact hP _ _ _ _ _ k ad H1 locs1 ls h1 h2 (by rw [List.length_set]; exact h3) hP1 hD1 hS1 h7
    · exact k.elim
  · exact k.elim
theorem zk_aast (X : zCx p s m args c own cc nL A D κ ad0 adV) (hP : zLe P (zK p l e R s m args below meth c Q A D κ ad0 n0 nL))  (hd : decode cc pc = .ok (.aastore, 1)) (hn : nx = pc + 1)  (k : zo_aast 1 nx P C Qp L st u h) : zK p l e R s m args below meth c Q A D κ ad0 n0 nL pc L st u h := by
  subst hn
  obtain ⟨⟨hx, hb, hml, hown, hts⟩, hK, hA, hG⟩ := X
  intro ad H locs ls h1 h2 h3 h4 h5 h6 h7
  unfold zo_aast at k
  split at k
  · next v i a r =>
    split at k
    · next c1 n f hg =>
      split at k
      · next c3 fs hv =>
        replace k := zcond k
        obtain ⟨c4, k⟩ := k
        have := Nat.eq_of_beq_eq_true c4
        subst this
        replace k := zcond k
        obtain ⟨c2, j, hj, rfl, k⟩ := k
        obtain ⟨g1, g2⟩ := zin_nI hj c2
        refine va_astq (r := (RX2, TX2, 3)) hx hb hK h4 h5 h6 a 2 v 1 (zW_at hg) rfl (zW_at hv) rfl g1 hd (fun H1 locs1 hP1 hD1 hS1 => ?_)
        have e1 : va_up (fun j => (f j).map ad) j (some (ad v)) = fun q => (va_up f j (some v) q).map ad := by
          funext q
          simp only [va_up]
          by_cases hq : q = j
          · rw [if_pos hq, if_pos hq]; rfl
          · rw [if_neg hq, if_neg hq]
        rw [g2, e1, show (Sum.inl (κ.2.2, n, .inr (.inr (.inr (.inr (fun q => (va_up f j (some v) q).map ad))))) : va_E) = ze κ ad (.inl (c1, n, .inr (.inr (.inr (.inr (va_up f j (some v))))))) from rfl, ← zW_set] at hP1 hD1
        exact hP _ _ _ _ _ k ad H1 locs1 ls h1 h2 (by rw [List.length_set]; exact h3) hP1 hD1 hS1 h7
      · exact k.elim
    · exact k.elim
  · exact k.elim
theorem zk_alen (X : zCx p s m args c own cc nL A D κ ad0 adV) (hP : zLe P (zK p l e R s m args below meth c Q A D κ ad0 n0 nL))  (hd : decode cc pc = .ok (.arraylength, 1)) (hn : nx = pc + 1)  (k : zo_alen nx P C Qp L st u h) : zK p l e R s m args below meth c Q A D κ ad0 n0 nL pc L st u h := by
  subst hn
  obtain ⟨⟨hx, hb, hml, hown, hts⟩, hK, hA, hG⟩ := X
  intro ad H locs ls h1 h2 h3 h4 h5 h6 h7
  unfold zo_alen at k
  split at k
  · next a r =>
    split at k
    · next c1 n f hg => exact va_alen hx hb hK h4 a 0 (zW_at hg) rfl (v := nI n) rfl hd (hP _ _ _ _ _ k ad H locs ls h1 h2 h3 h4 h5 h6 h7)
    · next c1 n f hg => exact va_alen hx hb hK h4 a 1 (zW_at hg) rfl (v := nI n) rfl hd (hP _ _ _ _ _ k ad H locs ls h1 h2 h3 h4 h5 h6 h7)
    · exact k.elim
  · exact k.elim
end ZK2
end
section
/-! EACH INSTRUCTION, third part: makings, the library's own, the script, ends -/
theorem zm_sc_of {h : zH} {L : zL} {st : List Value} (hs : zm_sc h L st = true) : h.length ≤ 900 ∧ h.all (zm_oke h.length) = true ∧ zm_okl h.length L = true ∧ st.all (zm_okv h.length) = true := by
  simp only [zm_sc, Bool.and_eq_true, Nat.ble_eq] at hs
  exact hs
theorem zm_al_of {h : zH} {L : zL} {st : List Value} {u : Nat × Nat} {k N mc ms : Nat} (hs : zm_al h L st u k N mc ms = true) : zm_sc h L st = true ∧ u.1 + k ≤ mc ∧ u.2 + N ≤ ms := by
  simp only [zm_al, Bool.and_eq_true, Nat.ble_eq] at hs
  exact hs
theorem zAg.trans {n m : Nat} {ad ad1 ad2 : Nat → Nat} (h1 : zAg n ad ad1) (h2 : zAg m ad1 ad2) (hl : n ≤ m) : zAg n ad ad2 := fun k hk => by
  rw [h2 k (by omega), h1 k hk]
/-- one cell more -/
theorem z_grow {D : va_G} {κ : zKp} {ad : Nat → Nat} {A : Nat → Prop} {h : zH} {L : zL} {st : List Value} {q : Nat} {e e' : va_E} {H1 : Heap} (hs : zm_sc h L st = true) (he : ze κ (va_up ad h.length q) e = e') (hP : va_P D vwCl (zW κ ad h ++ [(q, e')]) H1) (hD : va_D A (zW κ ad h ++ [(q, e')])) :
    zAg h.length ad (va_up ad h.length q) ∧ va_P D vwCl (zW κ (va_up ad h.length q) (h ++ [e])) H1 ∧ va_D A (zW κ (va_up ad h.length q) (h ++ [e])) := by
  obtain ⟨g1, g2, g3, g4⟩ := zm_sc_of hs
  have ha : zAg h.length ad (va_up ad h.length q) := fun k hk => by
    unfold va_up
    rw [if_neg (by omega)]
  have hq : va_up ad h.length q h.length = q := by unfold va_up; rw [if_pos rfl]
  refine ⟨ha, ?_, ?_⟩
  · rw [zW_push, hq, he]
    refine va_P.app (zP_ag ha g2 (fun k x hk => hP k x ?_)) (fun k x hk => hP (h.length + k) x ?_)
    · rw [List.getElem?_append_left (List.getElem?_eq_some_iff.mp hk).1]
      exact hk
    · rw [List.getElem?_append_right (by rw [zW_len]; omega), zW_len, Nat.add_sub_cancel_left]
      exact hk
  · refine zD_fst ?_ hD
    rw [zW_push, hq, he, List.map_append, List.map_append, zW_fst, zW_fst]
    congr 1
    apply List.map_congr_left
    intro k hk
    rw [ha k (Or.inl (List.mem_range.mp hk))]
section ZK3
variable {p : Program} {l : Launch} {e : Env} {R : Room} {s : State} {m : MethodId} {args : Array Value} {below : List Frame} {meth : Method} {c : Code} {Q : State → Prop} {A : Nat → Prop} {D : va_G} {κ : zKp} {ad0 adV : Nat → Nat} {n0 nL : Nat} {own : String} {cc : ByteArray}
variable {P : zP} {C : zC} {Qp : zQ} {pc nx : Nat} {L : zL} {st : List Value} {u : Nat × Nat} {h : zH}
theorem zk_new (X : zCx p s m args c own cc nL A D κ ad0 adV) (hP : zLe P (zK p l e R s m args below meth c Q A D κ ad0 n0 nL)) {ci : Nat} {CN : String} {T : u_T} {N index : Nat} {fs : List Value} {ty0 : Nat → FieldType} (hd : decode cc pc = .ok (.new index, 3)) (hn : nx = pc + 3) (hc : vwCl[ci]? = some (CN, T, N)) (hin : ∀ w ∈ u_ws CN T N, w ∈ zBT) (hty : ∀ k, k < N → parseFieldDescriptor (T k).2.2.1 = some (ty0 k)) (hw1 : Cond.classLink own index CN ∈ zBT) (hw2 : Cond.instantiable CN N ∈ zBT) (hw3 : Cond.initialized CN ∈ zBT) (hfs : ∀ j, j < N → defaultValue (ty0 j) = vp_V fs j) (hpl : ∀ ad : Nat → Nat, fs.map (zt ad) = fs) {mc ms : Nat} (hRm : mc ≤ R.cells ∧ ms ≤ R.slots) (k : zo_new ci fs N mc ms nx P C Qp L st u h) : zK p l e R s m args below meth c Q A D κ ad0 n0 nL pc L st u h := by
  subst hn
  obtain ⟨⟨hx, hb, hml, hown, hts⟩, hK, hA, hG⟩ := X
  intro ad H locs ls h1 h2 h3 h4 h5 h6 h7
  obtain ⟨hs, k⟩ := k
  obtain ⟨hs, hu1, hu2⟩ := zm_al_of hs
  refine va_new (fs := fs) hx hb hts hin ty0 hty hown (hts _ hw1) (hts _ hw2) (hts _ hw3) hK h4 h5 h6 hA hc hfs (Nat.le_trans hu1 hRm.1) (Nat.le_trans hu2 hRm.2) hd (fun q H1 hP1 hD1 hS1 => ?_)
  · rw [show (Sum.inr (ci, fs) : va_E) = ze κ (va_up ad h.length q) (.inr (ci, fs)) by show _ = (Sum.inr (ci, fs.map (zt _)) : va_E); rw [hpl]] at hP1 hD1
    obtain ⟨a1, a2, a3⟩ := z_grow (e := .inr (ci, fs)) hs rfl hP1 hD1
    have a4 := zm_oks_ag a1 (zm_sc_of hs).2.2.2
    have a5 := hP _ _ _ _ _ k (va_up ad h.length q) H1 locs ls (h1.trans a1 h3.1) (fun z => by simp at z) ⟨by rw [List.length_append]; exact Nat.le_trans h3.1 (Nat.le_add_right _ _), Nat.le_trans hu1 hRm.1, Nat.le_trans hu2 hRm.2⟩ a2 a3 hS1 (h7.ag a1 (zm_sc_of hs).2.2.1)
    rw [List.map_cons, a4, show zt (va_up ad h.length q) (.ref h.length) = .ref q by simp [zt, va_up]] at a5
    exact a5
theorem zk_newi (X : zCx p s m args c own cc nL A D κ ad0 adV) (hP : zLe P (zK p l e R s m args below meth c Q A D κ ad0 n0 nL))  (hd : decode cc pc = .ok (.newarray .int, 2)) (hn : nx = pc + 2) (hw : Cond.arrayClass .int ∈ zBT) {mc ms : Nat} (hRm : mc ≤ R.cells ∧ ms ≤ R.slots) (k : zo_newi mc ms nx P C Qp L st u h) : zK p l e R s m args below meth c Q A D κ ad0 n0 nL pc L st u h := by
  subst hn
  obtain ⟨⟨hx, hb, hml, hown, hts⟩, hK, hA, hG⟩ := X
  intro ad H locs ls h1 h2 h3 h4 h5 h6 h7
  unfold zo_newi at k
  split at k
  · next n r =>
    obtain ⟨N, hN, rfl, hs, k⟩ := k
    obtain ⟨hs, hu1, hu2⟩ := zm_al_of hs
    refine va_newa (atype := .int) (ty := .int) (a0 := (N, .inl (fun _ => 0))) hx hb (hts _ hw) rfl hK h4 h5 h6 hA (fun cA => rfl) (znn hN).1 (znn hN).2 (by show N * 4 ≤ _; omega) (Nat.le_trans hu1 hRm.1) (Nat.le_trans hu2 hRm.2) hd (fun q cA H1 hK1 hP1 hD1 hS1 => ?_)
    have e1 : cA = κ.1 := by
      have b1 : s.vm.findClass ("[" ++ FieldType.int.toString) = some cA := (hK1.2 3 (cA, .int) rfl).2
      have b2 : s.vm.findClass ("[" ++ FieldType.int.toString) = some κ.1 := (hK.2 0 (κ.1, .int) rfl).2
      exact Option.some.inj (b1.symm.trans b2)
    subst e1
    obtain ⟨a1, a2, a3⟩ := z_grow (e := .inl (0, N, .inl (fun _ => 0))) hs rfl hP1 hD1
    have a4 := zm_oks_ag a1 (zm_sc_of hs).2.2.2
    have a5 := hP _ _ _ _ _ k (va_up ad h.length q) H1 locs ls (h1.trans a1 h3.1) (fun z => by simp at z) ⟨by rw [List.length_append]; exact Nat.le_trans h3.1 (Nat.le_add_right _ _), Nat.le_trans hu1 hRm.1, Nat.le_trans hu2 hRm.2⟩ a2 a3 hS1 (h7.ag a1 (zm_sc_of hs).2.2.1)
    rw [List.map_cons, a4, show zt (va_up ad h.length q) (.ref h.length) = .ref q by simp [zt, va_up]] at a5
    exact a5
  · exact k.elim
theorem zk_newl (X : zCx p s m args c own cc nL A D κ ad0 adV) (hP : zLe P (zK p l e R s m args below meth c Q A D κ ad0 n0 nL))  (hd : decode cc pc = .ok (.newarray .long, 2)) (hn : nx = pc + 2) (hw : Cond.arrayClass .long ∈ zBT) {mc ms : Nat} (hRm : mc ≤ R.cells ∧ ms ≤ R.slots) (k : zo_newl mc ms nx P C Qp L st u h) : zK p l e R s m args below meth c Q A D κ ad0 n0 nL pc L st u h := by
  subst hn
  obtain ⟨⟨hx, hb, hml, hown, hts⟩, hK, hA, hG⟩ := X
  intro ad H locs ls h1 h2 h3 h4 h5 h6 h7
  unfold zo_newl at k
  split at k
  · next n r =>
    obtain ⟨N, hN, rfl, hs, k⟩ := k
    obtain ⟨hs, hu1, hu2⟩ := zm_al_of hs
    refine va_newa (atype := .long) (ty := .long) (a0 := (N, .inr (.inl (fun _ => 0)))) hx hb (hts _ hw) rfl hK h4 h5 h6 hA (fun cA => rfl) (znn hN).1 (znn hN).2 (by show N * 8 ≤ _; omega) (Nat.le_trans hu1 hRm.1) (Nat.le_trans hu2 hRm.2) hd (fun q cA H1 hK1 hP1 hD1 hS1 => ?_)
    have e1 : cA = κ.2.1 := by
      have b1 : s.vm.findClass ("[" ++ FieldType.long.toString) = some cA := (hK1.2 3 (cA, .long) rfl).2
      have b2 : s.vm.findClass ("[" ++ FieldType.long.toString) = some κ.2.1 := (hK.2 1 (κ.2.1, .long) rfl).2
      exact Option.some.inj (b1.symm.trans b2)
    subst e1
    obtain ⟨a1, a2, a3⟩ := z_grow (e := .inl (1, N, .inr (.inl (fun _ => 0)))) hs rfl hP1 hD1
    have a4 := zm_oks_ag a1 (zm_sc_of hs).2.2.2
    have a5 := hP _ _ _ _ _ k (va_up ad h.length q) H1 locs ls (h1.trans a1 h3.1) (fun z => by simp at z) ⟨by rw [List.length_append]; exact Nat.le_trans h3.1 (Nat.le_add_right _ _), Nat.le_trans hu1 hRm.1, Nat.le_trans hu2 hRm.2⟩ a2 a3 hS1 (h7.ag a1 (zm_sc_of hs).2.2.1)
    rw [List.map_cons, a4, show zt (va_up ad h.length q) (.ref h.length) = .ref q by simp [zt, va_up]] at a5
    exact a5
  · exact k.elim
theorem zk_newq (X : zCx p s m args c own cc nL A D κ ad0 adV) (hP : zLe P (zK p l e R s m args below meth c Q A D κ ad0 n0 nL)) {index : Nat} (hd : decode cc pc = .ok (.anewarray index, 3)) (hn : nx = pc + 3) (hw : Cond.classLink own index RX2 ∈ zBT) {mc ms : Nat} (hRm : mc ≤ R.cells ∧ ms ≤ R.slots) (k : zo_newq mc ms nx P C Qp L st u h) : zK p l e R s m args below meth c Q A D κ ad0 n0 nL pc L st u h := by
  subst hn
  obtain ⟨⟨hx, hb, hml, hown, hts⟩, hK, hA, hG⟩ := X
  intro ad H locs ls h1 h2 h3 h4 h5 h6 h7
  unfold zo_newq at k
  split at k
  · next n r =>
    obtain ⟨N, hN, rfl, hs, k⟩ := k
    obtain ⟨hs, hu1, hu2⟩ := zm_al_of hs
    have hao : va_AO RX2 s := hG.2.2.2.2.2.1
    refine va_newq (C := RX2) hx hb hown (hts _ hw) hao hK h4 h5 h6 hA (znn hN).1 (znn hN).2 (by omega) (Nat.le_trans hu1 hRm.1) (Nat.le_trans hu2 hRm.2) hd (fun q cA H1 hK1 hP1 hD1 hS1 => ?_)
    have e1 : cA = κ.2.2 := by
      obtain ⟨kA, comp, -, -, -, b1⟩ := (hK1.2 3 (cA, .object RX2) rfl).2
      obtain ⟨kA', comp', -, -, -, b2⟩ := (hK.2 2 (κ.2.2, .object RX2) rfl).2
      exact Option.some.inj (b1.symm.trans b2)
    subst e1
    obtain ⟨a1, a2, a3⟩ := z_grow (e := .inl (2, N, .inr (.inr (.inr (.inr (fun _ => none)))))) hs rfl hP1 hD1
    have a4 := zm_oks_ag a1 (zm_sc_of hs).2.2.2
    have a5 := hP _ _ _ _ _ k (va_up ad h.length q) H1 locs ls (h1.trans a1 h3.1) (fun z => by simp at z) ⟨by rw [List.length_append]; exact Nat.le_trans h3.1 (Nat.le_add_right _ _), Nat.le_trans hu1 hRm.1, Nat.le_trans hu2 hRm.2⟩ a2 a3 hS1 (h7.ag a1 (zm_sc_of hs).2.2.1)
    rw [List.map_cons, a4, show zt (va_up ad h.length q) (.ref h.length) = .ref q by simp [zt, va_up]] at a5
    exact a5
  · exact k.elim
theorem zk_obj (X : zCx p s m args c own cc nL A D κ ad0 adV) (hP : zLe P (zK p l e R s m args below meth c Q A D κ ad0 n0 nL)) {index : Nat} (hd : decode cc pc = .ok (.invokespecial index, 3)) (hn : nx = pc + 3) (hw1 : Cond.methodLink own index objectInit ∈ zBT) (hw2 : Cond.instanceMethod objectInit ∈ zBT) (hw3 : Cond.code objectInit ⟨#[0xb1]⟩ 1 none ∈ zBT) (hR : 1 ≤ R.frames ∧ 20 ≤ R.locals) (k : zo_obj nx P C Qp L st u h) : zK p l e R s m args below meth c Q A D κ ad0 n0 nL pc L st u h := by
  subst hn
  obtain ⟨⟨hx, hb, hml, hown, hts⟩, hK, hA, hG⟩ := X
  intro ad H locs ls h1 h2 h3 h4 h5 h6 h7
  unfold zo_obj at k
  split at k
  · next a r =>
    replace k := zcond k
    obtain ⟨c1, k⟩ := k
    have c1 := Nat.le_of_ble_eq_true c1
    refine W.objInit hx hb hown (hts _ hw1) (hts _ hw2) (hts _ hw3) rfl (by rw [hml]; exact h7.2.1) rfl hd hR.1 ?_ (W.eq (g2 := F0 m (pc + 3) ls (r.map (zt ad))) rfl (hP _ _ _ _ _ k ad H locs ls h1 h2 h3 h4 h5 h6 h7))
    rw [zm_cat_eq]
    show 2 * 0 + _ + 12 ≤ _
    omega
  · exact k.elim
theorem zk_max (X : zCx p s m args c own cc nL A D κ ad0 adV) (hP : zLe P (zK p l e R s m args below meth c Q A D κ ad0 n0 nL)) {index : Nat} (hd : decode cc pc = .ok (.invokestatic index, 3)) (hn : nx = pc + 3) (hw1 : Cond.methodLink own index Lib.Math.max.name ∈ zBT) (hw2 : Cond.static Lib.Math.max.name ∈ zBT) (hw3 : Cond.initialized "java/lang/Math" ∈ zBT) (hw4 : Cond.code Lib.Math.max.name Lib.Math.max.code 2 (some .int) ∈ zBT) (hR : 1 ≤ R.frames ∧ 21 ≤ R.locals) (k : zo_max nx P C Qp L st u h) : zK p l e R s m args below meth c Q A D κ ad0 n0 nL pc L st u h := by
  subst hn
  obtain ⟨⟨hx, hb, hml, hown, hts⟩, hK, hA, hG⟩ := X
  intro ad H locs ls h1 h2 h3 h4 h5 h6 h7
  unfold zo_max at k
  split at k
  · next y x r =>
    replace k := zcond k
    obtain ⟨c1, k⟩ := k
    exact va_mmax hx hb (by rw [hml]; exact h7.2.1.symm) hown (hts _ hw1) (hts _ hw2) (hts _ hw3) (hts _ hw4) hR.1 (by rw [zm_cat_eq]; have := Nat.le_of_ble_eq_true c1; omega) h3.2.1 h3.2.2 hd (hP _ _ _ _ _ k ad H locs ls h1 h2 h3 h4 h5 h6 h7)
  · exact k.elim
theorem zk_min (X : zCx p s m args c own cc nL A D κ ad0 adV) (hP : zLe P (zK p l e R s m args below meth c Q A D κ ad0 n0 nL)) {index : Nat} (hd : decode cc pc = .ok (.invokestatic index, 3)) (hn : nx = pc + 3) (hw1 : Cond.methodLink own index Lib.Math.min.name ∈ zBT) (hw2 : Cond.static Lib.Math.min.name ∈ zBT) (hw3 : Cond.initialized "java/lang/Math" ∈ zBT) (hw4 : Cond.code Lib.Math.min.name Lib.Math.min.code 2 (some .int) ∈ zBT) (hR : 1 ≤ R.frames ∧ 21 ≤ R.locals) (k : zo_min nx P C Qp L st u h) : zK p l e R s m args below meth c Q A D κ ad0 n0 nL pc L st u h := by
  subst hn
  obtain ⟨⟨hx, hb, hml, hown, hts⟩, hK, hA, hG⟩ := X
  intro ad H locs ls h1 h2 h3 h4 h5 h6 h7
  unfold zo_min at k
  split at k
  · next y x r =>
    replace k := zcond k
    obtain ⟨c1, k⟩ := k
    exact va_mmin hx hb (by rw [hml]; exact h7.2.1.symm) hown (hts _ hw1) (hts _ hw2) (hts _ hw3) (hts _ hw4) hR.1 (by rw [zm_cat_eq]; have := Nat.le_of_ble_eq_true c1; omega) h3.2.1 h3.2.2 hd (hP _ _ _ _ _ k ad H locs ls h1 h2 h3 h4 h5 h6 h7)
  · exact k.elim
theorem zk_cpi (X : zCx p s m args c own cc nL A D κ ad0 adV) (hP : zLe P (zK p l e R s m args below meth c Q A D κ ad0 n0 nL)) {index : Nat} (hd : decode cc pc = .ok (.invokestatic index, 3)) (hn : nx = pc + 3) (hw1 : Cond.methodLink own index arraycopyName ∈ zBT) (hw2 : Cond.native arraycopyName ∈ zBT) (hw3 : Cond.static arraycopyName ∈ zBT) (hw4 : Cond.initialized "java/lang/System" ∈ zBT) (hR : 1 ≤ R.frames ∧ 8 + (nativeFrameWords "java/lang/System" "arraycopy" 5 + 11) ≤ R.locals) (k : zo_cpi nx P C Qp L st u h) : zK p l e R s m args below meth c Q A D κ ad0 n0 nL pc L st u h := by
  subst hn
  obtain ⟨⟨hx, hb, hml, hown, hts⟩, hK, hA, hG⟩ := X
  intro ad H locs ls h1 h2 h3 h4 h5 h6 h7
  unfold zo_cpi at k
  split at k
  · next n dp b sp a r =>
    split at k
    · next c0 n0' f hg0 =>
      split at k
      · next c1 n1 g hg1 =>
        replace k := zcond k
        obtain ⟨c2, N, D', S, rfl, rfl, rfl, g1, g2, g3, g4, k⟩ := k
        obtain ⟨q1, q2⟩ := znn (n := N) (by omega)
        obtain ⟨q3, q4⟩ := znn (n := D') (by omega)
        obtain ⟨q5, q6⟩ := znn (n := S) (by omega)
        refine va_copyi (ty := .int) hx hb (by rw [hml]; exact h7.2.1.symm) hown (hts _ hw1) (hts _ hw2) (hts _ hw3) (hts _ hw4) hK h4 h5 h6 a b 0 0 (zW_at hg0) (zW_at hg1) rfl rfl rfl q5 q3 q1 (by rw [q6, q2]; exact g1) (by rw [q4, q2]; exact g2) (fun i _ => rfl) hR.1 (by rw [zm_cat_eq]; have := Nat.le_of_ble_eq_true c2; omega) hd (fun H1 locs1 hP1 hD1 hS1 => ?_)
        rw [q2, q4, q6, show (Sum.inl (κ.1, n1, .inl (va_cpy f g S D' N)) : va_E) = ze κ ad (.inl (c1, n1, .inl (va_cpy f g S D' N))) from rfl, ← zW_set] at hP1 hD1
        exact hP _ _ _ _ _ k ad H1 locs1 ls h1 h2 (by rw [List.length_set]; exact h3) hP1 hD1 hS1 h7
      · exact k.elim
    · exact k.elim
  · exact k.elim
theorem zk_cpl (X : zCx p s m args c own cc nL A D κ ad0 adV) (hP : zLe P (zK p l e R s m args below meth c Q A D κ ad0 n0 nL)) {index : Nat} (hd : decode cc pc = .ok (.invokestatic index, 3)) (hn : nx = pc + 3) (hw1 : Cond.methodLink own index arraycopyName ∈ zBT) (hw2 : Cond.native arraycopyName ∈ zBT) (hw3 : Cond.static arraycopyName ∈ zBT) (hw4 : Cond.initialized "java/lang/System" ∈ zBT) (hR : 1 ≤ R.frames ∧ 8 + (nativeFrameWords "java/lang/System" "arraycopy" 5 + 11) ≤ R.locals) (k : zo_cpl nx P C Qp L st u h) : zK p l e R s m args below meth c Q A D κ ad0 n0 nL pc L st u h := by
  subst hn
  obtain ⟨⟨hx, hb, hml, hown, hts⟩, hK, hA, hG⟩ := X
  intro ad H locs ls h1 h2 h3 h4 h5 h6 h7
  unfold zo_cpl at k
  split at k
  · next n dp b sp a r =>
    split at k
    · next c0 n0' f hg0 =>
      split at k
      · next c1 n1 g hg1 =>
        replace k := zcond k
        obtain ⟨c2, N, D', S, rfl, rfl, rfl, g1, g2, g3, g4, k⟩ := k
        obtain ⟨q1, q2⟩ := znn (n := N) (by omega)
        obtain ⟨q3, q4⟩ := znn (n := D') (by omega)
        obtain ⟨q5, q6⟩ := znn (n := S) (by omega)
        refine va_copyl (ty := .long) hx hb (by rw [hml]; exact h7.2.1.symm) hown (hts _ hw1) (hts _ hw2) (hts _ hw3) (hts _ hw4) hK h4 h5 h6 a b 1 1 (zW_at hg0) (zW_at hg1) rfl rfl rfl q5 q3 q1 (by rw [q6, q2]; exact g1) (by rw [q4, q2]; exact g2) (fun i _ => rfl) hR.1 (by rw [zm_cat_eq]; have := Nat.le_of_ble_eq_true c2; omega) hd (fun H1 locs1 hP1 hD1 hS1 => ?_)
        rw [q2, q4, q6, show (Sum.inl (κ.2.1, n1, .inr (.inl (va_cpy f g S D' N))) : va_E) = ze κ ad (.inl (c1, n1, .inr (.inl (va_cpy f g S D' N)))) from rfl, ← zW_set] at hP1 hD1
        exact hP _ _ _ _ _ k ad H1 locs1 ls h1 h2 (by rw [List.length_set]; exact h3) hP1 hD1 hS1 h7
      · exact k.elim
    · exact k.elim
  · exact k.elim
theorem zk_gsab (X : zCx p s m args c own cc nL A D κ ad0 adV) (hP : zLe P (zK p l e R s m args below meth c Q A D κ ad0 n0 nL)) {index : Nat} (hd : decode cc pc = .ok (.getstatic index, 3)) (hn : nx = pc + 3) (hw : Cond.fieldLink own index "PooledInlaws$Kinds" "ABOVE" "[I" ∈ zBT) (k : zo_c (.ref 2000) nx P C Qp L st u h) : zK p l e R s m args below meth c Q A D κ ad0 n0 nL pc L st u h := by
  subst hn
  obtain ⟨⟨hx, hb, hml, hown, hts⟩, hK, hA, hG⟩ := X
  intro ad H locs ls h1 h2 h3 h4 h5 h6 h7
  have e1 : ad 2000 = ad0 2000 := h1 _ (Or.inr (by omega))
  refine va_gets (v := .ref (ad 2000)) hx hb (by rw [e1]; exact hG.2.2.2.1) h6 hown (hts _ hw) (fun _ h9 => h9) hd (hP _ _ _ _ _ k ad H locs ls h1 h2 h3 h4 h5 h6 h7)
theorem zk_tld (X : zCx p s m args c own cc nL A D κ ad0 adV) (hP : zLe P (zK p l e R s m args below meth c Q A D κ ad0 n0 nL))  (hd : decode cc pc = .ok (.iaload, 1)) (hn : nx = pc + 1)  (k : zo_tld zm_ab nx P C Qp L st u h) : zK p l e R s m args below meth c Q A D κ ad0 n0 nL pc L st u h := by
  subst hn
  obtain ⟨⟨hx, hb, hml, hown, hts⟩, hK, hA, hG⟩ := X
  intro ad H locs ls h1 h2 h3 h4 h5 h6 h7
  unfold zo_tld at k
  split at k
  · next i a r =>
    replace k := zcond k
    obtain ⟨c1, j, hj, rfl, k⟩ := k
    have := Nat.eq_of_beq_eq_true c1
    subst this
    have hj6 : j < 6 := hj
    have e1 : ad 2000 = ad0 2000 := h1 _ (Or.inr (by omega))
    exact va_ti (t := ad 2000) (N := 6) (f := fun j => .int (zm_ab.getD j 0)) (v := .int (zm_ab.getD j 0)) hx hb (by rw [e1]; exact hG.2.2.2.2.1) h6 (vp_in_nI hj6 (by omega)) (by show Value.int (zm_ab.getD (nI j).toNatClampNeg 0) = _; rw [nI_clamp (by omega)]) hd (hP _ _ _ _ _ k ad H locs ls h1 h2 h3 h4 h5 h6 h7)
  · exact k.elim
theorem zk_scr (X : zCx p s m args c own cc nL A D κ ad0 adV) (hP : zLe P (zK p l e R s m args below meth c Q A D κ ad0 n0 nL))  (hd : decode cc pc = .ok (.iaload, 1)) (hn : nx = pc + 1) {b : Nat} {Ln : Nat} {xs : Nat → Int32} (hX : va_X b Ln xs s s.heap) (hbl : b < s.heap.size) (hbA : ¬ A b) (hb0 : ad0 3000 = b) (hLn : Ln ≤ 3072) (k : zo_scr xs Ln nx P C Qp L st u h) : zK p l e R s m args below meth c Q A D κ ad0 n0 nL pc L st u h := by
  subst hn
  obtain ⟨⟨hx, hb, hml, hown, hts⟩, hK, hA, hG⟩ := X
  intro ad H locs ls h1 h2 h3 h4 h5 h6 h7
  unfold zo_scr at k
  split at k
  · next i a r =>
    replace k := zcond k
    obtain ⟨c1, j, hj, rfl, k⟩ := k
    have := Nat.eq_of_beq_eq_true c1
    subst this
    have e1 : zt ad (.ref 3000) = .ref b := by show Value.ref (ad 3000) = _; rw [h1 _ (Or.inr (by omega)), hb0]
    rw [List.map_cons, List.map_cons, e1]
    refine va_sld (i := nI j) hx hb hX hbl hbA h6 (vp_in_nI hj (by omega)) hd ?_
    rw [nI_clamp (by omega)]
    exact hP _ _ _ _ _ k ad H locs ls h1 h2 h3 h4 h5 h6 h7
  · exact k.elim
theorem zk_scl (X : zCx p s m args c own cc nL A D κ ad0 adV) (hP : zLe P (zK p l e R s m args below meth c Q A D κ ad0 n0 nL))  (hd : decode cc pc = .ok (.arraylength, 1)) (hn : nx = pc + 1) {b : Nat} {Ln : Nat} {xs : Nat → Int32} (hX : va_X b Ln xs s s.heap) (hbl : b < s.heap.size) (hbA : ¬ A b) (hb0 : ad0 3000 = b) (hLn : Ln ≤ 3072) (k : zo_scl Ln nx P C Qp L st u h) : zK p l e R s m args below meth c Q A D κ ad0 n0 nL pc L st u h := by
  subst hn
  obtain ⟨⟨hx, hb, hml, hown, hts⟩, hK, hA, hG⟩ := X
  intro ad H locs ls h1 h2 h3 h4 h5 h6 h7
  unfold zo_scl at k
  split at k
  · next a r =>
    replace k := zcond k
    obtain ⟨c1, k⟩ := k
    have := Nat.eq_of_beq_eq_true c1
    subst this
    have e1 : zt ad (.ref 3000) = .ref b := by show Value.ref (ad 3000) = _; rw [h1 _ (Or.inr (by omega)), hb0]
    rw [List.map_cons, e1]
    exact va_slen hx hb hX hbl hbA h6 hd (hP _ _ _ _ _ k ad H locs ls h1 h2 h3 h4 h5 h6 h7)
  · exact k.elim
end ZK3
section ZK4
variable {p : Program} {l : Launch} {e : Env} {R : Room} {s : State} {m : MethodId} {args : Array Value} {below : List Frame} {meth : Method} {c : Code} {D : va_G} {κ : zKp} {ad0 adV : Nat → Nat} {nL : Nat} {own : String} {cc : ByteArray}
variable {P : zP} {C : zC} {Qp : zQ} {pc mc ms : Nat} {L : zL} {st : List Value} {u : Nat × Nat} {h0 h : zH}
theorem zk_ir (X : zCx p s m args c own cc nL (va_A (zW κ ad0 h0) s.heap.size) D κ ad0 adV) (hlk : meth.locks = false) (hd : decode cc pc = .ok (.ireturn, 1)) (hr : meth.sig.returnType = some .int)  (k : zo_ir mc ms P C Qp L st u h) : zK p l e R s m args below meth c (MQ below (zPost D κ ad0 h0 s.heap.size mc Qp) args s mc ms (va_A (zW κ ad0 h0) s.heap.size)) (va_A (zW κ ad0 h0) s.heap.size) D κ ad0 h0.length nL pc L st u h := by
  obtain ⟨⟨hx, hb, hml, hown, hts⟩, hK, hA, hG⟩ := X
  intro ad H locs ls h1 h2 h3 h4 h5 h6 h7
  unfold zo_ir at k
  split at k
  · replace k := zcond k
    obtain ⟨c1, k⟩ := k
    replace k := zcond k
    obtain ⟨c2, k⟩ := k
    have c1 := Nat.le_of_ble_eq_true c1
    refine W.widen (k := mc) (n := ms) c1 (Nat.le_of_ble_eq_true c2) ?_
    exact W.iret hx hb hr (fun t ht hW => ⟨⟨some (.int _), h, ad, rfl, k, h1, fun z => h2 (by omega), h3.1, by rw [ht]; exact h4, va_K.moved hW.alike hK, h5⟩, h6.F ht⟩) h6.2.2 hd hlk
  · exact k.elim
theorem zk_zr (X : zCx p s m args c own cc nL (va_A (zW κ ad0 h0) s.heap.size) D κ ad0 adV) (hlk : meth.locks = false) (hd : decode cc pc = .ok (.ireturn, 1)) (hr : meth.sig.returnType = some .boolean)  (k : zo_zr mc ms P C Qp L st u h) : zK p l e R s m args below meth c (MQ below (zPost D κ ad0 h0 s.heap.size mc Qp) args s mc ms (va_A (zW κ ad0 h0) s.heap.size)) (va_A (zW κ ad0 h0) s.heap.size) D κ ad0 h0.length nL pc L st u h := by
  obtain ⟨⟨hx, hb, hml, hown, hts⟩, hK, hA, hG⟩ := X
  intro ad H locs ls h1 h2 h3 h4 h5 h6 h7
  unfold zo_zr at k
  split at k
  · replace k := zcond k
    obtain ⟨c1, k⟩ := k
    replace k := zcond k
    obtain ⟨c2, k⟩ := k
    have c1 := Nat.le_of_ble_eq_true c1
    refine W.widen (k := mc) (n := ms) c1 (Nat.le_of_ble_eq_true c2) ?_
    exact W.zret hx hb hr (by rcases k.1 with rfl | rfl <;> rfl) (fun t ht hW => ⟨⟨some (.int _), h, ad, rfl, k.2, h1, fun z => h2 (by omega), h3.1, by rw [ht]; exact h4, va_K.moved hW.alike hK, h5⟩, h6.F ht⟩) h6.2.2 hd hlk
  · exact k.elim
theorem zk_lr (X : zCx p s m args c own cc nL (va_A (zW κ ad0 h0) s.heap.size) D κ ad0 adV) (hlk : meth.locks = false) (hd : decode cc pc = .ok (.lreturn, 1)) (hr : meth.sig.returnType = some .long)  (k : zo_lr mc ms P C Qp L st u h) : zK p l e R s m args below meth c (MQ below (zPost D κ ad0 h0 s.heap.size mc Qp) args s mc ms (va_A (zW κ ad0 h0) s.heap.size)) (va_A (zW κ ad0 h0) s.heap.size) D κ ad0 h0.length nL pc L st u h := by
  obtain ⟨⟨hx, hb, hml, hown, hts⟩, hK, hA, hG⟩ := X
  intro ad H locs ls h1 h2 h3 h4 h5 h6 h7
  unfold zo_lr at k
  split at k
  · replace k := zcond k
    obtain ⟨c1, k⟩ := k
    replace k := zcond k
    obtain ⟨c2, k⟩ := k
    have c1 := Nat.le_of_ble_eq_true c1
    refine W.widen (k := mc) (n := ms) c1 (Nat.le_of_ble_eq_true c2) ?_
    exact W.lret hx hb hr (fun t ht hW => ⟨⟨some (.long _), h, ad, rfl, k, h1, fun z => h2 (by omega), h3.1, by rw [ht]; exact h4, va_K.moved hW.alike hK, h5⟩, h6.F ht⟩) h6.2.2 hd hlk
  · exact k.elim
theorem zk_ar (X : zCx p s m args c own cc nL (va_A (zW κ ad0 h0) s.heap.size) D κ ad0 adV) (hlk : meth.locks = false) (hd : decode cc pc = .ok (.areturn, 1)) {cn : String} (hr : meth.sig.returnType = some (.object cn))  (k : zo_ar mc ms P C Qp L st u h) : zK p l e R s m args below meth c (MQ below (zPost D κ ad0 h0 s.heap.size mc Qp) args s mc ms (va_A (zW κ ad0 h0) s.heap.size)) (va_A (zW κ ad0 h0) s.heap.size) D κ ad0 h0.length nL pc L st u h := by
  obtain ⟨⟨hx, hb, hml, hown, hts⟩, hK, hA, hG⟩ := X
  intro ad H locs ls h1 h2 h3 h4 h5 h6 h7
  unfold zo_ar at k
  split at k
  · replace k := zcond k
    obtain ⟨c1, k⟩ := k
    replace k := zcond k
    obtain ⟨c2, k⟩ := k
    have c1 := Nat.le_of_ble_eq_true c1
    refine W.widen (k := mc) (n := ms) c1 (Nat.le_of_ble_eq_true c2) ?_
    exact W.aret hx hb hr (Or.inl ⟨_, rfl⟩) (Or.inr ⟨_, rfl⟩) (fun t ht hW => ⟨⟨some (.ref _), h, ad, rfl, k, h1, fun z => h2 (by omega), h3.1, by rw [ht]; exact h4, va_K.moved hW.alike hK, h5⟩, h6.F ht⟩) h6.2.2 hd hlk
  · exact k.elim
theorem zk_vr (X : zCx p s m args c own cc nL (va_A (zW κ ad0 h0) s.heap.size) D κ ad0 adV) (hlk : meth.locks = false) (hd : decode cc pc = .ok (.return_, 1)) (hr : meth.sig.returnType = none)  (k : zo_vr mc ms P C Qp L st u h) : zK p l e R s m args below meth c (MQ below (zPost D κ ad0 h0 s.heap.size mc Qp) args s mc ms (va_A (zW κ ad0 h0) s.heap.size)) (va_A (zW κ ad0 h0) s.heap.size) D κ ad0 h0.length nL pc L st u h := by
  obtain ⟨⟨hx, hb, hml, hown, hts⟩, hK, hA, hG⟩ := X
  intro ad H locs ls h1 h2 h3 h4 h5 h6 h7
  unfold zo_vr at k
  split at k
  · replace k := zcond k
    obtain ⟨c1, k⟩ := k
    replace k := zcond k
    obtain ⟨c2, k⟩ := k
    have c1 := Nat.le_of_ble_eq_true c1
    refine W.widen (k := mc) (n := ms) c1 (Nat.le_of_ble_eq_true c2) ?_
    exact W.vret hx hb hr (fun t ht hW => ⟨⟨none, h, ad, rfl, k, h1, fun z => h2 (by omega), h3.1, by rw [ht]; exact h4, va_K.moved hW.alike hK, h5⟩, h6.F ht⟩) h6.2.2 hd hlk
  · exact k.elim
end ZK4
end
section
/-! THE METHODS BY THEIR NUMBERS (by program): name, code, answer, room -/
def zy (M : Nat) : MethodName := cond (Nat.ble M 90) (cond (Nat.ble M 44) (cond (Nat.ble M 21) (cond (Nat.ble M 10) (cond (Nat.ble M 4) (cond (Nat.ble M 1) (cond (Nat.ble M 0) (yX1_isUnder) (yX1_nameOf)) (cond (Nat.ble M 2) (yX1_charms) (cond (Nat.ble M 3) (yX1_does) (yX1_thaws)))) (cond (Nat.ble M 7) (cond (Nat.ble M 5) (yX1_chills) (cond (Nat.ble M 6) (yJ7_fill_d0a16) (yX2_init))) (cond (Nat.ble M 8) (yX2_isMissing) (cond (Nat.ble M 9) (yX2_lay) (yX2_put))))) (cond (Nat.ble M 15) (cond (Nat.ble M 12) (cond (Nat.ble M 11) (yX2_hasRun) (yX0_init)) (cond (Nat.ble M 13) (yX0_become) (cond (Nat.ble M 14) (yX0_addInlaw) (yX0_addCouple)))) (cond (Nat.ble M 18) (cond (Nat.ble M 16) (yX0_firstCouple) (cond (Nat.ble M 17) (yX0_satOnes) (yX0_wellOfAll))) (cond (Nat.ble M 19) (yX0_warmOfAll) (cond (Nat.ble M 20) (yX0_hadOfAll) (yX0_charmsOf)))))) (cond (Nat.ble M 32) (cond (Nat.ble M 26) (cond (Nat.ble M 23) (cond (Nat.ble M 22) (yX0_doesOf) (yX0_thawsOf)) (cond (Nat.ble M 24) (yX0_chillsOf) (cond (Nat.ble M 25) (yX0_goSundays) (yX0_goOneSunday)))) (cond (Nat.ble M 29) (cond (Nat.ble M 27) (yX0_receive) (cond (Nat.ble M 28) (yX0_chosenBy) (yX0_isFree))) (cond (Nat.ble M 30) (yX0_sum) (cond (Nat.ble M 31) (yX0_hold) (yX3_init))))) (cond (Nat.ble M 38) (cond (Nat.ble M 35) (cond (Nat.ble M 33) (yX3_tellTo) (cond (Nat.ble M 34) (yX3_tellItem) (yX3_tellInlaw))) (cond (Nat.ble M 36) (yX3_tellCouple) (cond (Nat.ble M 37) (yX3_tellFire) (yX3_tellSit)))) (cond (Nat.ble M 41) (cond (Nat.ble M 39) (yX3_advance) (cond (Nat.ble M 40) (yX3_takeWord) (yX3_takeNumber))) (cond (Nat.ble M 42) (yX3_isWord) (cond (Nat.ble M 43) (yX3_isNumberTo) (yX3_isLetter))))))) (cond (Nat.ble M 67) (cond (Nat.ble M 55) (cond (Nat.ble M 49) (cond (Nat.ble M 46) (cond (Nat.ble M 45) (yX3_isDigit) (yX4_init)) (cond (Nat.ble M 47) (yX4_fire) (cond (Nat.ble M 48) (yX4_now) (yX4_inlaw)))) (cond (Nat.ble M 52) (cond (Nat.ble M 50) (yX4_of) (cond (Nat.ble M 51) (yX4_with) (yX4_set))) (cond (Nat.ble M 53) (yX4_turn) (cond (Nat.ble M 54) (yX4_as) (yX4_couple))))) (cond (Nat.ble M 61) (cond (Nat.ble M 58) (cond (Nat.ble M 56) (yX4_coupleOf) (cond (Nat.ble M 57) (yX4_give) (yX4_sundays))) (cond (Nat.ble M 59) (yX4_on) (cond (Nat.ble M 60) (yX4_then) (yX4_meets)))) (cond (Nat.ble M 64) (cond (Nat.ble M 62) (yX4_well) (cond (Nat.ble M 63) (yX4_cold) (yX4_kind))) (cond (Nat.ble M 65) (yX4_warm) (cond (Nat.ble M 66) (yX4_sit) (yX4_loud)))))) (cond (Nat.ble M 78) (cond (Nat.ble M 72) (cond (Nat.ble M 69) (cond (Nat.ble M 68) (yX4_stoke) (yX4_lonely)) (cond (Nat.ble M 70) (yX4_feed) (cond (Nat.ble M 71) (yX4_wipe) (yX4_institute)))) (cond (Nat.ble M 75) (cond (Nat.ble M 73) (yX4_sheet) (cond (Nat.ble M 74) (yX4_write) (yX4_copy))) (cond (Nat.ble M 76) (yX4_lays) (cond (Nat.ble M 77) (yX4_book) (yX4_read))))) (cond (Nat.ble M 84) (cond (Nat.ble M 81) (cond (Nat.ble M 79) (yX4_image) (cond (Nat.ble M 80) (yX4_undo) (yX4_tear))) (cond (Nat.ble M 82) (yX4_count) (cond (Nat.ble M 83) (yX4_status) (yX4_tell)))) (cond (Nat.ble M 87) (cond (Nat.ble M 85) (yX4_put) (cond (Nat.ble M 86) (yX4_goesAsBooked) (yX4_isNoInlaw))) (cond (Nat.ble M 88) (yX4_isNoCouple) (cond (Nat.ble M 89) (yX4_isNoKind) (yX4_isNoSheet)))))))) (cond (Nat.ble M 136) (cond (Nat.ble M 113) (cond (Nat.ble M 101) (cond (Nat.ble M 95) (cond (Nat.ble M 92) (cond (Nat.ble M 91) (yX4_isOutside) (yX5_init)) (cond (Nat.ble M 93) (yX5_in) (cond (Nat.ble M 94) (yX5_finds) (yX5_saves)))) (cond (Nat.ble M 98) (cond (Nat.ble M 96) (yX5_putsBack) (cond (Nat.ble M 97) (yX5_laysAside) (yX5_takesBack))) (cond (Nat.ble M 99) (yX5_becomes) (cond (Nat.ble M 100) (yX5_spot) (yX5_coupleSpot))))) (cond (Nat.ble M 107) (cond (Nat.ble M 104) (cond (Nat.ble M 102) (yX5_its) (cond (Nat.ble M 103) (yX5_theirs) (yX5_isInlaw))) (cond (Nat.ble M 105) (yX5_isCouple) (cond (Nat.ble M 106) (yX5_isKind) (yX5_held)))) (cond (Nat.ble M 110) (cond (Nat.ble M 108) (yX5_together) (cond (Nat.ble M 109) (yX5_wells) (yX5_fire))) (cond (Nat.ble M 111) (yX5_firstCouple) (cond (Nat.ble M 112) (yX5_satOn) (yX5_now)))))) (cond (Nat.ble M 124) (cond (Nat.ble M 118) (cond (Nat.ble M 115) (cond (Nat.ble M 114) (yX5_charms) (yX5_does)) (cond (Nat.ble M 116) (yX5_thaws) (cond (Nat.ble M 117) (yX5_chills) (yX5_addsInlaw)))) (cond (Nat.ble M 121) (cond (Nat.ble M 119) (yX5_inlaw) (cond (Nat.ble M 120) (yX5_of) (yX5_with))) (cond (Nat.ble M 122) (yX5_set) (cond (Nat.ble M 123) (yX5_turn) (yX5_isUnder))))) (cond (Nat.ble M 130) (cond (Nat.ble M 127) (cond (Nat.ble M 125) (yX5_as) (cond (Nat.ble M 126) (yX5_addsCouple) (yX5_couple))) (cond (Nat.ble M 128) (yX5_hasNow) (cond (Nat.ble M 129) (yX5_coupleOf) (yX5_give)))) (cond (Nat.ble M 133) (cond (Nat.ble M 131) (yX5_charmer) (cond (Nat.ble M 132) (yX5_has) (yX5_isAlone))) (cond (Nat.ble M 134) (yX5_sunday) (cond (Nat.ble M 135) (yX5_sundaysGo) (yX5_sundays))))))) (cond (Nat.ble M 159) (cond (Nat.ble M 147) (cond (Nat.ble M 141) (cond (Nat.ble M 138) (cond (Nat.ble M 137) (yX5_isAhead) (yX5_behind)) (cond (Nat.ble M 139) (yX5_on) (cond (Nat.ble M 140) (yX5_then) (yX5_meets)))) (cond (Nat.ble M 144) (cond (Nat.ble M 142) (yX5_well) (cond (Nat.ble M 143) (yX5_cold) (yX5_isSoon))) (cond (Nat.ble M 145) (yX5_mostBy) (cond (Nat.ble M 146) (yX5_kind) (yX5_warm))))) (cond (Nat.ble M 153) (cond (Nat.ble M 150) (cond (Nat.ble M 148) (yX5_sit) (cond (Nat.ble M 149) (yX5_loud) (yX5_stoke))) (cond (Nat.ble M 151) (yX5_lonely) (cond (Nat.ble M 152) (yX5_feed) (yX5_wipe)))) (cond (Nat.ble M 156) (cond (Nat.ble M 154) (yX5_byteAt) (cond (Nat.ble M 155) (yX5_isLetter) (yX5_isDigit))) (cond (Nat.ble M 157) (yX5_token) (cond (Nat.ble M 158) (yX5_must) (yX5_word)))))) (cond (Nat.ble M 170) (cond (Nat.ble M 164) (cond (Nat.ble M 161) (cond (Nat.ble M 160) (yX5_number) (yX5_kindHere)) (cond (Nat.ble M 162) (yX5_inlawItem) (cond (Nat.ble M 163) (yX5_coupleItem) (yX5_fireItem)))) (cond (Nat.ble M 167) (cond (Nat.ble M 165) (yX5_sitItem) (cond (Nat.ble M 166) (yX5_item) (yX5_institute))) (cond (Nat.ble M 168) (yX5_isOne) (cond (Nat.ble M 169) (yX5_sheet) (yX5_narrowed))))) (cond (Nat.ble M 176) (cond (Nat.ble M 173) (cond (Nat.ble M 171) (yX5_wrongSheet) (cond (Nat.ble M 172) (yX5_write) (yX5_copy))) (cond (Nat.ble M 174) (yX5_lays) (cond (Nat.ble M 175) (yX5_book) (yX5_isBook)))) (cond (Nat.ble M 179) (cond (Nat.ble M 177) (yX5_read) (cond (Nat.ble M 178) (yX5_image) (yX5_undo))) (cond (Nat.ble M 180) (yX5_tear) (cond (Nat.ble M 181) (yX5_count) (yX5_status))))))))
def zcc (M : Nat) : ByteArray := cond (Nat.ble M 90) (cond (Nat.ble M 44) (cond (Nat.ble M 21) (cond (Nat.ble M 10) (cond (Nat.ble M 4) (cond (Nat.ble M 1) (cond (Nat.ble M 0) (cX1_isUnder) (cX1_nameOf)) (cond (Nat.ble M 2) (cX1_charms) (cond (Nat.ble M 3) (cX1_does) (cX1_thaws)))) (cond (Nat.ble M 7) (cond (Nat.ble M 5) (cX1_chills) (cond (Nat.ble M 6) (cJ7_fill_d0a16) (cX2_init))) (cond (Nat.ble M 8) (cX2_isMissing) (cond (Nat.ble M 9) (cX2_lay) (cX2_put))))) (cond (Nat.ble M 15) (cond (Nat.ble M 12) (cond (Nat.ble M 11) (cX2_hasRun) (cX0_init)) (cond (Nat.ble M 13) (cX0_become) (cond (Nat.ble M 14) (cX0_addInlaw) (cX0_addCouple)))) (cond (Nat.ble M 18) (cond (Nat.ble M 16) (cX0_firstCouple) (cond (Nat.ble M 17) (cX0_satOnes) (cX0_wellOfAll))) (cond (Nat.ble M 19) (cX0_warmOfAll) (cond (Nat.ble M 20) (cX0_hadOfAll) (cX0_charmsOf)))))) (cond (Nat.ble M 32) (cond (Nat.ble M 26) (cond (Nat.ble M 23) (cond (Nat.ble M 22) (cX0_doesOf) (cX0_thawsOf)) (cond (Nat.ble M 24) (cX0_chillsOf) (cond (Nat.ble M 25) (cX0_goSundays) (cX0_goOneSunday)))) (cond (Nat.ble M 29) (cond (Nat.ble M 27) (cX0_receive) (cond (Nat.ble M 28) (cX0_chosenBy) (cX0_isFree))) (cond (Nat.ble M 30) (cX0_sum) (cond (Nat.ble M 31) (cX0_hold) (cX3_init))))) (cond (Nat.ble M 38) (cond (Nat.ble M 35) (cond (Nat.ble M 33) (cX3_tellTo) (cond (Nat.ble M 34) (cX3_tellItem) (cX3_tellInlaw))) (cond (Nat.ble M 36) (cX3_tellCouple) (cond (Nat.ble M 37) (cX3_tellFire) (cX3_tellSit)))) (cond (Nat.ble M 41) (cond (Nat.ble M 39) (cX3_advance) (cond (Nat.ble M 40) (cX3_takeWord) (cX3_takeNumber))) (cond (Nat.ble M 42) (cX3_isWord) (cond (Nat.ble M 43) (cX3_isNumberTo) (cX3_isLetter))))))) (cond (Nat.ble M 67) (cond (Nat.ble M 55) (cond (Nat.ble M 49) (cond (Nat.ble M 46) (cond (Nat.ble M 45) (cX3_isDigit) (cX4_init)) (cond (Nat.ble M 47) (cX4_fire) (cond (Nat.ble M 48) (cX4_now) (cX4_inlaw)))) (cond (Nat.ble M 52) (cond (Nat.ble M 50) (cX4_of) (cond (Nat.ble M 51) (cX4_with) (cX4_set))) (cond (Nat.ble M 53) (cX4_turn) (cond (Nat.ble M 54) (cX4_as) (cX4_couple))))) (cond (Nat.ble M 61) (cond (Nat.ble M 58) (cond (Nat.ble M 56) (cX4_coupleOf) (cond (Nat.ble M 57) (cX4_give) (cX4_sundays))) (cond (Nat.ble M 59) (cX4_on) (cond (Nat.ble M 60) (cX4_then) (cX4_meets)))) (cond (Nat.ble M 64) (cond (Nat.ble M 62) (cX4_well) (cond (Nat.ble M 63) (cX4_cold) (cX4_kind))) (cond (Nat.ble M 65) (cX4_warm) (cond (Nat.ble M 66) (cX4_sit) (cX4_loud)))))) (cond (Nat.ble M 78) (cond (Nat.ble M 72) (cond (Nat.ble M 69) (cond (Nat.ble M 68) (cX4_stoke) (cX4_lonely)) (cond (Nat.ble M 70) (cX4_feed) (cond (Nat.ble M 71) (cX4_wipe) (cX4_institute)))) (cond (Nat.ble M 75) (cond (Nat.ble M 73) (cX4_sheet) (cond (Nat.ble M 74) (cX4_write) (cX4_copy))) (cond (Nat.ble M 76) (cX4_lays) (cond (Nat.ble M 77) (cX4_book) (cX4_read))))) (cond (Nat.ble M 84) (cond (Nat.ble M 81) (cond (Nat.ble M 79) (cX4_image) (cond (Nat.ble M 80) (cX4_undo) (cX4_tear))) (cond (Nat.ble M 82) (cX4_count) (cond (Nat.ble M 83) (cX4_status) (cX4_tell)))) (cond (Nat.ble M 87) (cond (Nat.ble M 85) (cX4_put) (cond (Nat.ble M 86) (cX4_goesAsBooked) (cX4_isNoInlaw))) (cond (Nat.ble M 88) (cX4_isNoCouple) (cond (Nat.ble M 89) (cX4_isNoKind) (cX4_isNoSheet)))))))) (cond (Nat.ble M 136) (cond (Nat.ble M 113) (cond (Nat.ble M 101) (cond (Nat.ble M 95) (cond (Nat.ble M 92) (cond (Nat.ble M 91) (cX4_isOutside) (cX5_init)) (cond (Nat.ble M 93) (cX5_in) (cond (Nat.ble M 94) (cX5_finds) (cX5_saves)))) (cond (Nat.ble M 98) (cond (Nat.ble M 96) (cX5_putsBack) (cond (Nat.ble M 97) (cX5_laysAside) (cX5_takesBack))) (cond (Nat.ble M 99) (cX5_becomes) (cond (Nat.ble M 100) (cX5_spot) (cX5_coupleSpot))))) (cond (Nat.ble M 107) (cond (Nat.ble M 104) (cond (Nat.ble M 102) (cX5_its) (cond (Nat.ble M 103) (cX5_theirs) (cX5_isInlaw))) (cond (Nat.ble M 105) (cX5_isCouple) (cond (Nat.ble M 106) (cX5_isKind) (cX5_held)))) (cond (Nat.ble M 110) (cond (Nat.ble M 108) (cX5_together) (cond (Nat.ble M 109) (cX5_wells) (cX5_fire))) (cond (Nat.ble M 111) (cX5_firstCouple) (cond (Nat.ble M 112) (cX5_satOn) (cX5_now)))))) (cond (Nat.ble M 124) (cond (Nat.ble M 118) (cond (Nat.ble M 115) (cond (Nat.ble M 114) (cX5_charms) (cX5_does)) (cond (Nat.ble M 116) (cX5_thaws) (cond (Nat.ble M 117) (cX5_chills) (cX5_addsInlaw)))) (cond (Nat.ble M 121) (cond (Nat.ble M 119) (cX5_inlaw) (cond (Nat.ble M 120) (cX5_of) (cX5_with))) (cond (Nat.ble M 122) (cX5_set) (cond (Nat.ble M 123) (cX5_turn) (cX5_isUnder))))) (cond (Nat.ble M 130) (cond (Nat.ble M 127) (cond (Nat.ble M 125) (cX5_as) (cond (Nat.ble M 126) (cX5_addsCouple) (cX5_couple))) (cond (Nat.ble M 128) (cX5_hasNow) (cond (Nat.ble M 129) (cX5_coupleOf) (cX5_give)))) (cond (Nat.ble M 133) (cond (Nat.ble M 131) (cX5_charmer) (cond (Nat.ble M 132) (cX5_has) (cX5_isAlone))) (cond (Nat.ble M 134) (cX5_sunday) (cond (Nat.ble M 135) (cX5_sundaysGo) (cX5_sundays))))))) (cond (Nat.ble M 159) (cond (Nat.ble M 147) (cond (Nat.ble M 141) (cond (Nat.ble M 138) (cond (Nat.ble M 137) (cX5_isAhead) (cX5_behind)) (cond (Nat.ble M 139) (cX5_on) (cond (Nat.ble M 140) (cX5_then) (cX5_meets)))) (cond (Nat.ble M 144) (cond (Nat.ble M 142) (cX5_well) (cond (Nat.ble M 143) (cX5_cold) (cX5_isSoon))) (cond (Nat.ble M 145) (cX5_mostBy) (cond (Nat.ble M 146) (cX5_kind) (cX5_warm))))) (cond (Nat.ble M 153) (cond (Nat.ble M 150) (cond (Nat.ble M 148) (cX5_sit) (cond (Nat.ble M 149) (cX5_loud) (cX5_stoke))) (cond (Nat.ble M 151) (cX5_lonely) (cond (Nat.ble M 152) (cX5_feed) (cX5_wipe)))) (cond (Nat.ble M 156) (cond (Nat.ble M 154) (cX5_byteAt) (cond (Nat.ble M 155) (cX5_isLetter) (cX5_isDigit))) (cond (Nat.ble M 157) (cX5_token) (cond (Nat.ble M 158) (cX5_must) (cX5_word)))))) (cond (Nat.ble M 170) (cond (Nat.ble M 164) (cond (Nat.ble M 161) (cond (Nat.ble M 160) (cX5_number) (cX5_kindHere)) (cond (Nat.ble M 162) (cX5_inlawItem) (cond (Nat.ble M 163) (cX5_coupleItem) (cX5_fireItem)))) (cond (Nat.ble M 167) (cond (Nat.ble M 165) (cX5_sitItem) (cond (Nat.ble M 166) (cX5_item) (cX5_institute))) (cond (Nat.ble M 168) (cX5_isOne) (cond (Nat.ble M 169) (cX5_sheet) (cX5_narrowed))))) (cond (Nat.ble M 176) (cond (Nat.ble M 173) (cond (Nat.ble M 171) (cX5_wrongSheet) (cond (Nat.ble M 172) (cX5_write) (cX5_copy))) (cond (Nat.ble M 174) (cX5_lays) (cond (Nat.ble M 175) (cX5_book) (cX5_isBook)))) (cond (Nat.ble M 179) (cond (Nat.ble M 177) (cX5_read) (cond (Nat.ble M 178) (cX5_image) (cX5_undo))) (cond (Nat.ble M 180) (cX5_tear) (cond (Nat.ble M 181) (cX5_count) (cX5_status))))))))
def zrt (M : Nat) : Option FieldType := cond (Nat.ble M 90) (cond (Nat.ble M 44) (cond (Nat.ble M 21) (cond (Nat.ble M 10) (cond (Nat.ble M 4) (cond (Nat.ble M 1) (cond (Nat.ble M 0) ((some .boolean)) ((some (.object "java/lang/String")))) (cond (Nat.ble M 2) ((some .int)) (cond (Nat.ble M 3) ((some .int)) ((some .int))))) (cond (Nat.ble M 7) (cond (Nat.ble M 5) ((some .int)) (cond (Nat.ble M 6) (none) (none))) (cond (Nat.ble M 8) ((some .boolean)) (cond (Nat.ble M 9) (none) (none))))) (cond (Nat.ble M 15) (cond (Nat.ble M 12) (cond (Nat.ble M 11) ((some .boolean)) (none)) (cond (Nat.ble M 13) (none) (cond (Nat.ble M 14) ((some .int)) ((some .int))))) (cond (Nat.ble M 18) (cond (Nat.ble M 16) ((some .int)) (cond (Nat.ble M 17) ((some .int)) ((some .int)))) (cond (Nat.ble M 19) ((some .int)) (cond (Nat.ble M 20) ((some .int)) ((some .int))))))) (cond (Nat.ble M 32) (cond (Nat.ble M 26) (cond (Nat.ble M 23) (cond (Nat.ble M 22) ((some .int)) ((some .int))) (cond (Nat.ble M 24) ((some .int)) (cond (Nat.ble M 25) (none) (none)))) (cond (Nat.ble M 29) (cond (Nat.ble M 27) (none) (cond (Nat.ble M 28) ((some .int)) ((some .boolean)))) (cond (Nat.ble M 30) ((some .int)) (cond (Nat.ble M 31) ((some .int)) (none))))) (cond (Nat.ble M 38) (cond (Nat.ble M 35) (cond (Nat.ble M 33) ((some .int)) (cond (Nat.ble M 34) ((some .boolean)) ((some .boolean)))) (cond (Nat.ble M 36) ((some .boolean)) (cond (Nat.ble M 37) ((some .boolean)) ((some .boolean))))) (cond (Nat.ble M 41) (cond (Nat.ble M 39) (none) (cond (Nat.ble M 40) (none) (none))) (cond (Nat.ble M 42) ((some .boolean)) (cond (Nat.ble M 43) ((some .boolean)) ((some .boolean)))))))) (cond (Nat.ble M 67) (cond (Nat.ble M 55) (cond (Nat.ble M 49) (cond (Nat.ble M 46) (cond (Nat.ble M 45) ((some .boolean)) (none)) (cond (Nat.ble M 47) ((some .int)) (cond (Nat.ble M 48) ((some .int)) ((some .int))))) (cond (Nat.ble M 52) (cond (Nat.ble M 50) ((some .int)) (cond (Nat.ble M 51) ((some .int)) ((some .int)))) (cond (Nat.ble M 53) ((some .int)) (cond (Nat.ble M 54) ((some .int)) ((some .int)))))) (cond (Nat.ble M 61) (cond (Nat.ble M 58) (cond (Nat.ble M 56) ((some .int)) (cond (Nat.ble M 57) ((some .int)) ((some .int)))) (cond (Nat.ble M 59) ((some .int)) (cond (Nat.ble M 60) ((some .int)) ((some .int))))) (cond (Nat.ble M 64) (cond (Nat.ble M 62) ((some .int)) (cond (Nat.ble M 63) ((some .int)) ((some .int)))) (cond (Nat.ble M 65) ((some .int)) (cond (Nat.ble M 66) ((some .int)) ((some .int))))))) (cond (Nat.ble M 78) (cond (Nat.ble M 72) (cond (Nat.ble M 69) (cond (Nat.ble M 68) ((some .int)) ((some .int))) (cond (Nat.ble M 70) ((some .int)) (cond (Nat.ble M 71) ((some .int)) ((some .int))))) (cond (Nat.ble M 75) (cond (Nat.ble M 73) ((some .int)) (cond (Nat.ble M 74) ((some .long)) ((some .int)))) (cond (Nat.ble M 76) ((some .int)) (cond (Nat.ble M 77) ((some .int)) ((some .int)))))) (cond (Nat.ble M 84) (cond (Nat.ble M 81) (cond (Nat.ble M 79) ((some .int)) (cond (Nat.ble M 80) ((some .int)) ((some .int)))) (cond (Nat.ble M 82) ((some .int)) (cond (Nat.ble M 83) ((some .int)) ((some .int))))) (cond (Nat.ble M 87) (cond (Nat.ble M 85) ((some .int)) (cond (Nat.ble M 86) ((some .boolean)) ((some .boolean)))) (cond (Nat.ble M 88) ((some .boolean)) (cond (Nat.ble M 89) ((some .boolean)) ((some .boolean))))))))) (cond (Nat.ble M 136) (cond (Nat.ble M 113) (cond (Nat.ble M 101) (cond (Nat.ble M 95) (cond (Nat.ble M 92) (cond (Nat.ble M 91) ((some .boolean)) (none)) (cond (Nat.ble M 93) ((some .boolean)) (cond (Nat.ble M 94) ((some .int)) (none)))) (cond (Nat.ble M 98) (cond (Nat.ble M 96) (none) (cond (Nat.ble M 97) (none) ((some .int)))) (cond (Nat.ble M 99) ((some .int)) (cond (Nat.ble M 100) ((some .int)) ((some .int)))))) (cond (Nat.ble M 107) (cond (Nat.ble M 104) (cond (Nat.ble M 102) ((some .int)) (cond (Nat.ble M 103) ((some .int)) ((some .boolean)))) (cond (Nat.ble M 105) ((some .boolean)) (cond (Nat.ble M 106) ((some .boolean)) ((some .int))))) (cond (Nat.ble M 110) (cond (Nat.ble M 108) ((some .int)) (cond (Nat.ble M 109) ((some .int)) ((some .int)))) (cond (Nat.ble M 111) ((some .int)) (cond (Nat.ble M 112) ((some .int)) ((some .int))))))) (cond (Nat.ble M 124) (cond (Nat.ble M 118) (cond (Nat.ble M 115) (cond (Nat.ble M 114) ((some .int)) ((some .int))) (cond (Nat.ble M 116) ((some .int)) (cond (Nat.ble M 117) ((some .int)) ((some .int))))) (cond (Nat.ble M 121) (cond (Nat.ble M 119) ((some .int)) (cond (Nat.ble M 120) ((some .int)) ((some .int)))) (cond (Nat.ble M 122) ((some .int)) (cond (Nat.ble M 123) ((some .int)) ((some .boolean)))))) (cond (Nat.ble M 130) (cond (Nat.ble M 127) (cond (Nat.ble M 125) ((some .int)) (cond (Nat.ble M 126) ((some .int)) ((some .int)))) (cond (Nat.ble M 128) ((some .int)) (cond (Nat.ble M 129) ((some .int)) ((some .int))))) (cond (Nat.ble M 133) (cond (Nat.ble M 131) ((some .int)) (cond (Nat.ble M 132) (none) (none))) (cond (Nat.ble M 134) (none) (cond (Nat.ble M 135) (none) ((some .int)))))))) (cond (Nat.ble M 159) (cond (Nat.ble M 147) (cond (Nat.ble M 141) (cond (Nat.ble M 138) (cond (Nat.ble M 137) ((some .boolean)) ((some .int))) (cond (Nat.ble M 139) ((some .int)) (cond (Nat.ble M 140) ((some .int)) ((some .int))))) (cond (Nat.ble M 144) (cond (Nat.ble M 142) ((some .int)) (cond (Nat.ble M 143) ((some .int)) ((some .boolean)))) (cond (Nat.ble M 145) ((some .int)) (cond (Nat.ble M 146) ((some .int)) ((some .int)))))) (cond (Nat.ble M 153) (cond (Nat.ble M 150) (cond (Nat.ble M 148) ((some .int)) (cond (Nat.ble M 149) ((some .int)) ((some .int)))) (cond (Nat.ble M 151) ((some .int)) (cond (Nat.ble M 152) ((some .int)) ((some .int))))) (cond (Nat.ble M 156) (cond (Nat.ble M 154) ((some .int)) (cond (Nat.ble M 155) ((some .boolean)) ((some .boolean)))) (cond (Nat.ble M 157) (none) (cond (Nat.ble M 158) (none) ((some .long))))))) (cond (Nat.ble M 170) (cond (Nat.ble M 164) (cond (Nat.ble M 161) (cond (Nat.ble M 160) (none) ((some .int))) (cond (Nat.ble M 162) (none) (cond (Nat.ble M 163) (none) (none)))) (cond (Nat.ble M 167) (cond (Nat.ble M 165) (none) (cond (Nat.ble M 166) (none) ((some .int)))) (cond (Nat.ble M 168) ((some .boolean)) (cond (Nat.ble M 169) ((some .int)) ((some .long)))))) (cond (Nat.ble M 176) (cond (Nat.ble M 173) (cond (Nat.ble M 171) ((some .int)) (cond (Nat.ble M 172) ((some .long)) ((some .int)))) (cond (Nat.ble M 174) ((some .int)) (cond (Nat.ble M 175) ((some .int)) ((some .boolean))))) (cond (Nat.ble M 179) (cond (Nat.ble M 177) ((some .int)) (cond (Nat.ble M 178) ((some .int)) ((some .int)))) (cond (Nat.ble M 180) ((some .int)) (cond (Nat.ble M 181) ((some .int)) ((some .int)))))))))
def zmc (M : Nat) : Nat := cond (Nat.ble M 90) (cond (Nat.ble M 44) (cond (Nat.ble M 21) (cond (Nat.ble M 10) (cond (Nat.ble M 4) (cond (Nat.ble M 1) (cond (Nat.ble M 0) (0) (0)) (cond (Nat.ble M 2) (0) (cond (Nat.ble M 3) (0) (0)))) (cond (Nat.ble M 7) (cond (Nat.ble M 5) (0) (cond (Nat.ble M 6) (0) (1))) (cond (Nat.ble M 8) (0) (cond (Nat.ble M 9) (0) (0))))) (cond (Nat.ble M 15) (cond (Nat.ble M 12) (cond (Nat.ble M 11) (0) (9)) (cond (Nat.ble M 13) (0) (cond (Nat.ble M 14) (0) (0)))) (cond (Nat.ble M 18) (cond (Nat.ble M 16) (0) (cond (Nat.ble M 17) (0) (0))) (cond (Nat.ble M 19) (0) (cond (Nat.ble M 20) (0) (0)))))) (cond (Nat.ble M 32) (cond (Nat.ble M 26) (cond (Nat.ble M 23) (cond (Nat.ble M 22) (0) (0)) (cond (Nat.ble M 24) (0) (cond (Nat.ble M 25) (0) (0)))) (cond (Nat.ble M 29) (cond (Nat.ble M 27) (0) (cond (Nat.ble M 28) (0) (0))) (cond (Nat.ble M 30) (0) (cond (Nat.ble M 31) (0) (1))))) (cond (Nat.ble M 38) (cond (Nat.ble M 35) (cond (Nat.ble M 33) (0) (cond (Nat.ble M 34) (0) (0))) (cond (Nat.ble M 36) (0) (cond (Nat.ble M 37) (0) (0)))) (cond (Nat.ble M 41) (cond (Nat.ble M 39) (0) (cond (Nat.ble M 40) (0) (0))) (cond (Nat.ble M 42) (0) (cond (Nat.ble M 43) (0) (0))))))) (cond (Nat.ble M 67) (cond (Nat.ble M 55) (cond (Nat.ble M 49) (cond (Nat.ble M 46) (cond (Nat.ble M 45) (0) (42)) (cond (Nat.ble M 47) (0) (cond (Nat.ble M 48) (0) (0)))) (cond (Nat.ble M 52) (cond (Nat.ble M 50) (0) (cond (Nat.ble M 51) (0) (0))) (cond (Nat.ble M 53) (0) (cond (Nat.ble M 54) (0) (0))))) (cond (Nat.ble M 61) (cond (Nat.ble M 58) (cond (Nat.ble M 56) (0) (cond (Nat.ble M 57) (0) (0))) (cond (Nat.ble M 59) (0) (cond (Nat.ble M 60) (0) (0)))) (cond (Nat.ble M 64) (cond (Nat.ble M 62) (0) (cond (Nat.ble M 63) (0) (0))) (cond (Nat.ble M 65) (0) (cond (Nat.ble M 66) (0) (0)))))) (cond (Nat.ble M 78) (cond (Nat.ble M 72) (cond (Nat.ble M 69) (cond (Nat.ble M 68) (0) (0)) (cond (Nat.ble M 70) (0) (cond (Nat.ble M 71) (0) (0)))) (cond (Nat.ble M 75) (cond (Nat.ble M 73) (0) (cond (Nat.ble M 74) (0) (0))) (cond (Nat.ble M 76) (0) (cond (Nat.ble M 77) (0) (0))))) (cond (Nat.ble M 84) (cond (Nat.ble M 81) (cond (Nat.ble M 79) (0) (cond (Nat.ble M 80) (0) (0))) (cond (Nat.ble M 82) (0) (cond (Nat.ble M 83) (0) (0)))) (cond (Nat.ble M 87) (cond (Nat.ble M 85) (0) (cond (Nat.ble M 86) (0) (0))) (cond (Nat.ble M 88) (0) (cond (Nat.ble M 89) (0) (0)))))))) (cond (Nat.ble M 136) (cond (Nat.ble M 113) (cond (Nat.ble M 101) (cond (Nat.ble M 95) (cond (Nat.ble M 92) (cond (Nat.ble M 91) (0) (11)) (cond (Nat.ble M 93) (0) (cond (Nat.ble M 94) (0) (0)))) (cond (Nat.ble M 98) (cond (Nat.ble M 96) (0) (cond (Nat.ble M 97) (0) (0))) (cond (Nat.ble M 99) (0) (cond (Nat.ble M 100) (0) (0))))) (cond (Nat.ble M 107) (cond (Nat.ble M 104) (cond (Nat.ble M 102) (0) (cond (Nat.ble M 103) (0) (0))) (cond (Nat.ble M 105) (0) (cond (Nat.ble M 106) (0) (0)))) (cond (Nat.ble M 110) (cond (Nat.ble M 108) (0) (cond (Nat.ble M 109) (0) (0))) (cond (Nat.ble M 111) (0) (cond (Nat.ble M 112) (0) (0)))))) (cond (Nat.ble M 124) (cond (Nat.ble M 118) (cond (Nat.ble M 115) (cond (Nat.ble M 114) (0) (0)) (cond (Nat.ble M 116) (0) (cond (Nat.ble M 117) (0) (0)))) (cond (Nat.ble M 121) (cond (Nat.ble M 119) (0) (cond (Nat.ble M 120) (0) (0))) (cond (Nat.ble M 122) (0) (cond (Nat.ble M 123) (0) (0))))) (cond (Nat.ble M 130) (cond (Nat.ble M 127) (cond (Nat.ble M 125) (0) (cond (Nat.ble M 126) (0) (0))) (cond (Nat.ble M 128) (0) (cond (Nat.ble M 129) (0) (0)))) (cond (Nat.ble M 133) (cond (Nat.ble M 131) (0) (cond (Nat.ble M 132) (0) (0))) (cond (Nat.ble M 134) (0) (cond (Nat.ble M 135) (0) (0))))))) (cond (Nat.ble M 159) (cond (Nat.ble M 147) (cond (Nat.ble M 141) (cond (Nat.ble M 138) (cond (Nat.ble M 137) (0) (0)) (cond (Nat.ble M 139) (0) (cond (Nat.ble M 140) (0) (0)))) (cond (Nat.ble M 144) (cond (Nat.ble M 142) (0) (cond (Nat.ble M 143) (0) (0))) (cond (Nat.ble M 145) (0) (cond (Nat.ble M 146) (0) (0))))) (cond (Nat.ble M 153) (cond (Nat.ble M 150) (cond (Nat.ble M 148) (0) (cond (Nat.ble M 149) (0) (0))) (cond (Nat.ble M 151) (0) (cond (Nat.ble M 152) (0) (0)))) (cond (Nat.ble M 156) (cond (Nat.ble M 154) (0) (cond (Nat.ble M 155) (0) (0))) (cond (Nat.ble M 157) (0) (cond (Nat.ble M 158) (0) (0)))))) (cond (Nat.ble M 170) (cond (Nat.ble M 164) (cond (Nat.ble M 161) (cond (Nat.ble M 160) (0) (0)) (cond (Nat.ble M 162) (0) (cond (Nat.ble M 163) (0) (0)))) (cond (Nat.ble M 167) (cond (Nat.ble M 165) (0) (cond (Nat.ble M 166) (0) (0))) (cond (Nat.ble M 168) (0) (cond (Nat.ble M 169) (0) (0))))) (cond (Nat.ble M 176) (cond (Nat.ble M 173) (cond (Nat.ble M 171) (0) (cond (Nat.ble M 172) (0) (0))) (cond (Nat.ble M 174) (0) (cond (Nat.ble M 175) (0) (0)))) (cond (Nat.ble M 179) (cond (Nat.ble M 177) (0) (cond (Nat.ble M 178) (0) (0))) (cond (Nat.ble M 180) (0) (cond (Nat.ble M 181) (0) (0))))))))
def zms (M : Nat) : Nat := cond (Nat.ble M 90) (cond (Nat.ble M 44) (cond (Nat.ble M 21) (cond (Nat.ble M 10) (cond (Nat.ble M 4) (cond (Nat.ble M 1) (cond (Nat.ble M 0) (0) (0)) (cond (Nat.ble M 2) (0) (cond (Nat.ble M 3) (0) (0)))) (cond (Nat.ble M 7) (cond (Nat.ble M 5) (0) (cond (Nat.ble M 6) (0) (40))) (cond (Nat.ble M 8) (0) (cond (Nat.ble M 9) (0) (0))))) (cond (Nat.ble M 15) (cond (Nat.ble M 12) (cond (Nat.ble M 11) (0) (72)) (cond (Nat.ble M 13) (0) (cond (Nat.ble M 14) (0) (0)))) (cond (Nat.ble M 18) (cond (Nat.ble M 16) (0) (cond (Nat.ble M 17) (0) (0))) (cond (Nat.ble M 19) (0) (cond (Nat.ble M 20) (0) (0)))))) (cond (Nat.ble M 32) (cond (Nat.ble M 26) (cond (Nat.ble M 23) (cond (Nat.ble M 22) (0) (0)) (cond (Nat.ble M 24) (0) (cond (Nat.ble M 25) (0) (0)))) (cond (Nat.ble M 29) (cond (Nat.ble M 27) (0) (cond (Nat.ble M 28) (0) (0))) (cond (Nat.ble M 30) (0) (cond (Nat.ble M 31) (0) (120))))) (cond (Nat.ble M 38) (cond (Nat.ble M 35) (cond (Nat.ble M 33) (0) (cond (Nat.ble M 34) (0) (0))) (cond (Nat.ble M 36) (0) (cond (Nat.ble M 37) (0) (0)))) (cond (Nat.ble M 41) (cond (Nat.ble M 39) (0) (cond (Nat.ble M 40) (0) (0))) (cond (Nat.ble M 42) (0) (cond (Nat.ble M 43) (0) (0))))))) (cond (Nat.ble M 67) (cond (Nat.ble M 55) (cond (Nat.ble M 49) (cond (Nat.ble M 46) (cond (Nat.ble M 45) (0) (567)) (cond (Nat.ble M 47) (0) (cond (Nat.ble M 48) (0) (0)))) (cond (Nat.ble M 52) (cond (Nat.ble M 50) (0) (cond (Nat.ble M 51) (0) (0))) (cond (Nat.ble M 53) (0) (cond (Nat.ble M 54) (0) (0))))) (cond (Nat.ble M 61) (cond (Nat.ble M 58) (cond (Nat.ble M 56) (0) (cond (Nat.ble M 57) (0) (0))) (cond (Nat.ble M 59) (0) (cond (Nat.ble M 60) (0) (0)))) (cond (Nat.ble M 64) (cond (Nat.ble M 62) (0) (cond (Nat.ble M 63) (0) (0))) (cond (Nat.ble M 65) (0) (cond (Nat.ble M 66) (0) (0)))))) (cond (Nat.ble M 78) (cond (Nat.ble M 72) (cond (Nat.ble M 69) (cond (Nat.ble M 68) (0) (0)) (cond (Nat.ble M 70) (0) (cond (Nat.ble M 71) (0) (0)))) (cond (Nat.ble M 75) (cond (Nat.ble M 73) (0) (cond (Nat.ble M 74) (0) (0))) (cond (Nat.ble M 76) (0) (cond (Nat.ble M 77) (0) (0))))) (cond (Nat.ble M 84) (cond (Nat.ble M 81) (cond (Nat.ble M 79) (0) (cond (Nat.ble M 80) (0) (0))) (cond (Nat.ble M 82) (0) (cond (Nat.ble M 83) (0) (0)))) (cond (Nat.ble M 87) (cond (Nat.ble M 85) (0) (cond (Nat.ble M 86) (0) (0))) (cond (Nat.ble M 88) (0) (cond (Nat.ble M 89) (0) (0)))))))) (cond (Nat.ble M 136) (cond (Nat.ble M 113) (cond (Nat.ble M 101) (cond (Nat.ble M 95) (cond (Nat.ble M 92) (cond (Nat.ble M 91) (0) (615)) (cond (Nat.ble M 93) (0) (cond (Nat.ble M 94) (0) (0)))) (cond (Nat.ble M 98) (cond (Nat.ble M 96) (0) (cond (Nat.ble M 97) (0) (0))) (cond (Nat.ble M 99) (0) (cond (Nat.ble M 100) (0) (0))))) (cond (Nat.ble M 107) (cond (Nat.ble M 104) (cond (Nat.ble M 102) (0) (cond (Nat.ble M 103) (0) (0))) (cond (Nat.ble M 105) (0) (cond (Nat.ble M 106) (0) (0)))) (cond (Nat.ble M 110) (cond (Nat.ble M 108) (0) (cond (Nat.ble M 109) (0) (0))) (cond (Nat.ble M 111) (0) (cond (Nat.ble M 112) (0) (0)))))) (cond (Nat.ble M 124) (cond (Nat.ble M 118) (cond (Nat.ble M 115) (cond (Nat.ble M 114) (0) (0)) (cond (Nat.ble M 116) (0) (cond (Nat.ble M 117) (0) (0)))) (cond (Nat.ble M 121) (cond (Nat.ble M 119) (0) (cond (Nat.ble M 120) (0) (0))) (cond (Nat.ble M 122) (0) (cond (Nat.ble M 123) (0) (0))))) (cond (Nat.ble M 130) (cond (Nat.ble M 127) (cond (Nat.ble M 125) (0) (cond (Nat.ble M 126) (0) (0))) (cond (Nat.ble M 128) (0) (cond (Nat.ble M 129) (0) (0)))) (cond (Nat.ble M 133) (cond (Nat.ble M 131) (0) (cond (Nat.ble M 132) (0) (0))) (cond (Nat.ble M 134) (0) (cond (Nat.ble M 135) (0) (0))))))) (cond (Nat.ble M 159) (cond (Nat.ble M 147) (cond (Nat.ble M 141) (cond (Nat.ble M 138) (cond (Nat.ble M 137) (0) (0)) (cond (Nat.ble M 139) (0) (cond (Nat.ble M 140) (0) (0)))) (cond (Nat.ble M 144) (cond (Nat.ble M 142) (0) (cond (Nat.ble M 143) (0) (0))) (cond (Nat.ble M 145) (0) (cond (Nat.ble M 146) (0) (0))))) (cond (Nat.ble M 153) (cond (Nat.ble M 150) (cond (Nat.ble M 148) (0) (cond (Nat.ble M 149) (0) (0))) (cond (Nat.ble M 151) (0) (cond (Nat.ble M 152) (0) (0)))) (cond (Nat.ble M 156) (cond (Nat.ble M 154) (0) (cond (Nat.ble M 155) (0) (0))) (cond (Nat.ble M 157) (0) (cond (Nat.ble M 158) (0) (0)))))) (cond (Nat.ble M 170) (cond (Nat.ble M 164) (cond (Nat.ble M 161) (cond (Nat.ble M 160) (0) (0)) (cond (Nat.ble M 162) (0) (cond (Nat.ble M 163) (0) (0)))) (cond (Nat.ble M 167) (cond (Nat.ble M 165) (0) (cond (Nat.ble M 166) (0) (0))) (cond (Nat.ble M 168) (0) (cond (Nat.ble M 169) (0) (0))))) (cond (Nat.ble M 176) (cond (Nat.ble M 173) (cond (Nat.ble M 171) (0) (cond (Nat.ble M 172) (0) (0))) (cond (Nat.ble M 174) (0) (cond (Nat.ble M 175) (0) (0)))) (cond (Nat.ble M 179) (cond (Nat.ble M 177) (0) (cond (Nat.ble M 178) (0) (0))) (cond (Nat.ble M 180) (0) (cond (Nat.ble M 181) (0) (0))))))))
def zfr (M : Nat) : Nat := cond (Nat.ble M 90) (cond (Nat.ble M 44) (cond (Nat.ble M 21) (cond (Nat.ble M 10) (cond (Nat.ble M 4) (cond (Nat.ble M 1) (cond (Nat.ble M 0) (0) (0)) (cond (Nat.ble M 2) (0) (cond (Nat.ble M 3) (0) (0)))) (cond (Nat.ble M 7) (cond (Nat.ble M 5) (1) (cond (Nat.ble M 6) (0) (1))) (cond (Nat.ble M 8) (0) (cond (Nat.ble M 9) (1) (0))))) (cond (Nat.ble M 15) (cond (Nat.ble M 12) (cond (Nat.ble M 11) (0) (1)) (cond (Nat.ble M 13) (1) (cond (Nat.ble M 14) (0) (0)))) (cond (Nat.ble M 18) (cond (Nat.ble M 16) (0) (cond (Nat.ble M 17) (0) (1))) (cond (Nat.ble M 19) (1) (cond (Nat.ble M 20) (1) (1)))))) (cond (Nat.ble M 32) (cond (Nat.ble M 26) (cond (Nat.ble M 23) (cond (Nat.ble M 22) (1) (1)) (cond (Nat.ble M 24) (2) (cond (Nat.ble M 25) (5) (4)))) (cond (Nat.ble M 29) (cond (Nat.ble M 27) (3) (cond (Nat.ble M 28) (2) (0))) (cond (Nat.ble M 30) (0) (cond (Nat.ble M 31) (1) (1))))) (cond (Nat.ble M 38) (cond (Nat.ble M 35) (cond (Nat.ble M 33) (7) (cond (Nat.ble M 34) (6) (5))) (cond (Nat.ble M 36) (5) (cond (Nat.ble M 37) (3) (3)))) (cond (Nat.ble M 41) (cond (Nat.ble M 39) (2) (cond (Nat.ble M 40) (1) (1))) (cond (Nat.ble M 42) (4) (cond (Nat.ble M 43) (0) (0))))))) (cond (Nat.ble M 67) (cond (Nat.ble M 55) (cond (Nat.ble M 49) (cond (Nat.ble M 46) (cond (Nat.ble M 45) (0) (2)) (cond (Nat.ble M 47) (2) (cond (Nat.ble M 48) (2) (2)))) (cond (Nat.ble M 52) (cond (Nat.ble M 50) (3) (cond (Nat.ble M 51) (2) (3))) (cond (Nat.ble M 53) (3) (cond (Nat.ble M 54) (2) (2))))) (cond (Nat.ble M 61) (cond (Nat.ble M 58) (cond (Nat.ble M 56) (5) (cond (Nat.ble M 57) (3) (6))) (cond (Nat.ble M 59) (6) (cond (Nat.ble M 60) (6) (5)))) (cond (Nat.ble M 64) (cond (Nat.ble M 62) (5) (cond (Nat.ble M 63) (5) (6))) (cond (Nat.ble M 65) (6) (cond (Nat.ble M 66) (6) (6)))))) (cond (Nat.ble M 78) (cond (Nat.ble M 72) (cond (Nat.ble M 69) (cond (Nat.ble M 68) (6) (6)) (cond (Nat.ble M 70) (2) (cond (Nat.ble M 71) (0) (8)))) (cond (Nat.ble M 75) (cond (Nat.ble M 73) (2) (cond (Nat.ble M 74) (2) (2))) (cond (Nat.ble M 76) (2) (cond (Nat.ble M 77) (5) (6))))) (cond (Nat.ble M 84) (cond (Nat.ble M 81) (cond (Nat.ble M 79) (2) (cond (Nat.ble M 80) (2) (0))) (cond (Nat.ble M 82) (2) (cond (Nat.ble M 83) (2) (1)))) (cond (Nat.ble M 87) (cond (Nat.ble M 85) (2) (cond (Nat.ble M 86) (5) (1))) (cond (Nat.ble M 88) (1) (cond (Nat.ble M 89) (1) (1)))))))) (cond (Nat.ble M 136) (cond (Nat.ble M 113) (cond (Nat.ble M 101) (cond (Nat.ble M 95) (cond (Nat.ble M 92) (cond (Nat.ble M 91) (0) (1)) (cond (Nat.ble M 93) (0) (cond (Nat.ble M 94) (0) (0)))) (cond (Nat.ble M 98) (cond (Nat.ble M 96) (0) (cond (Nat.ble M 97) (0) (0))) (cond (Nat.ble M 99) (0) (cond (Nat.ble M 100) (0) (0))))) (cond (Nat.ble M 107) (cond (Nat.ble M 104) (cond (Nat.ble M 102) (1) (cond (Nat.ble M 103) (1) (1))) (cond (Nat.ble M 105) (1) (cond (Nat.ble M 106) (1) (0)))) (cond (Nat.ble M 110) (cond (Nat.ble M 108) (2) (cond (Nat.ble M 109) (2) (1))) (cond (Nat.ble M 111) (0) (cond (Nat.ble M 112) (2) (3)))))) (cond (Nat.ble M 124) (cond (Nat.ble M 118) (cond (Nat.ble M 115) (cond (Nat.ble M 114) (2) (2)) (cond (Nat.ble M 116) (2) (cond (Nat.ble M 117) (2) (1)))) (cond (Nat.ble M 121) (cond (Nat.ble M 119) (2) (cond (Nat.ble M 120) (3) (3))) (cond (Nat.ble M 122) (2) (cond (Nat.ble M 123) (2) (0))))) (cond (Nat.ble M 130) (cond (Nat.ble M 127) (cond (Nat.ble M 125) (2) (cond (Nat.ble M 126) (1) (2))) (cond (Nat.ble M 128) (5) (cond (Nat.ble M 129) (6) (2)))) (cond (Nat.ble M 133) (cond (Nat.ble M 131) (3) (cond (Nat.ble M 132) (3) (3))) (cond (Nat.ble M 134) (4) (cond (Nat.ble M 135) (5) (6))))))) (cond (Nat.ble M 159) (cond (Nat.ble M 147) (cond (Nat.ble M 141) (cond (Nat.ble M 138) (cond (Nat.ble M 137) (1) (6)) (cond (Nat.ble M 139) (7) (cond (Nat.ble M 140) (7) (5)))) (cond (Nat.ble M 144) (cond (Nat.ble M 142) (5) (cond (Nat.ble M 143) (5) (1))) (cond (Nat.ble M 145) (7) (cond (Nat.ble M 146) (8) (7))))) (cond (Nat.ble M 153) (cond (Nat.ble M 150) (cond (Nat.ble M 148) (7) (cond (Nat.ble M 149) (8) (8))) (cond (Nat.ble M 151) (6) (cond (Nat.ble M 152) (1) (0)))) (cond (Nat.ble M 156) (cond (Nat.ble M 154) (0) (cond (Nat.ble M 155) (1) (1))) (cond (Nat.ble M 157) (2) (cond (Nat.ble M 158) (3) (2)))))) (cond (Nat.ble M 170) (cond (Nat.ble M 164) (cond (Nat.ble M 161) (cond (Nat.ble M 160) (4) (3)) (cond (Nat.ble M 162) (5) (cond (Nat.ble M 163) (5) (5)))) (cond (Nat.ble M 167) (cond (Nat.ble M 165) (5) (cond (Nat.ble M 166) (6) (7))) (cond (Nat.ble M 168) (1) (cond (Nat.ble M 169) (2) (0))))) (cond (Nat.ble M 176) (cond (Nat.ble M 173) (cond (Nat.ble M 171) (2) (cond (Nat.ble M 172) (3) (2))) (cond (Nat.ble M 174) (3) (cond (Nat.ble M 175) (5) (5)))) (cond (Nat.ble M 179) (cond (Nat.ble M 177) (6) (cond (Nat.ble M 178) (0) (1))) (cond (Nat.ble M 180) (0) (cond (Nat.ble M 181) (3) (1))))))))
def zlo (M : Nat) : Nat := cond (Nat.ble M 90) (cond (Nat.ble M 44) (cond (Nat.ble M 21) (cond (Nat.ble M 10) (cond (Nat.ble M 4) (cond (Nat.ble M 1) (cond (Nat.ble M 0) (0) (0)) (cond (Nat.ble M 2) (0) (cond (Nat.ble M 3) (0) (0)))) (cond (Nat.ble M 7) (cond (Nat.ble M 5) (21) (cond (Nat.ble M 6) (0) (20))) (cond (Nat.ble M 8) (0) (cond (Nat.ble M 9) (24) (0))))) (cond (Nat.ble M 15) (cond (Nat.ble M 12) (cond (Nat.ble M 11) (0) (20)) (cond (Nat.ble M 13) (26) (cond (Nat.ble M 14) (0) (0)))) (cond (Nat.ble M 18) (cond (Nat.ble M 16) (0) (cond (Nat.ble M 17) (0) (23))) (cond (Nat.ble M 19) (23) (cond (Nat.ble M 20) (23) (27)))))) (cond (Nat.ble M 32) (cond (Nat.ble M 26) (cond (Nat.ble M 23) (cond (Nat.ble M 22) (25) (23)) (cond (Nat.ble M 24) (44) (cond (Nat.ble M 25) (119) (97)))) (cond (Nat.ble M 29) (cond (Nat.ble M 27) (75) (cond (Nat.ble M 28) (50) (0))) (cond (Nat.ble M 30) (0) (cond (Nat.ble M 31) (21) (20))))) (cond (Nat.ble M 38) (cond (Nat.ble M 35) (cond (Nat.ble M 33) (152) (cond (Nat.ble M 34) (130) (107))) (cond (Nat.ble M 36) (107) (cond (Nat.ble M 37) (61) (61)))) (cond (Nat.ble M 41) (cond (Nat.ble M 39) (41) (cond (Nat.ble M 40) (20) (21))) (cond (Nat.ble M 42) (85) (cond (Nat.ble M 43) (0) (0))))))) (cond (Nat.ble M 67) (cond (Nat.ble M 55) (cond (Nat.ble M 49) (cond (Nat.ble M 46) (cond (Nat.ble M 45) (0) (40)) (cond (Nat.ble M 47) (44) (cond (Nat.ble M 48) (44) (44)))) (cond (Nat.ble M 52) (cond (Nat.ble M 50) (65) (cond (Nat.ble M 51) (50) (70))) (cond (Nat.ble M 53) (70) (cond (Nat.ble M 54) (44) (44))))) (cond (Nat.ble M 61) (cond (Nat.ble M 58) (cond (Nat.ble M 56) (119) (cond (Nat.ble M 57) (70) (141))) (cond (Nat.ble M 59) (141) (cond (Nat.ble M 60) (141) (119)))) (cond (Nat.ble M 64) (cond (Nat.ble M 62) (119) (cond (Nat.ble M 63) (119) (141))) (cond (Nat.ble M 65) (141) (cond (Nat.ble M 66) (141) (141)))))) (cond (Nat.ble M 78) (cond (Nat.ble M 72) (cond (Nat.ble M 69) (cond (Nat.ble M 68) (141) (141)) (cond (Nat.ble M 70) (44) (cond (Nat.ble M 71) (0) (174)))) (cond (Nat.ble M 75) (cond (Nat.ble M 73) (46) (cond (Nat.ble M 74) (44) (44))) (cond (Nat.ble M 76) (44) (cond (Nat.ble M 77) (119) (142))))) (cond (Nat.ble M 84) (cond (Nat.ble M 81) (cond (Nat.ble M 79) (47) (cond (Nat.ble M 80) (47) (0))) (cond (Nat.ble M 82) (44) (cond (Nat.ble M 83) (44) (22)))) (cond (Nat.ble M 87) (cond (Nat.ble M 85) (44) (cond (Nat.ble M 86) (119) (22))) (cond (Nat.ble M 88) (22) (cond (Nat.ble M 89) (22) (22)))))))) (cond (Nat.ble M 136) (cond (Nat.ble M 113) (cond (Nat.ble M 101) (cond (Nat.ble M 95) (cond (Nat.ble M 92) (cond (Nat.ble M 91) (0) (20)) (cond (Nat.ble M 93) (0) (cond (Nat.ble M 94) (0) (0)))) (cond (Nat.ble M 98) (cond (Nat.ble M 96) (0) (cond (Nat.ble M 97) (0) (0))) (cond (Nat.ble M 99) (0) (cond (Nat.ble M 100) (0) (0))))) (cond (Nat.ble M 107) (cond (Nat.ble M 104) (cond (Nat.ble M 102) (21) (cond (Nat.ble M 103) (21) (25))) (cond (Nat.ble M 105) (25) (cond (Nat.ble M 106) (25) (0)))) (cond (Nat.ble M 110) (cond (Nat.ble M 108) (43) (cond (Nat.ble M 109) (43) (25))) (cond (Nat.ble M 111) (0) (cond (Nat.ble M 112) (43) (66)))))) (cond (Nat.ble M 124) (cond (Nat.ble M 118) (cond (Nat.ble M 115) (cond (Nat.ble M 114) (43) (43)) (cond (Nat.ble M 116) (43) (cond (Nat.ble M 117) (43) (21)))) (cond (Nat.ble M 121) (cond (Nat.ble M 119) (45) (cond (Nat.ble M 120) (65) (69))) (cond (Nat.ble M 122) (46) (cond (Nat.ble M 123) (46) (0))))) (cond (Nat.ble M 130) (cond (Nat.ble M 127) (cond (Nat.ble M 125) (46) (cond (Nat.ble M 126) (21) (43))) (cond (Nat.ble M 128) (118) (cond (Nat.ble M 129) (139) (46)))) (cond (Nat.ble M 133) (cond (Nat.ble M 131) (69) (cond (Nat.ble M 132) (66) (65))) (cond (Nat.ble M 134) (94) (cond (Nat.ble M 135) (118) (140))))))) (cond (Nat.ble M 159) (cond (Nat.ble M 147) (cond (Nat.ble M 141) (cond (Nat.ble M 138) (cond (Nat.ble M 137) (25) (140)) (cond (Nat.ble M 139) (162) (cond (Nat.ble M 140) (162) (118)))) (cond (Nat.ble M 144) (cond (Nat.ble M 142) (118) (cond (Nat.ble M 143) (118) (25))) (cond (Nat.ble M 145) (162) (cond (Nat.ble M 146) (191) (162))))) (cond (Nat.ble M 153) (cond (Nat.ble M 150) (cond (Nat.ble M 148) (162) (cond (Nat.ble M 149) (191) (191))) (cond (Nat.ble M 151) (140) (cond (Nat.ble M 152) (25) (0)))) (cond (Nat.ble M 156) (cond (Nat.ble M 154) (0) (cond (Nat.ble M 155) (25) (25))) (cond (Nat.ble M 157) (45) (cond (Nat.ble M 158) (67) (45)))))) (cond (Nat.ble M 170) (cond (Nat.ble M 164) (cond (Nat.ble M 161) (cond (Nat.ble M 160) (88) (68)) (cond (Nat.ble M 162) (113) (cond (Nat.ble M 163) (113) (113)))) (cond (Nat.ble M 167) (cond (Nat.ble M 165) (113) (cond (Nat.ble M 166) (135) (158))) (cond (Nat.ble M 168) (25) (cond (Nat.ble M 169) (45) (0))))) (cond (Nat.ble M 176) (cond (Nat.ble M 173) (cond (Nat.ble M 171) (45) (cond (Nat.ble M 172) (66) (45))) (cond (Nat.ble M 174) (66) (cond (Nat.ble M 175) (118) (118)))) (cond (Nat.ble M 179) (cond (Nat.ble M 177) (141) (cond (Nat.ble M 178) (0) (21))) (cond (Nat.ble M 180) (0) (cond (Nat.ble M 181) (66) (25))))))))
def zrm (M : Nat) : Room := { frames := zfr M, cells := zmc M, slots := zms M, locals := zlo M }
def zwd (M : Nat) : List Cond := Cond.code (zy M) (zcc M) (zm_nl M) (zrt M) :: zBT
/-- what a call of M with n arguments wants of the tables -/
def zMok (M n : Nat) : Prop := Cond.code (zy M) (zcc M) (zm_nl M) (zrt M) ∈ zBT ∧ Cond.initialized (zy M).cls ∈ zBT ∧ ((zy M).cls ≠ "java/lang/invoke/MethodHandle" ∧ (zy M).cls ≠ "java/lang/invoke/VarHandle") ∧ (parseMethodDescriptor (zy M).desc).map (fun d => d.parameters.length) = some n
theorem zwd_good {M n : Nat} (h : zMok M n) : GoodIn zBT (zwd M) := by
  intro w hw
  rcases List.mem_cons.mp hw with rfl | hw
  · exact ⟨h.1, zBT_good h.1⟩
  · exact ⟨hw, zBT_good hw⟩
/-- a method's contract -/
def zsm (l : Launch) : zC := fun M as h Qp => ∀ (D : va_G) (κ : zKp) (ad adV : Nat → Nat) (sz : Nat), Met l (zy M) (zwd M) (zrm M) (va_Pc (as.map (zt ad)) (zPre D κ ad adV h sz)) (zPost D κ ad h sz (zmc M) Qp) (zmc M) (zms M) (va_A (zW κ ad h) sz)
end
section
/-! CALLS: a contract is used -/
section ZC
variable {p : Program} {l : Launch} {e : Env} {R : Room} {s : State} {m : MethodId} {args : Array Value} {below : List Frame} {meth : Method} {c : Code} {Q : State → Prop} {A : Nat → Prop} {D : va_G} {κ : zKp} {ad0 adV : Nat → Nat} {n0 nL : Nat} {own : String} {cc : ByteArray}
variable {P : zP} {Qp : zQ} {pc nx : Nat} {L : zL} {st : List Value} {u : Nat × Nat} {h : zH}
theorem zk_run {mc ms : Nat} {ad : Nat → Nat} {H : Heap} {locs : List Loc} {st0 rest : List Value} {a : Array Value} {ls : Array Slot} {Qc : zQ} (hr : va_Run p l e R s m args below meth c H locs u.1 u.2 mc ms (F0 m pc ls st0) rest (zPost D κ ad h H.size mc Qc a) (va_A (zW κ ad h) H.size))
    (hS : va_S A s.heap H locs) (hF : ∀ q, va_A (zW κ ad h) H.size q → A q)
    (kk : ∀ (r : Option Value) (h' : zH) (ad' : Nat → Nat) (H1 : Heap) (locs1 : List Loc), Qc r h' → zAg h.length ad ad' → (mc = 0 → ad' = ad) → h.length ≤ h'.length → va_P D vwCl (zW κ ad' h') H1 → va_D A (zW κ ad' h') → va_S A s.heap H1 locs1 → W p l e R s m args below meth c H1 locs1 (u.1 + mc) (u.2 + ms) Q (F0 m (pc + 3) ls ((r.map (zt ad')).toList ++ rest))) :
    W p l e R s m args below meth c H locs u.1 u.2 Q (F0 m pc ls st0) := by
  intro T hT X
  obtain ⟨v, st₀, t, T', L', g0, X', hL, e1, e2, ⟨⟨r, h', ad', hv, hq, a1, a2, a3, a4, a5, a6⟩, hz, hk⟩, stp⟩ := hr T hT X
  cases hv
  rw [g0] at hz hk
  obtain ⟨t2, b1, b2⟩ := kk r h' ad' T'.heap (locs ++ L') hq a1 a2 a3 (by rw [e1]; exact a4) (a6.weaken (fun k q _ z => hF q.1 z))
    ⟨Nat.le_trans hS.1 (by rw [e1]; exact hz), fun q g1 g2 => by rw [e1, hk q (Nat.lt_of_lt_of_le g1 hS.1) (fun z => g2 (hF q z))]; exact hS.2.1 q g1 g2, fun q hq => by
      rcases List.mem_append.mp hq with z | z
      · exact hS.2.2 q z
      · exact hF _ (hL q z)⟩ T' rfl X'
  exact ⟨t2, stp t2 b1, b2⟩
theorem zPc_blind {av : List Value} {ad : Nat → Nat} {sz : Nat} : FrameBlind (va_Pc av (zPre D κ ad adV h sz)) := by
  intro a U g mk q
  obtain ⟨q0, q1, q2, q3, q4, q5⟩ := q
  exact ⟨q0, q1, q2, va_K.moved (u := U) (U := U.calling g mk a) (Vm.Alike.refl U.vm) q3, q4, q5.same rfl⟩
theorem zPre_of {ad : Nat → Nat} {H : Heap} {locs : List Loc} (hK : va_K D vwCl (zty κ) s) (hG : zG ad0 adV A s s.heap) (h1 : zAg n0 ad0 ad) (h4 : va_P D vwCl (zW κ ad h) H) (h5 : va_D A (zW κ ad h)) (h6 : va_S A s.heap H locs) (hF : ∀ q, va_A (zW κ ad h) H.size q → A q) {U : State} (hU : U.heap = H) (hW : s.WarmedH U.vm) : zPre D κ ad adV h H.size U := by
  refine ⟨by rw [hU], by rw [hU]; exact h4, va_K.moved hW.alike hK, h5.weaken (fun _ _ _ _ => trivial), ?_⟩
  rw [hU]
  exact (((hG.kept h6.2.1).narrow hF).warm hW).ag h1
theorem zF_of {ad : Nat → Nat} {H : Heap} {locs : List Loc} (hA : ∀ q, s.heap.size ≤ q → A q) (h5 : va_D A (zW κ ad h)) (h6 : va_S A s.heap H locs) : ∀ q, va_A (zW κ ad h) H.size q → A q := by
  intro q hq
  rcases hq with ⟨k, e, hk⟩ | hq
  · exact h5.2 k (q, e) hk
  · exact hA q (Nat.le_trans h6.1 hq)
theorem zm_pu_eq (ad : Nat → Nat) (v : Option Value) (r : List Value) : (zm_pu v r).map (zt ad) = (v.map (zt ad)).toList ++ r.map (zt ad) := by cases v <;> rfl
theorem zk_cs (X : zCx p s m args c own cc nL A D κ ad0 adV) (hP : zLe P (zK p l e R s m args below meth c Q A D κ ad0 n0 nL)) {M n index : Nat} (hd : decode cc pc = .ok (.invokestatic index, 3)) (hn : nx = pc + 3) (hM : zMok M n) (hw1 : Cond.methodLink own index (zy M) ∈ zBT) (hw2 : Cond.static (zy M) ∈ zBT) (hz : zmc M = 0 ∧ zms M = 0)
    (hR : (zrm M).frames + 1 ≤ R.frames ∧ 8 + (zm_nl M + 11) + (zrm M).locals ≤ R.locals) (k : zo_cs M n nx P (zsm l) Qp L st u h) : zK p l e R s m args below meth c Q A D κ ad0 n0 nL pc L st u h := by
  subst hn
  obtain ⟨⟨hx, hb, hml, hown, hts⟩, hK, hA, hG⟩ := X
  intro ad H locs ls h1 h2 h3 h4 h5 h6 h7
  unfold zo_cs at k
  split at k
  · next as r hsp =>
    replace k := zcond k
    obtain ⟨c1, k⟩ := k
    obtain ⟨g1, g2⟩ := zm_sp_eq hsp
    have hF := zF_of hA h5 h6
    have cw : CallB R s args own index (zy M) (zcc M) (zm_nl M) (zrt M) (zwd M) (zrm M) (zmc M) (zms M) n ∧ (Cond.static (zy M)).before args s = true :=
      ⟨callB_of (ws' := zBT) n hts (zwd_good hM) rfl rfl rfl (hts _ hM.2.1) (hts _ hw1) ⟨hM.2.2.1.1, hM.2.2.1.2, hM.2.2.2⟩ hR, hts _ hw2⟩
    have hr := va_runS (l := l) (e := e) (below := below) (meth := meth) (locs := locs) (cells := u.1) (slots := u.2) (As := as.map (zt ad)) (rest := r.map (zt ad)) (g := F0 m pc ls (st.map (zt ad))) ⟨hx, hb, hml, hown, hts⟩ (k D κ ad adV H.size) cw ⟨zPc_blind, fun U hU hW => ⟨rfl, zPre_of hK hG h1 h4 h5 h6 hF hU hW⟩⟩ rfl (by rw [List.length_map, g2]; simp) h7.2.1
      (by show st.map (zt ad) = _; rw [← List.map_reverse, ← List.map_append, g1]; rfl) (lv_room (rest := st.map (zt ad)) (by rw [zm_cat_eq]; exact Nat.le_of_ble_eq_true c1)) hd (by rw [hz.1, hz.2]; exact h3.2)
    refine zk_run hr h6 hF (fun v h' ad' H1 locs1 q1 q2 q3 q4 q5 q6 q7 => ?_)
    have := q3 hz.1
    subst this
    rw [← zm_pu_eq, hz.1, hz.2]
    exact hP _ _ _ _ _ q1 ad' H1 locs1 ls h1 h2 ⟨Nat.le_trans h3.1 q4, h3.2⟩ q5 q6 q7 h7
  · exact k.elim
theorem zk_cv (X : zCx p s m args c own cc nL A D κ ad0 adV) (hP : zLe P (zK p l e R s m args below meth c Q A D κ ad0 n0 nL)) {ci M n index : Nat} {qc : vw_C} (hd : decode cc pc = .ok (.invokevirtual index, 3)) (hn : nx = pc + 3) (hM : zMok M n) (hc : vwCl[ci]? = some qc) (hw1 : Cond.methodLink own index (zy M) ∈ zBT) (hw2 : Cond.instanceMethod (zy M) ∈ zBT) (hw3 : Cond.selects qc.1 (zy M) (zy M) ∈ zBT) (hz : zmc M = 0 ∧ zms M = 0)
    (hR : (zrm M).frames + 1 ≤ R.frames ∧ 8 + (zm_nl M + 11) + (zrm M).locals ≤ R.locals) (k : zo_cv ci M n nx P (zsm l) Qp L st u h) : zK p l e R s m args below meth c Q A D κ ad0 n0 nL pc L st u h := by
  subst hn
  obtain ⟨⟨hx, hb, hml, hown, hts⟩, hK, hA, hG⟩ := X
  intro ad H locs ls h1 h2 h3 h4 h5 h6 h7
  unfold zo_cv at k
  split at k
  · next as a r hsp =>
    split at k
    · next c1 fs hg =>
      replace k := zcond k
      obtain ⟨c2, k⟩ := k
      have := Nat.eq_of_beq_eq_true c2
      subst this
      replace k := zcond k
      obtain ⟨c3, k⟩ := k
      obtain ⟨g1, g2⟩ := zm_sp_eq hsp
      have hF := zF_of hA h5 h6
      have cw : CallW R s args own qc.1 index (zy M) (zcc M) (zm_nl M) (zrt M) (zwd M) (zrm M) (zmc M) (zms M) n :=
        ⟨callB_of (ws' := zBT) n hts (zwd_good hM) rfl rfl rfl (hts _ hM.2.1) (hts _ hw1) ⟨hM.2.2.1.1, hM.2.2.1.2, hM.2.2.2⟩ hR, hts _ hw2, hts _ hw3⟩
      have hr := va_runV (l := l) (e := e) (below := below) (meth := meth) (locs := locs) (cells := u.1) (slots := u.2) (b := ad a) (As := as.map (zt ad)) (rest := r.map (zt ad)) (g := F0 m pc ls (st.map (zt ad))) ⟨hx, hb, hml, hown, hts⟩ (k D κ ad adV H.size) cw ⟨zPc_blind, va_recv hK h4 hc (zW_at hg), fun U hU hW => ⟨rfl, zPre_of hK hG h1 h4 h5 h6 hF hU hW⟩⟩ rfl (by rw [List.length_map, g2]; simp) h7.2.1
        (by show st.map (zt ad) = _; rw [show Value.ref (ad a) :: r.map (zt ad) = (Value.ref a :: r).map (zt ad) from rfl, ← List.map_reverse, ← List.map_append, g1]; rfl) (lv_room (rest := st.map (zt ad)) (by rw [zm_cat_eq]; exact Nat.le_of_ble_eq_true c3)) hd (by rw [hz.1, hz.2]; exact h3.2)
      refine zk_run hr h6 hF (fun v h' ad' H1 locs1 q1 q2 q3 q4 q5 q6 q7 => ?_)
      have := q3 hz.1
      subst this
      rw [← zm_pu_eq, hz.1, hz.2]
      exact hP _ _ _ _ _ q1 ad' H1 locs1 ls h1 h2 ⟨Nat.le_trans h3.1 q4, h3.2⟩ q5 q6 q7 h7
    · exact k.elim
  · exact k.elim
theorem zk_ci (X : zCx p s m args c own cc nL A D κ ad0 adV) (hP : zLe P (zK p l e R s m args below meth c Q A D κ ad0 n0 nL)) {M n index mc ms cmc cms : Nat} (hd : decode cc pc = .ok (.invokespecial index, 3)) (hn : nx = pc + 3) (hM : zMok M n) (hi : (zy M).name = "<init>") (hrt : zrt M = none) (hw1 : Cond.methodLink own index (zy M) ∈ zBT) (hw2 : Cond.instanceMethod (zy M) ∈ zBT) (hz : zmc M = mc ∧ zms M = ms)
    (hRm : cmc ≤ R.cells ∧ cms ≤ R.slots) (hR : (zrm M).frames + 1 ≤ R.frames ∧ 8 + (zm_nl M + 11) + (zrm M).locals ≤ R.locals) (k : zo_ci M n mc ms cmc cms nx P (zsm l) Qp L st u h) : zK p l e R s m args below meth c Q A D κ ad0 n0 nL pc L st u h := by
  subst hn
  obtain ⟨rfl, rfl⟩ := hz
  obtain ⟨⟨hx, hb, hml, hown, hts⟩, hK, hA, hG⟩ := X
  intro ad H locs ls h1 h2 h3 h4 h5 h6 h7
  unfold zo_ci at k
  split at k
  · next as a r hsp =>
    replace k := zcond k
    obtain ⟨c3, hs, k⟩ := k
    obtain ⟨hs, hu1, hu2⟩ := zm_al_of hs
    obtain ⟨s1, s2, s3, s4⟩ := zm_sc_of hs
    obtain ⟨g1, g2⟩ := zm_sp_eq hsp
    have hF := zF_of hA h5 h6
    have cw : CallB R s args own index (zy M) (zcc M) (zm_nl M) none (zwd M) (zrm M) (zmc M) (zms M) n ∧ (zy M).name = "<init>" ∧ (Cond.instanceMethod (zy M)).before args s = true :=
      ⟨callB_of (ws' := zBT) n hts (zwd_good hM) (by unfold zwd; rw [hrt]) rfl rfl (hts _ hM.2.1) (hts _ hw1) ⟨hM.2.2.1.1, hM.2.2.1.2, hM.2.2.2⟩ hR, hi, hts _ hw2⟩
    have hr := va_runI (l := l) (e := e) (below := below) (meth := meth) (locs := locs) (cells := u.1) (slots := u.2) (b := ad a) (As := as.map (zt ad)) (rest := r.map (zt ad)) (g := F0 m pc ls (st.map (zt ad))) ⟨hx, hb, hml, hown, hts⟩ (k D κ ad adV H.size) cw ⟨zPc_blind, fun U hU hW => ⟨rfl, zPre_of hK hG h1 h4 h5 h6 hF hU hW⟩⟩ rfl (by rw [List.length_map, g2]; simp) h7.2.1
      (by show st.map (zt ad) = _; rw [show Value.ref (ad a) :: r.map (zt ad) = (Value.ref a :: r).map (zt ad) from rfl, ← List.map_reverse, ← List.map_append, g1]; rfl) (lv_room (rest := st.map (zt ad)) (by rw [zm_cat_eq]; exact Nat.le_of_ble_eq_true c3)) hd ⟨Nat.le_trans hu1 hRm.1, Nat.le_trans hu2 hRm.2⟩
    refine zk_run hr h6 hF (fun v h' ad' H1 locs1 q1 q2 q3 q4 q5 q6 q7 => ?_)
    rw [← zm_oks_ag q2 s4, ← zm_pu_eq]
    exact hP _ _ _ _ _ q1 ad' H1 locs1 ls (h1.trans q2 h3.1) (fun z => by
      have z : u.1 + zmc M = 0 := z
      rw [q3 (by omega)]; exact h2 (by omega)) ⟨Nat.le_trans h3.1 q4, Nat.le_trans hu1 hRm.1, Nat.le_trans hu2 hRm.2⟩ q5 q6 q7 (h7.ag q2 s3)
  · exact k.elim
end ZC
end
section
/-! STRING CONSTANTS: length and charAt, the library's own code -/
def zSp (ad adV : Nat → Nat) (sz : Nat) (U : State) : Prop := U.heap.size = sz ∧ zG ad adV (fun q => sz ≤ q) U U.heap
theorem zSp_blind {av : List Value} {ad adV : Nat → Nat} {sz : Nat} : FrameBlind (va_Pc av (zSp ad adV sz)) := by
  intro a U g mk q
  obtain ⟨q0, q1, q2⟩ := q
  exact ⟨q0, q1, q2.same rfl⟩
theorem zBT_app (c : Cond) : ∀ w ∈ zBT, w ∈ c :: zBT := fun _ h => List.mem_cons_of_mem _ h
theorem zBT_goodc {c : Cond} (h : c ∈ zBT) : GoodIn zBT (c :: zBT) := by
  intro w hw
  rcases List.mem_cons.mp hw with rfl | hw
  · exact ⟨h, zBT_good h⟩
  · exact ⟨hw, zBT_good hw⟩
theorem dd_ck3_0 : decode cJ3_checkIndex_8e157 0 = .ok (.iload_n 0, 1) := by decide +kernel
theorem dd_ck3_1 : decode cJ3_checkIndex_8e157 1 = .ok (.ifCond .lt 8, 3) := by decide +kernel
theorem dd_ck3_4 : decode cJ3_checkIndex_8e157 4 = .ok (.iload_n 0, 1) := by decide +kernel
theorem dd_ck3_5 : decode cJ3_checkIndex_8e157 5 = .ok (.iload_n 1, 1) := by decide +kernel
theorem dd_ck3_6 : decode cJ3_checkIndex_8e157 6 = .ok (.if_icmp .lt 10, 3) := by decide +kernel
theorem dd_ck3_16 : decode cJ3_checkIndex_8e157 16 = .ok (.iload_n 0, 1) := by decide +kernel
theorem dd_ck3_17 : decode cJ3_checkIndex_8e157 17 = .ok (.ireturn, 1) := by decide +kernel
set_option maxHeartbeats 4000000 in
theorem zj_ck3 (l : Launch) (i n : Int32) (v : Value) (hc : v.category = 1) (h0 : ¬ i < 0) (hn : i < n) : Met l yJ3_checkIndex_8e157 (.code yJ3_checkIndex_8e157 cJ3_checkIndex_8e157 3 (some .int) :: zBT) { frames := 0, cells := 0, slots := 0, locals := 0 } (va_Pc [.int i, .int n, v] (fun _ => True)) (vp_Si (fun r => r = i)) 0 0 (fun _ => False) := by
  refine Met.ofW (cc := cJ3_checkIndex_8e157) (maxL := 3) (ret := some .int) (by decide) rfl ?_
  intro p e s m args below meth c s₁ B hml hv
  obtain ⟨rfl, -⟩ := hv
  have hx := B.exec
  have hb := B.bytes
  have hr := B.returns
  have hlocks := B.notSynchronized
  have e0 : (lg_sl [Value.int i, Value.int n, v]).length ≤ 3 := by cases v <;> first | exact Nat.le_of_ble_eq_true rfl | (simp [Value.category] at hc)
  have hl := lv_entry ([.int i, .int n, v]) (n := 3) e0
  rw [lg_entry_eq]
  generalize (lg_sl ([.int i, .int n, v]) ++ List.replicate (3 - (lg_sl ([.int i, .int n, v])).length) Slot.unset).toArray = ls at hl ⊢
  have hl : lv_has ls 3 [(0, .int i), (1, .int n), (2, v)] := hl
  refine lv_iload_n hx hb dd_ck3_0 rfl (lv_at hl 0 rfl) ?_
  refine lv_if_lt (tgt := 9) hx hb dd_ck3_1 (by decide) (fun z => absurd z h0) (fun _ => ?_)
  refine lv_iload_n hx hb dd_ck3_4 rfl (lv_at hl 0 rfl) ?_
  refine lv_iload_n hx hb dd_ck3_5 rfl (lv_at hl 1 rfl) ?_
  refine lv_icmp_lt (tgt := 16) hx hb dd_ck3_6 (by decide) (fun _ => ?_) (fun z => absurd hn z)
  refine lv_iload_n hx hb dd_ck3_16 rfl (lv_at hl 0 rfl) ?_
  exact W.iret hx hb hr (fun t ht hW => ⟨i, rfl, rfl, ht⟩) (fun q hq => by cases hq) dd_ck3_17
theorem wj_ck0_f : Cond.fieldLink RJ0 1053 "jdk/internal/util/Preconditions" "SIOOBE_FORMATTER" "Ljava/util/function/BiFunction;" ∈ zBT := zBT_in (by decide +kernel) (by decide +kernel)
theorem wj_ck0_l : Cond.methodLink RJ0 1059 yJ3_checkIndex_8e157 ∈ zBT := zBT_in (by decide +kernel) (by decide +kernel)
theorem wj_ck0_s : Cond.static yJ3_checkIndex_8e157 ∈ zBT := zBT_in (by decide +kernel) (by decide +kernel)
theorem wj_ck0_i : Cond.initialized yJ3_checkIndex_8e157.cls ∈ zBT := zBT_in (by decide +kernel) (by decide +kernel)
theorem wj_ck3_c : Cond.code yJ3_checkIndex_8e157 cJ3_checkIndex_8e157 3 (some .int) ∈ zBT := zBT_in (by decide +kernel) (by decide +kernel)
theorem dd_ck0_0 : decode cJ0_checkIndex_df160 0 = .ok (.iload_n 0, 1) := by decide +kernel
theorem dd_ck0_1 : decode cJ0_checkIndex_df160 1 = .ok (.iload_n 1, 1) := by decide +kernel
theorem dd_ck0_2 : decode cJ0_checkIndex_df160 2 = .ok (.getstatic 1053, 3) := by decide +kernel
theorem dd_ck0_5 : decode cJ0_checkIndex_df160 5 = .ok (.invokestatic 1059, 3) := by decide +kernel
theorem dd_ck0_8 : decode cJ0_checkIndex_df160 8 = .ok (.pop, 1) := by decide +kernel
theorem dd_ck0_9 : decode cJ0_checkIndex_df160 9 = .ok (.return_, 1) := by decide +kernel
set_option maxHeartbeats 4000000 in
theorem zj_ck0 (l : Launch) (ad adV : Nat → Nat) (sz : Nat) (i n : Int32) (h0 : ¬ i < 0) (hn : i < n) : Met l yJ0_checkIndex_df160 (.code yJ0_checkIndex_df160 cJ0_checkIndex_df160 2 none :: zBT) { frames := 1, cells := 0, slots := 0, locals := 22 } (va_Pc [.int i, .int n] (zSp ad adV sz)) (va_Sv (fun _ => True)) 0 0 (fun _ => False) := by
  refine Met.ofW (cc := cJ0_checkIndex_df160) (maxL := 2) (ret := none) (by decide) rfl ?_
  intro p e s m args below meth c s₁ B hml hv
  obtain ⟨rfl, hsz, hG⟩ := hv
  have hx := B.exec
  have hb := B.bytes
  have hr := B.returns
  have hlocks := B.notSynchronized
  have hts0 := atoms_spec (ws := .code yJ0_checkIndex_df160 cJ0_checkIndex_df160 2 none :: zBT) B.pre
  have hts : ∀ w ∈ zBT, w.before _ s = true := fun w hw => hts0 w (zBT_app _ w hw)
  have hown : s.vm.findClass RJ0 = some m.cls := findClass_of_methodNamed B.named
  subst hsz
  have hS : va_S (fun q => s.heap.size ≤ q) s.heap s.heap [] := va_S.rf
  have hl := lv_entry ([.int i, .int n]) (n := 2) (Nat.le_of_ble_eq_true rfl)
  rw [lg_entry_eq]
  generalize (lg_sl ([.int i, .int n]) ++ List.replicate (2 - (lg_sl ([.int i, .int n])).length) Slot.unset).toArray = ls at hl ⊢
  have hl : lv_has ls 2 [(0, .int i), (1, .int n)] := hl
  refine lv_iload_n hx hb dd_ck0_0 rfl (lv_at hl 0 rfl) ?_
  refine lv_iload_n hx hb dd_ck0_1 rfl (lv_at hl 1 rfl) ?_
  have go : ∀ v : Value, v.category = 1 → W p l e (headSpec (.code yJ0_checkIndex_df160 cJ0_checkIndex_df160 2 none :: zBT) { frames := 1, cells := 0, slots := 0, locals := 22 }).room s m [.int i, .int n].toArray below meth c s.heap [] 0 0 (MQ below (va_Sv (fun _ => True)) [.int i, .int n].toArray s 0 0 (fun _ => False)) (F0 m 5 ls [v, .int n, .int i]) := by
    intro v hc
    have cw : CallB (headSpec (.code yJ0_checkIndex_df160 cJ0_checkIndex_df160 2 none :: zBT) { frames := 1, cells := 0, slots := 0, locals := 22 }).room s [.int i, .int n].toArray RJ0 1059 yJ3_checkIndex_8e157 cJ3_checkIndex_8e157 3 (some .int) (.code yJ3_checkIndex_8e157 cJ3_checkIndex_8e157 3 (some .int) :: zBT) { frames := 0, cells := 0, slots := 0, locals := 0 } 0 0 3 ∧ (Cond.static yJ3_checkIndex_8e157).before [.int i, .int n].toArray s = true :=
      ⟨callB_of 3 hts (zBT_goodc wj_ck3_c) rfl rfl rfl (hts _ wj_ck0_i) (hts _ wj_ck0_l) (by decide +kernel) ⟨Nat.le_of_ble_eq_true rfl, Nat.le_of_ble_eq_true rfl⟩, hts _ wj_ck0_s⟩
    refine vp_callSi (W.runS (As := [.int i, .int n, v]) (rest := []) ⟨hx, hb, hml, hown, hts⟩ (zj_ck3 l i n v hc h0 hn) cw ⟨fun _ _ _ _ q => q, fun U hU hW => ⟨rfl, trivial⟩⟩ rfl rfl hl.1 rfl (lv_room (Nat.le_of_ble_eq_true rfl)) dd_ck0_5 ⟨Nat.zero_le _, Nat.zero_le _⟩) (fun r hr1 => ?_)
    refine lv_pop hx hb dd_ck0_8 rfl ?_
    exact W.vret hx hb hr (fun t ht hW => ⟨rfl, trivial, ht⟩) (fun q hq => by cases hq) dd_ck0_9
  rcases hG.2.2.1 with hZ | ⟨t, hZ⟩
  · exact va_gets (v := .null) hx hb hZ hS hown (hts _ wj_ck0_f) (fun _ h9 => h9) dd_ck0_2 (go .null rfl)
  · exact va_gets (v := .ref t) hx hb hZ hS hown (hts _ wj_ck0_f) (fun _ h9 => h9) dd_ck0_2 (go (.ref t) rfl)

theorem wj_l1_l : Cond.methodLink RJ1 9 yJ0_checkIndex_df160 ∈ zBT := zBT_in (by decide +kernel) (by decide +kernel)
theorem wj_l1_s : Cond.static yJ0_checkIndex_df160 ∈ zBT := zBT_in (by decide +kernel) (by decide +kernel)
theorem wj_l1_i : Cond.initialized yJ0_checkIndex_df160.cls ∈ zBT := zBT_in (by decide +kernel) (by decide +kernel)
theorem wj_ck0_c : Cond.code yJ0_checkIndex_df160 cJ0_checkIndex_df160 2 none ∈ zBT := zBT_in (by decide +kernel) (by decide +kernel)
theorem dd_l1_0 : decode cJ1_charAt_3b067 0 = .ok (.iload_n 1, 1) := by decide +kernel
theorem dd_l1_1 : decode cJ1_charAt_3b067 1 = .ok (.aload_n 0, 1) := by decide +kernel
theorem dd_l1_2 : decode cJ1_charAt_3b067 2 = .ok (.arraylength, 1) := by decide +kernel
theorem dd_l1_3 : decode cJ1_charAt_3b067 3 = .ok (.invokestatic 9, 3) := by decide +kernel
theorem dd_l1_6 : decode cJ1_charAt_3b067 6 = .ok (.aload_n 0, 1) := by decide +kernel
theorem dd_l1_7 : decode cJ1_charAt_3b067 7 = .ok (.iload_n 1, 1) := by decide +kernel
theorem dd_l1_8 : decode cJ1_charAt_3b067 8 = .ok (.baload, 1) := by decide +kernel
theorem dd_l1_9 : decode cJ1_charAt_3b067 9 = .ok (.sipush 255, 3) := by decide +kernel
theorem dd_l1_12 : decode cJ1_charAt_3b067 12 = .ok (.iand, 1) := by decide +kernel
theorem dd_l1_13 : decode cJ1_charAt_3b067 13 = .ok (.i2c, 1) := by decide +kernel
theorem dd_l1_14 : decode cJ1_charAt_3b067 14 = .ok (.ireturn, 1) := by decide +kernel
/-- the constants' signs are bytes below 128, their lengths as told -/
theorem zm_tx_ok : ∀ q, q < 12 → zm_ln.getD q 0 = (zm_tx.getD q []).length ∧ ∀ j, j < (zm_tx.getD q []).length → ((((zm_tx.getD q []).getD j 0) &&& 255).toUInt32 % 65536).toInt32 = (zm_tx.getD q []).getD j 0 ∧ narrow .char (.int ((zm_tx.getD q []).getD j 0)) = .int ((zm_tx.getD q []).getD j 0) := by decide +kernel
theorem zm_ln_small : ∀ q, q < 12 → zm_ln.getD q 0 < 100 := by decide +kernel
set_option maxHeartbeats 4000000 in
theorem zj_l1 (l : Launch) (ad adV : Nat → Nat) (sz q j : Nat) (hq : q < 12) (hj : j < (zm_tx.getD q []).length) : Met l yJ1_charAt_3b067 (.code yJ1_charAt_3b067 cJ1_charAt_3b067 2 (some .char) :: zBT) { frames := 2, cells := 0, slots := 0, locals := 43 } (va_Pc [.ref (adV q), .int (nI j)] (zSp ad adV sz)) (vp_Si (fun r => r = (zm_tx.getD q []).getD j 0)) 0 0 (fun _ => False) := by
  obtain ⟨t1, t2⟩ := zm_tx_ok q hq
  have t3 := zm_ln_small q hq
  refine Met.ofW (cc := cJ1_charAt_3b067) (maxL := 2) (ret := some .char) (by decide) rfl ?_
  intro p e s m args below meth c s₁ B hml hv
  obtain ⟨rfl, hsz, hG⟩ := hv
  have hx := B.exec
  have hb := B.bytes
  have hr := B.returns
  have hlocks := B.notSynchronized
  have hts0 := atoms_spec (ws := .code yJ1_charAt_3b067 cJ1_charAt_3b067 2 (some .char) :: zBT) B.pre
  have hts : ∀ w ∈ zBT, w.before _ s = true := fun w hw => hts0 w (zBT_app _ w hw)
  have hown : s.vm.findClass RJ1 = some m.cls := findClass_of_methodNamed B.named
  subst hsz
  have hS : va_S (fun q => s.heap.size ≤ q) s.heap s.heap [] := va_S.rf
  have hT := (hG.1.1 q hq).2.2.2
  have hl := lv_entry ([.ref (adV q), .int (nI j)]) (n := 2) (Nat.le_of_ble_eq_true rfl)
  rw [lg_entry_eq]
  generalize (lg_sl ([.ref (adV q), .int (nI j)]) ++ List.replicate (2 - (lg_sl ([.ref (adV q), .int (nI j)])).length) Slot.unset).toArray = ls at hl ⊢
  have hl : lv_has ls 2 [(0, .ref (adV q)), (1, .int (nI j))] := hl
  refine lv_iload_n hx hb dd_l1_0 rfl (lv_at hl 1 rfl) ?_
  refine lv_aload_n hx hb dd_l1_1 rfl (lv_at hl 0 rfl) ?_
  refine va_tlen (v := nI (zm_ln.getD q 0)) hx hb hT hS rfl dd_l1_2 ?_
  have cw : CallB (headSpec (.code yJ1_charAt_3b067 cJ1_charAt_3b067 2 (some .char) :: zBT) { frames := 2, cells := 0, slots := 0, locals := 43 }).room s [.ref (adV q), .int (nI j)].toArray RJ1 9 yJ0_checkIndex_df160 cJ0_checkIndex_df160 2 none (.code yJ0_checkIndex_df160 cJ0_checkIndex_df160 2 none :: zBT) { frames := 1, cells := 0, slots := 0, locals := 22 } 0 0 2 ∧ (Cond.static yJ0_checkIndex_df160).before [.ref (adV q), .int (nI j)].toArray s = true :=
    ⟨callB_of 2 hts (zBT_goodc wj_ck0_c) rfl rfl rfl (hts _ wj_l1_i) (hts _ wj_l1_l) (by decide +kernel) ⟨Nat.le_of_ble_eq_true rfl, Nat.le_of_ble_eq_true rfl⟩, hts _ wj_l1_s⟩
  refine va_csv (W.runS (As := [.int (nI j), .int (nI (zm_ln.getD q 0))]) (rest := []) ⟨hx, hb, hml, hown, hts⟩ (zj_ck0 l ad adV s.heap.size (nI j) (nI (zm_ln.getD q 0)) (nI_pos (by omega)) (nI_lt (by omega) (by omega))) cw ⟨zSp_blind, fun U hU hW => ⟨rfl, by rw [hU], by rw [hU]; exact hG.warm hW⟩⟩ rfl rfl hl.1 rfl (lv_room (Nat.le_of_ble_eq_true rfl)) dd_l1_3 ⟨Nat.zero_le _, Nat.zero_le _⟩) (fun _ => ?_)
  refine lv_aload_n hx hb dd_l1_6 rfl (lv_at hl 0 rfl) ?_
  refine lv_iload_n hx hb dd_l1_7 rfl (lv_at hl 1 rfl) ?_
  refine va_tb (v := .int ((zm_tx.getD q []).getD j 0)) hx hb hT hS (vp_in_nI (by omega) (by omega)) (by show Value.int ((zm_tx.getD q []).getD (nI j).toNatClampNeg 0) = _; rw [nI_clamp (by omega)]) dd_l1_8 ?_
  refine lv_sipush (v := 255) hx hb dd_l1_9 (by decide) ?_
  refine lv_iand hx hb dd_l1_12 ?_
  refine lv_i2c (v := (zm_tx.getD q []).getD j 0) hx hb dd_l1_13 (t2 j hj).1 ?_
  exact W.zret hx hb hr (t2 j hj).2 (fun t ht hW => ⟨_, rfl, rfl, ht⟩) (fun q hq => by cases hq) dd_l1_14
theorem wj_0_38 : Cond.fieldLink RJ0 38 "java/lang/String" "COMPACT_STRINGS" "Z" ∈ zBT := zBT_in (by decide +kernel) (by decide +kernel)
theorem wj_0_15 : Cond.fieldLink RJ0 15 "java/lang/String" "coder" "B" ∈ zBT := zBT_in (by decide +kernel) (by decide +kernel)
theorem wj_0_9 : Cond.fieldLink RJ0 9 "java/lang/String" "value" "[B" ∈ zBT := zBT_in (by decide +kernel) (by decide +kernel)
theorem dd_la_0 : decode cJ0_isLatin1_aae02 0 = .ok (.getstatic 38, 3) := by decide +kernel
theorem dd_la_3 : decode cJ0_isLatin1_aae02 3 = .ok (.ifCond .eq 14, 3) := by decide +kernel
theorem dd_la_6 : decode cJ0_isLatin1_aae02 6 = .ok (.aload_n 0, 1) := by decide +kernel
theorem dd_la_7 : decode cJ0_isLatin1_aae02 7 = .ok (.getfield 15, 3) := by decide +kernel
theorem dd_la_10 : decode cJ0_isLatin1_aae02 10 = .ok (.ifCond .ne 7, 3) := by decide +kernel
theorem dd_la_13 : decode cJ0_isLatin1_aae02 13 = .ok (.iconst 1, 1) := by decide +kernel
theorem dd_la_14 : decode cJ0_isLatin1_aae02 14 = .ok (.goto 4, 3) := by decide +kernel
theorem dd_la_18 : decode cJ0_isLatin1_aae02 18 = .ok (.ireturn, 1) := by decide +kernel
set_option maxHeartbeats 4000000 in
theorem zj_la (l : Launch) (ad adV : Nat → Nat) (sz q : Nat) (hq : q < 12) : Met l yJ0_isLatin1_aae02 (.code yJ0_isLatin1_aae02 cJ0_isLatin1_aae02 1 (some .boolean) :: zBT) { frames := 0, cells := 0, slots := 0, locals := 0 } (va_Pc [.ref (ad (1000 + q))] (zSp ad adV sz)) (vp_Si (fun r => r = 1)) 0 0 (fun _ => False) := by
  refine Met.ofW (cc := cJ0_isLatin1_aae02) (maxL := 1) (ret := some .boolean) (by decide) rfl ?_
  intro p e s m args below meth c s₁ B hml hv
  obtain ⟨rfl, hsz, hG⟩ := hv
  have hx := B.exec
  have hb := B.bytes
  have hr := B.returns
  have hlocks := B.notSynchronized
  have hts0 := atoms_spec (ws := .code yJ0_isLatin1_aae02 cJ0_isLatin1_aae02 1 (some .boolean) :: zBT) B.pre
  have hts : ∀ w ∈ zBT, w.before _ s = true := fun w hw => hts0 w (zBT_app _ w hw)
  have hown : s.vm.findClass RJ0 = some m.cls := findClass_of_methodNamed B.named
  subst hsz
  have hS : va_S (fun q => s.heap.size ≤ q) s.heap s.heap [] := va_S.rf
  have hl := lv_entry ([.ref (ad (1000 + q))]) (n := 1) (Nat.le_of_ble_eq_true rfl)
  rw [lg_entry_eq]
  generalize (lg_sl ([.ref (ad (1000 + q))]) ++ List.replicate (1 - (lg_sl ([.ref (ad (1000 + q))])).length) Slot.unset).toArray = ls at hl ⊢
  have hl : lv_has ls 1 [(0, .ref (ad (1000 + q)))] := hl
  refine va_gets (v := .int 1) hx hb hG.2.1 hS hown (hts _ wj_0_38) (fun _ h9 => h9) dd_la_0 ?_
  refine lv_if_eq (tgt := 17) hx hb dd_la_3 (by decide) (fun z => absurd z (by decide)) (fun _ => ?_)
  refine lv_aload_n hx hb dd_la_6 rfl (lv_at hl 0 rfl) ?_
  refine vk_getf (v := .int 0) hx hb (hG.1.1 q hq).2.1 hS hown (hts _ wj_0_15) (fun _ h9 => h9) dd_la_7 ?_
  refine lv_if_ne (tgt := 17) hx hb dd_la_10 (by decide) (fun z => absurd rfl z) (fun _ => ?_)
  refine lv_iconst (v := 1) hx hb dd_la_13 (by decide) ?_
  refine lv_goto (tgt := 18) hx hb dd_la_14 (by decide) ?_
  exact W.zret hx hb hr rfl (fun t ht hW => ⟨1, rfl, rfl, ht⟩) (fun q hq => by cases hq) dd_la_18
theorem dd_co_0 : decode cJ0_coder_7d493 0 = .ok (.getstatic 38, 3) := by decide +kernel
theorem dd_co_3 : decode cJ0_coder_7d493 3 = .ok (.ifCond .eq 10, 3) := by decide +kernel
theorem dd_co_6 : decode cJ0_coder_7d493 6 = .ok (.aload_n 0, 1) := by decide +kernel
theorem dd_co_7 : decode cJ0_coder_7d493 7 = .ok (.getfield 15, 3) := by decide +kernel
theorem dd_co_10 : decode cJ0_coder_7d493 10 = .ok (.goto 4, 3) := by decide +kernel
theorem dd_co_14 : decode cJ0_coder_7d493 14 = .ok (.ireturn, 1) := by decide +kernel
set_option maxHeartbeats 4000000 in
theorem zj_co (l : Launch) (ad adV : Nat → Nat) (sz q : Nat) (hq : q < 12) : Met l yJ0_coder_7d493 (.code yJ0_coder_7d493 cJ0_coder_7d493 1 (some .byte) :: zBT) { frames := 0, cells := 0, slots := 0, locals := 0 } (va_Pc [.ref (ad (1000 + q))] (zSp ad adV sz)) (vp_Si (fun r => r = 0)) 0 0 (fun _ => False) := by
  refine Met.ofW (cc := cJ0_coder_7d493) (maxL := 1) (ret := some .byte) (by decide) rfl ?_
  intro p e s m args below meth c s₁ B hml hv
  obtain ⟨rfl, hsz, hG⟩ := hv
  have hx := B.exec
  have hb := B.bytes
  have hr := B.returns
  have hlocks := B.notSynchronized
  have hts0 := atoms_spec (ws := .code yJ0_coder_7d493 cJ0_coder_7d493 1 (some .byte) :: zBT) B.pre
  have hts : ∀ w ∈ zBT, w.before _ s = true := fun w hw => hts0 w (zBT_app _ w hw)
  have hown : s.vm.findClass RJ0 = some m.cls := findClass_of_methodNamed B.named
  subst hsz
  have hS : va_S (fun q => s.heap.size ≤ q) s.heap s.heap [] := va_S.rf
  have hl := lv_entry ([.ref (ad (1000 + q))]) (n := 1) (Nat.le_of_ble_eq_true rfl)
  rw [lg_entry_eq]
  generalize (lg_sl ([.ref (ad (1000 + q))]) ++ List.replicate (1 - (lg_sl ([.ref (ad (1000 + q))])).length) Slot.unset).toArray = ls at hl ⊢
  have hl : lv_has ls 1 [(0, .ref (ad (1000 + q)))] := hl
  refine va_gets (v := .int 1) hx hb hG.2.1 hS hown (hts _ wj_0_38) (fun _ h9 => h9) dd_co_0 ?_
  refine lv_if_eq (tgt := 13) hx hb dd_co_3 (by decide) (fun z => absurd z (by decide)) (fun _ => ?_)
  refine lv_aload_n hx hb dd_co_6 rfl (lv_at hl 0 rfl) ?_
  refine vk_getf (v := .int 0) hx hb (hG.1.1 q hq).2.1 hS hown (hts _ wj_0_15) (fun _ h9 => h9) dd_co_7 ?_
  refine lv_goto (tgt := 14) hx hb dd_co_10 (by decide) ?_
  exact W.zret hx hb hr rfl (fun t ht hW => ⟨0, rfl, rfl, ht⟩) (fun q hq => by cases hq) dd_co_14
theorem wj_len_l : Cond.methodLink RJ0 335 yJ0_coder_7d493 ∈ zBT := zBT_in (by decide +kernel) (by decide +kernel)
theorem wj_len_n : Cond.instanceMethod yJ0_coder_7d493 ∈ zBT := zBT_in (by decide +kernel) (by decide +kernel)
theorem wj_len_s : Cond.selects RJ0 yJ0_coder_7d493 yJ0_coder_7d493 ∈ zBT := zBT_in (by decide +kernel) (by decide +kernel)
theorem wj_co_c : Cond.code yJ0_coder_7d493 cJ0_coder_7d493 1 (some .byte) ∈ zBT := zBT_in (by decide +kernel) (by decide +kernel)
theorem dd_le_0 : decode cJ0_length_8abf5 0 = .ok (.aload_n 0, 1) := by decide +kernel
theorem dd_le_1 : decode cJ0_length_8abf5 1 = .ok (.getfield 9, 3) := by decide +kernel
theorem dd_le_4 : decode cJ0_length_8abf5 4 = .ok (.arraylength, 1) := by decide +kernel
theorem dd_le_5 : decode cJ0_length_8abf5 5 = .ok (.aload_n 0, 1) := by decide +kernel
theorem dd_le_6 : decode cJ0_length_8abf5 6 = .ok (.invokevirtual 335, 3) := by decide +kernel
theorem dd_le_9 : decode cJ0_length_8abf5 9 = .ok (.ishr, 1) := by decide +kernel
theorem dd_le_10 : decode cJ0_length_8abf5 10 = .ok (.ireturn, 1) := by decide +kernel
set_option maxHeartbeats 4000000 in
theorem zj_le (l : Launch) (ad adV : Nat → Nat) (sz q : Nat) (hq : q < 12) : Met l yJ0_length_8abf5 (.code yJ0_length_8abf5 cJ0_length_8abf5 1 (some .int) :: zBT) { frames := 1, cells := 0, slots := 0, locals := 20 } (va_Pc [.ref (ad (1000 + q))] (zSp ad adV sz)) (vp_Si (fun r => r = nI (zm_tx.getD q []).length)) 0 0 (fun _ => False) := by
  obtain ⟨t1, t2⟩ := zm_tx_ok q hq
  have t3 := zm_ln_small q hq
  refine Met.ofW (cc := cJ0_length_8abf5) (maxL := 1) (ret := some .int) (by decide) rfl ?_
  intro p e s m args below meth c s₁ B hml hv
  obtain ⟨rfl, hsz, hG⟩ := hv
  have hx := B.exec
  have hb := B.bytes
  have hr := B.returns
  have hlocks := B.notSynchronized
  have hts0 := atoms_spec (ws := .code yJ0_length_8abf5 cJ0_length_8abf5 1 (some .int) :: zBT) B.pre
  have hts : ∀ w ∈ zBT, w.before _ s = true := fun w hw => hts0 w (zBT_app _ w hw)
  have hown : s.vm.findClass RJ0 = some m.cls := findClass_of_methodNamed B.named
  subst hsz
  have hS : va_S (fun q => s.heap.size ≤ q) s.heap s.heap [] := va_S.rf
  have hT := (hG.1.1 q hq).2.2.2
  have hl := lv_entry ([.ref (ad (1000 + q))]) (n := 1) (Nat.le_of_ble_eq_true rfl)
  rw [lg_entry_eq]
  generalize (lg_sl ([.ref (ad (1000 + q))]) ++ List.replicate (1 - (lg_sl ([.ref (ad (1000 + q))])).length) Slot.unset).toArray = ls at hl ⊢
  have hl : lv_has ls 1 [(0, .ref (ad (1000 + q)))] := hl
  refine lv_aload_n hx hb dd_le_0 rfl (lv_at hl 0 rfl) ?_
  refine vk_getf (v := .ref (adV q)) hx hb (hG.1.1 q hq).2.2.1 hS hown (hts _ wj_0_9) (fun _ h9 => h9) dd_le_1 ?_
  refine va_tlen (v := nI (zm_ln.getD q 0)) hx hb hT hS rfl dd_le_4 ?_
  refine lv_aload_n hx hb dd_le_5 rfl (lv_at hl 0 rfl) ?_
  have cw : CallW (headSpec (.code yJ0_length_8abf5 cJ0_length_8abf5 1 (some .int) :: zBT) { frames := 1, cells := 0, slots := 0, locals := 20 }).room s [.ref (ad (1000 + q))].toArray RJ0 RJ0 335 yJ0_coder_7d493 cJ0_coder_7d493 1 (some .byte) (.code yJ0_coder_7d493 cJ0_coder_7d493 1 (some .byte) :: zBT) { frames := 0, cells := 0, slots := 0, locals := 0 } 0 0 0 :=
    ⟨callB_of 0 hts (zBT_goodc wj_co_c) rfl rfl rfl (hts _ wj_l1_i) (hts _ wj_len_l) (by decide +kernel) ⟨Nat.le_of_ble_eq_true rfl, Nat.le_of_ble_eq_true rfl⟩, hts _ wj_len_n, hts _ wj_len_s⟩
  refine vp_callSi (W.runV (b := ad (1000 + q)) (As := []) (rest := [.int (nI (zm_ln.getD q 0))]) ⟨hx, hb, hml, hown, hts⟩ (zj_co l ad adV s.heap.size q hq) cw ⟨zSp_blind, vk_recv (adK := fun i => ad (1000 + i)) (i := q) hG.1 hq hS, fun U hU hW => ⟨rfl, by rw [hU], by rw [hU]; exact hG.warm hW⟩⟩ rfl rfl hl.1 rfl (lv_room (Nat.le_of_ble_eq_true rfl)) dd_le_6 ⟨Nat.zero_le _, Nat.zero_le _⟩) (fun r hr1 => ?_)
  subst hr1
  refine lv_ishr hx hb dd_le_9 ?_
  rw [sc_shr0 (by omega), t1]
  exact W.iret hx hb hr (fun t ht hW => ⟨_, rfl, rfl, ht⟩) (fun q hq => by cases hq) dd_le_10
theorem wj_ca_l : Cond.methodLink RJ0 492 yJ0_isLatin1_aae02 ∈ zBT := zBT_in (by decide +kernel) (by decide +kernel)
theorem wj_ca_n : Cond.instanceMethod yJ0_isLatin1_aae02 ∈ zBT := zBT_in (by decide +kernel) (by decide +kernel)
theorem wj_ca_s : Cond.selects RJ0 yJ0_isLatin1_aae02 yJ0_isLatin1_aae02 ∈ zBT := zBT_in (by decide +kernel) (by decide +kernel)
theorem wj_la_c : Cond.code yJ0_isLatin1_aae02 cJ0_isLatin1_aae02 1 (some .boolean) ∈ zBT := zBT_in (by decide +kernel) (by decide +kernel)
theorem wj_cb_l : Cond.methodLink RJ0 495 yJ1_charAt_3b067 ∈ zBT := zBT_in (by decide +kernel) (by decide +kernel)
theorem wj_cb_s : Cond.static yJ1_charAt_3b067 ∈ zBT := zBT_in (by decide +kernel) (by decide +kernel)
theorem wj_cb_i : Cond.initialized yJ1_charAt_3b067.cls ∈ zBT := zBT_in (by decide +kernel) (by decide +kernel)
theorem wj_l1_c : Cond.code yJ1_charAt_3b067 cJ1_charAt_3b067 2 (some .char) ∈ zBT := zBT_in (by decide +kernel) (by decide +kernel)
theorem dd_ca_0 : decode cJ0_charAt_5068e 0 = .ok (.aload_n 0, 1) := by decide +kernel
theorem dd_ca_1 : decode cJ0_charAt_5068e 1 = .ok (.invokevirtual 492, 3) := by decide +kernel
theorem dd_ca_4 : decode cJ0_charAt_5068e 4 = .ok (.ifCond .eq 12, 3) := by decide +kernel
theorem dd_ca_7 : decode cJ0_charAt_5068e 7 = .ok (.aload_n 0, 1) := by decide +kernel
theorem dd_ca_8 : decode cJ0_charAt_5068e 8 = .ok (.getfield 9, 3) := by decide +kernel
theorem dd_ca_11 : decode cJ0_charAt_5068e 11 = .ok (.iload_n 1, 1) := by decide +kernel
theorem dd_ca_12 : decode cJ0_charAt_5068e 12 = .ok (.invokestatic 495, 3) := by decide +kernel
theorem dd_ca_15 : decode cJ0_charAt_5068e 15 = .ok (.ireturn, 1) := by decide +kernel
set_option maxHeartbeats 4000000 in
theorem zj_ca (l : Launch) (ad adV : Nat → Nat) (sz q j : Nat) (hq : q < 12) (hj : j < (zm_tx.getD q []).length) : Met l yJ0_charAt_5068e (.code yJ0_charAt_5068e cJ0_charAt_5068e 2 (some .char) :: zBT) { frames := 3, cells := 0, slots := 0, locals := 64 } (va_Pc [.ref (ad (1000 + q)), .int (nI j)] (zSp ad adV sz)) (vp_Si (fun r => r = (zm_tx.getD q []).getD j 0)) 0 0 (fun _ => False) := by
  obtain ⟨t1, t2⟩ := zm_tx_ok q hq
  refine Met.ofW (cc := cJ0_charAt_5068e) (maxL := 2) (ret := some .char) (by decide) rfl ?_
  intro p e s m args below meth c s₁ B hml hv
  obtain ⟨rfl, hsz, hG⟩ := hv
  have hx := B.exec
  have hb := B.bytes
  have hr := B.returns
  have hlocks := B.notSynchronized
  have hts0 := atoms_spec (ws := .code yJ0_charAt_5068e cJ0_charAt_5068e 2 (some .char) :: zBT) B.pre
  have hts : ∀ w ∈ zBT, w.before _ s = true := fun w hw => hts0 w (zBT_app _ w hw)
  have hown : s.vm.findClass RJ0 = some m.cls := findClass_of_methodNamed B.named
  subst hsz
  have hS : va_S (fun q => s.heap.size ≤ q) s.heap s.heap [] := va_S.rf
  have hl := lv_entry ([.ref (ad (1000 + q)), .int (nI j)]) (n := 2) (Nat.le_of_ble_eq_true rfl)
  rw [lg_entry_eq]
  generalize (lg_sl ([.ref (ad (1000 + q)), .int (nI j)]) ++ List.replicate (2 - (lg_sl ([.ref (ad (1000 + q)), .int (nI j)])).length) Slot.unset).toArray = ls at hl ⊢
  have hl : lv_has ls 2 [(0, .ref (ad (1000 + q))), (1, .int (nI j))] := hl
  refine lv_aload_n hx hb dd_ca_0 rfl (lv_at hl 0 rfl) ?_
  have cw : CallW (headSpec (.code yJ0_charAt_5068e cJ0_charAt_5068e 2 (some .char) :: zBT) { frames := 3, cells := 0, slots := 0, locals := 64 }).room s [.ref (ad (1000 + q)), .int (nI j)].toArray RJ0 RJ0 492 yJ0_isLatin1_aae02 cJ0_isLatin1_aae02 1 (some .boolean) (.code yJ0_isLatin1_aae02 cJ0_isLatin1_aae02 1 (some .boolean) :: zBT) { frames := 0, cells := 0, slots := 0, locals := 0 } 0 0 0 :=
    ⟨callB_of 0 hts (zBT_goodc wj_la_c) rfl rfl rfl (hts _ wj_l1_i) (hts _ wj_ca_l) (by decide +kernel) ⟨Nat.le_of_ble_eq_true rfl, Nat.le_of_ble_eq_true rfl⟩, hts _ wj_ca_n, hts _ wj_ca_s⟩
  refine vp_callSi (W.runV (b := ad (1000 + q)) (As := []) (rest := []) ⟨hx, hb, hml, hown, hts⟩ (zj_la l ad adV s.heap.size q hq) cw ⟨zSp_blind, vk_recv (adK := fun i => ad (1000 + i)) (i := q) hG.1 hq hS, fun U hU hW => ⟨rfl, by rw [hU], by rw [hU]; exact hG.warm hW⟩⟩ rfl rfl hl.1 rfl (lv_room (Nat.le_of_ble_eq_true rfl)) dd_ca_1 ⟨Nat.zero_le _, Nat.zero_le _⟩) (fun r hr1 => ?_)
  subst hr1
  refine lv_if_eq (tgt := 16) hx hb dd_ca_4 (by decide) (fun z => absurd z (by decide)) (fun _ => ?_)
  refine lv_aload_n hx hb dd_ca_7 rfl (lv_at hl 0 rfl) ?_
  refine vk_getf (v := .ref (adV q)) hx hb (hG.1.1 q hq).2.2.1 hS hown (hts _ wj_0_9) (fun _ h9 => h9) dd_ca_8 ?_
  refine lv_iload_n hx hb dd_ca_11 rfl (lv_at hl 1 rfl) ?_
  have cw2 : CallB (headSpec (.code yJ0_charAt_5068e cJ0_charAt_5068e 2 (some .char) :: zBT) { frames := 3, cells := 0, slots := 0, locals := 64 }).room s [.ref (ad (1000 + q)), .int (nI j)].toArray RJ0 495 yJ1_charAt_3b067 cJ1_charAt_3b067 2 (some .char) (.code yJ1_charAt_3b067 cJ1_charAt_3b067 2 (some .char) :: zBT) { frames := 2, cells := 0, slots := 0, locals := 43 } 0 0 2 ∧ (Cond.static yJ1_charAt_3b067).before [.ref (ad (1000 + q)), .int (nI j)].toArray s = true :=
    ⟨callB_of 2 hts (zBT_goodc wj_l1_c) rfl rfl rfl (hts _ wj_cb_i) (hts _ wj_cb_l) (by decide +kernel) ⟨Nat.le_of_ble_eq_true rfl, Nat.le_of_ble_eq_true rfl⟩, hts _ wj_cb_s⟩
  refine vp_callSi (W.runS (As := [.ref (adV q), .int (nI j)]) (rest := []) ⟨hx, hb, hml, hown, hts⟩ (zj_l1 l ad adV s.heap.size q j hq hj) cw2 ⟨zSp_blind, fun U hU hW => ⟨rfl, by rw [hU], by rw [hU]; exact hG.warm hW⟩⟩ rfl rfl hl.1 rfl (lv_room (Nat.le_of_ble_eq_true rfl)) dd_ca_12 ⟨Nat.zero_le _, Nat.zero_le _⟩) (fun r hr1 => ?_)
  subst hr1
  exact W.zret hx hb hr (t2 j hj).2 (fun t ht hW => ⟨_, rfl, rfl, ht⟩) (fun q hq => by cases hq) dd_ca_15
theorem wj_le_c : Cond.code yJ0_length_8abf5 cJ0_length_8abf5 1 (some .int) ∈ zBT := zBT_in (by decide +kernel) (by decide +kernel)
theorem wj_le_n : Cond.instanceMethod yJ0_length_8abf5 ∈ zBT := zBT_in (by decide +kernel) (by decide +kernel)
theorem wj_le_s : Cond.selects RJ0 yJ0_length_8abf5 yJ0_length_8abf5 ∈ zBT := zBT_in (by decide +kernel) (by decide +kernel)
theorem wj_ch_c : Cond.code yJ0_charAt_5068e cJ0_charAt_5068e 2 (some .char) ∈ zBT := zBT_in (by decide +kernel) (by decide +kernel)
theorem wj_ch_n : Cond.instanceMethod yJ0_charAt_5068e ∈ zBT := zBT_in (by decide +kernel) (by decide +kernel)
theorem wj_ch_s : Cond.selects RJ0 yJ0_charAt_5068e yJ0_charAt_5068e ∈ zBT := zBT_in (by decide +kernel) (by decide +kernel)
section ZS
variable {p : Program} {l : Launch} {e : Env} {R : Room} {s : State} {m : MethodId} {args : Array Value} {below : List Frame} {meth : Method} {c : Code} {Q : State → Prop} {A : Nat → Prop} {D : va_G} {κ : zKp} {ad0 adV : Nat → Nat} {n0 nL : Nat} {own : String} {cc : ByteArray}
variable {P : zP} {C : zC} {Qp : zQ} {pc nx : Nat} {L : zL} {st : List Value} {u : Nat × Nat} {h : zH}
theorem zSp_of {ad : Nat → Nat} {H : Heap} {locs : List Loc} (hA : ∀ q, s.heap.size ≤ q → A q) (hG : zG ad0 adV A s s.heap) (h1 : zAg n0 ad0 ad) (h6 : va_S A s.heap H locs) {U : State} (hU : U.heap = H) (hW : s.WarmedH U.vm) : zSp ad adV H.size U := by
  refine ⟨by rw [hU], ?_⟩
  rw [hU]
  exact (((hG.kept h6.2.1).narrow (fun q hq => hA q (Nat.le_trans h6.1 hq))).warm hW).ag h1
theorem zk_slen (X : zCx p s m args c own cc nL A D κ ad0 adV) (hP : zLe P (zK p l e R s m args below meth c Q A D κ ad0 n0 nL)) {index : Nat} (hd : decode cc pc = .ok (.invokevirtual index, 3)) (hn : nx = pc + 3) (hw1 : Cond.methodLink own index yJ0_length_8abf5 ∈ zBT) (hR : 2 ≤ R.frames ∧ 40 ≤ R.locals)
    (k : zo_slen zm_tx nx P C Qp L st u h) : zK p l e R s m args below meth c Q A D κ ad0 n0 nL pc L st u h := by
  subst hn
  obtain ⟨⟨hx, hb, hml, hown, hts⟩, hK, hA, hG⟩ := X
  intro ad H locs ls h1 h2 h3 h4 h5 h6 h7
  unfold zo_slen at k
  split at k
  · next a r =>
    replace k := zcond k
    obtain ⟨c1, i, rfl, hi, k⟩ := k
    have hi : i < 12 := hi
    have cw : CallW R s args own RJ0 index yJ0_length_8abf5 cJ0_length_8abf5 1 (some .int) (.code yJ0_length_8abf5 cJ0_length_8abf5 1 (some .int) :: zBT) { frames := 1, cells := 0, slots := 0, locals := 20 } 0 0 0 :=
      ⟨callB_of 0 hts (zBT_goodc wj_le_c) rfl rfl rfl (hts _ wj_l1_i) (hts _ hw1) (by decide +kernel) ⟨hR.1, by show 8 + (1 + 11) + 20 ≤ _; omega⟩, hts _ wj_le_n, hts _ wj_le_s⟩
    have e1 : ad (1000 + i) = ad0 (1000 + i) := h1 _ (Or.inr (by omega))
    have hrc := vk_recv (adK := fun i => ad0 (1000 + i)) (i := i) hG.1 hi h6
    refine vp_callSi (W.runV (b := ad (1000 + i)) (As := []) (rest := r.map (zt ad)) ⟨hx, hb, hml, hown, hts⟩ (zj_le l ad adV H.size i hi) cw ⟨zSp_blind, by rw [e1]; exact hrc, fun U hU hW => ⟨rfl, zSp_of hA hG h1 h6 hU hW⟩⟩ rfl rfl h7.2.1 rfl (lv_room (by rw [zm_cat_eq]; exact Nat.le_of_ble_eq_true c1)) hd ⟨h3.2.1, h3.2.2⟩) (fun r1 hr1 => ?_)
    subst hr1
    exact hP _ _ _ _ _ k ad H locs ls h1 h2 h3 h4 h5 h6 h7
  · exact k.elim
theorem zk_sch (X : zCx p s m args c own cc nL A D κ ad0 adV) (hP : zLe P (zK p l e R s m args below meth c Q A D κ ad0 n0 nL)) {index : Nat} (hd : decode cc pc = .ok (.invokevirtual index, 3)) (hn : nx = pc + 3) (hw1 : Cond.methodLink own index yJ0_charAt_5068e ∈ zBT) (hR : 4 ≤ R.frames ∧ 85 ≤ R.locals)
    (k : zo_sch zm_tx nx P C Qp L st u h) : zK p l e R s m args below meth c Q A D κ ad0 n0 nL pc L st u h := by
  subst hn
  obtain ⟨⟨hx, hb, hml, hown, hts⟩, hK, hA, hG⟩ := X
  intro ad H locs ls h1 h2 h3 h4 h5 h6 h7
  unfold zo_sch at k
  split at k
  · next q a r =>
    replace k := zcond k
    obtain ⟨c1, i, j, rfl, hi, hj, rfl, k⟩ := k
    have hi : i < 12 := hi
    have cw : CallW R s args own RJ0 index yJ0_charAt_5068e cJ0_charAt_5068e 2 (some .char) (.code yJ0_charAt_5068e cJ0_charAt_5068e 2 (some .char) :: zBT) { frames := 3, cells := 0, slots := 0, locals := 64 } 0 0 1 :=
      ⟨callB_of 1 hts (zBT_goodc wj_ch_c) rfl rfl rfl (hts _ wj_l1_i) (hts _ hw1) (by decide +kernel) ⟨hR.1, by show 8 + (2 + 11) + 64 ≤ _; omega⟩, hts _ wj_ch_n, hts _ wj_ch_s⟩
    have e1 : ad (1000 + i) = ad0 (1000 + i) := h1 _ (Or.inr (by omega))
    have hrc := vk_recv (adK := fun i => ad0 (1000 + i)) (i := i) hG.1 hi h6
    refine vp_callSi (W.runV (b := ad (1000 + i)) (As := [.int (nI j)]) (rest := r.map (zt ad)) ⟨hx, hb, hml, hown, hts⟩ (zj_ca l ad adV H.size i j hi hj) cw ⟨zSp_blind, by rw [e1]; exact hrc, fun U hU hW => ⟨rfl, zSp_of hA hG h1 h6 hU hW⟩⟩ rfl rfl h7.2.1 rfl (lv_room (by rw [zm_cat_eq]; exact Nat.le_of_ble_eq_true c1)) hd ⟨h3.2.1, h3.2.2⟩) (fun r1 hr1 => ?_)
    subst hr1
    exact hP _ _ _ _ _ k ad H locs ls h1 h2 h3 h4 h5 h6 h7
  · exact k.elim
end ZS
end
section
/-! AN INSTRUCTION OF A METHOD is sound -/
def zKM (l : Launch) (M : Nat) (p : Program) (e : Env) (s : State) (m : MethodId) (args : Array Value) (below : List Frame) (meth : Method) (c : Code) (D : va_G) (κ : zKp) (ad0 : Nat → Nat) (h0 : zH) (Qp : zQ) : zP :=
  zK p l e (zrm M) s m args below meth c (MQ below (zPost D κ ad0 h0 s.heap.size (zmc M) Qp) args s (zmc M) (zms M) (va_A (zW κ ad0 h0) s.heap.size)) (va_A (zW κ ad0 h0) s.heap.size) D κ ad0 h0.length (zm_nl M)
def zSn (l : Launch) (M pc : Nat) (o : zO) : Prop := ∀ (p : Program) (e : Env) (s : State) (m : MethodId) (args : Array Value) (below : List Frame) (meth : Method) (c : Code) (D : va_G) (κ : zKp) (ad0 adV : Nat → Nat) (h0 : zH) (Qp : zQ) (P : zP) (L : zL) (st : List Value) (u : Nat × Nat) (h : zH),
  zCx p s m args c (zy M).cls (zcc M) (zm_nl M) (va_A (zW κ ad0 h0) s.heap.size) D κ ad0 adV → meth.sig.returnType = zrt M → meth.locks = false → meth.name = (zy M).name → zLe P (zKM l M p e s m args below meth c D κ ad0 h0 Qp) → o P (zsm l) Qp L st u h → zKM l M p e s m args below meth c D κ ad0 h0 Qp pc L st u h
def zAl (l : Launch) (M : Nat) (T : zT) : Prop := ∀ q ∈ T, zSn l M q.1 q.2
theorem zal_n {l : Launch} {M : Nat} : zAl l M [] := fun _ h => absurd h List.not_mem_nil
theorem zal_c {l : Launch} {M pc : Nat} {o : zO} {T : zT} (h1 : zSn l M pc o) (h2 : zAl l M T) : zAl l M ((pc, o) :: T) := fun q hq => by
  rcases List.mem_cons.mp hq with rfl | hq
  · exact h1
  · exact h2 q hq
section ZI
variable {l : Launch} {M pc nx : Nat}
theorem zi_iconst {n : Int} (hd : decode (zcc M) pc = .ok (.iconst n, 1)) (hn : nx = pc + 1) {v : Int32} (hv : Int32.ofInt n = v) : zSn l M pc (zo_c (.int v) nx) := fun p e s m args below meth c D κ ad0 adV h0 Qp P L st u h X hmr hlk hmn hP k => zk_iconst X hP hd hn hv k
theorem zi_bipush {n : Int} (hd : decode (zcc M) pc = .ok (.bipush n, 2)) (hn : nx = pc + 2) {v : Int32} (hv : (Int8.ofInt n).toInt32 = v) : zSn l M pc (zo_c (.int v) nx) := fun p e s m args below meth c D κ ad0 adV h0 Qp P L st u h X hmr hlk hmn hP k => zk_bipush X hP hd hn hv k
theorem zi_sipush {n : Int} (hd : decode (zcc M) pc = .ok (.sipush n, 3)) (hn : nx = pc + 3) {v : Int32} (hv : (Int16.ofInt n).toInt32 = v) : zSn l M pc (zo_c (.int v) nx) := fun p e s m args below meth c D κ ad0 adV h0 Qp P L st u h X hmr hlk hmn hP k => zk_sipush X hP hd hn hv k
theorem zi_lconst {n : Fin 2} (hd : decode (zcc M) pc = .ok (.lconst n, 1)) (hn : nx = pc + 1) {v : Int64} (hv : Int64.ofNat (n : Nat) = v) : zSn l M pc (zo_c (.long v) nx) := fun p e s m args below meth c D κ ad0 adV h0 Qp P L st u h X hmr hlk hmn hP k => zk_lconst X hP hd hn hv k
theorem zi_ldc {n : Nat} (hd : decode (zcc M) pc = .ok (.ldc n, 2)) (hn : nx = pc + 2) {v : Int32} (hw : Cond.constant (zy M).cls n v ∈ zBT) : zSn l M pc (zo_c (.int v) nx) := fun p e s m args below meth c D κ ad0 adV h0 Qp P L st u h X hmr hlk hmn hP k => zk_ldc X hP hd hn hw k
theorem zi_ldcw {n : Nat} (hd : decode (zcc M) pc = .ok (.ldc_w n, 3)) (hn : nx = pc + 3) {v : Int32} (hw : Cond.constant (zy M).cls n v ∈ zBT) : zSn l M pc (zo_c (.int v) nx) := fun p e s m args below meth c D κ ad0 adV h0 Qp P L st u h X hmr hlk hmn hP k => zk_ldcw X hP hd hn hw k
theorem zi_ldc2 {n : Nat} (hd : decode (zcc M) pc = .ok (.ldc2_w n, 3)) (hn : nx = pc + 3) {v : Int64} (hw : Cond.constantLong (zy M).cls n v ∈ zBT) : zSn l M pc (zo_c (.long v) nx) := fun p e s m args below meth c D κ ad0 adV h0 Qp P L st u h X hmr hlk hmn hP k => zk_ldc2 X hP hd hn hw k
theorem zi_ldcs {i : Nat} (hd : decode (zcc M) pc = .ok (.ldc (zm_ow i).2.1, 2)) (hn : nx = pc + 2) (hi : i < 12) (hw : (zy M).cls = (zm_ow i).1) : zSn l M pc (zo_c (.ref (1000 + i)) nx) := fun p e s m args below meth c D κ ad0 adV h0 Qp P L st u h X hmr hlk hmn hP k => zk_ldcs X hP hd hn hi hw k
theorem zi_iln {i : Nat} {j : Fin 4} (hd : decode (zcc M) pc = .ok (.iload_n j, 1)) (hn : nx = pc + 1) (hi : (j : Nat) = i) : zSn l M pc (zo_il i nx) := fun p e s m args below meth c D κ ad0 adV h0 Qp P L st u h X hmr hlk hmn hP k => zk_iln X hP hd hn hi k
theorem zi_il {i : Nat} (hd : decode (zcc M) pc = .ok (.iload i, 2)) (hn : nx = pc + 2) : zSn l M pc (zo_il i nx) := fun p e s m args below meth c D κ ad0 adV h0 Qp P L st u h X hmr hlk hmn hP k => zk_il X hP hd hn k
theorem zi_lln {i : Nat} {j : Fin 4} (hd : decode (zcc M) pc = .ok (.lload_n j, 1)) (hn : nx = pc + 1) (hi : (j : Nat) = i) : zSn l M pc (zo_ll i nx) := fun p e s m args below meth c D κ ad0 adV h0 Qp P L st u h X hmr hlk hmn hP k => zk_lln X hP hd hn hi k
theorem zi_ll {i : Nat} (hd : decode (zcc M) pc = .ok (.lload i, 2)) (hn : nx = pc + 2) : zSn l M pc (zo_ll i nx) := fun p e s m args below meth c D κ ad0 adV h0 Qp P L st u h X hmr hlk hmn hP k => zk_ll X hP hd hn k
theorem zi_aln {i : Nat} {j : Fin 4} (hd : decode (zcc M) pc = .ok (.aload_n j, 1)) (hn : nx = pc + 1) (hi : (j : Nat) = i) : zSn l M pc (zo_al i nx) := fun p e s m args below meth c D κ ad0 adV h0 Qp P L st u h X hmr hlk hmn hP k => zk_aln X hP hd hn hi k
theorem zi_al {i : Nat} (hd : decode (zcc M) pc = .ok (.aload i, 2)) (hn : nx = pc + 2) : zSn l M pc (zo_al i nx) := fun p e s m args below meth c D κ ad0 adV h0 Qp P L st u h X hmr hlk hmn hP k => zk_al X hP hd hn k
theorem zi_isn {i : Nat} {j : Fin 4} (hd : decode (zcc M) pc = .ok (.istore_n j, 1)) (hn : nx = pc + 1) (hi : (j : Nat) = i) (hl : i < zm_nl M) : zSn l M pc (zo_is i nx) := fun p e s m args below meth c D κ ad0 adV h0 Qp P L st u h X hmr hlk hmn hP k => zk_isn X hP hd hn hi hl k
theorem zi_is {i : Nat} (hd : decode (zcc M) pc = .ok (.istore i, 2)) (hn : nx = pc + 2) (hl : i < zm_nl M) : zSn l M pc (zo_is i nx) := fun p e s m args below meth c D κ ad0 adV h0 Qp P L st u h X hmr hlk hmn hP k => zk_is X hP hd hn hl k
theorem zi_asn {i : Nat} {j : Fin 4} (hd : decode (zcc M) pc = .ok (.astore_n j, 1)) (hn : nx = pc + 1) (hi : (j : Nat) = i) (hl : i < zm_nl M) : zSn l M pc (zo_as i nx) := fun p e s m args below meth c D κ ad0 adV h0 Qp P L st u h X hmr hlk hmn hP k => zk_asn X hP hd hn hi hl k
theorem zi_as {i : Nat} (hd : decode (zcc M) pc = .ok (.astore i, 2)) (hn : nx = pc + 2) (hl : i < zm_nl M) : zSn l M pc (zo_as i nx) := fun p e s m args below meth c D κ ad0 adV h0 Qp P L st u h X hmr hlk hmn hP k => zk_as X hP hd hn hl k
theorem zi_lsn {i : Nat} {j : Fin 4} (hd : decode (zcc M) pc = .ok (.lstore_n j, 1)) (hn : nx = pc + 1) (hi : (j : Nat) = i) (hl : i + 1 < zm_nl M) : zSn l M pc (zo_ls i nx) := fun p e s m args below meth c D κ ad0 adV h0 Qp P L st u h X hmr hlk hmn hP k => zk_lsn X hP hd hn hi hl k
theorem zi_ls {i : Nat} (hd : decode (zcc M) pc = .ok (.lstore i, 2)) (hn : nx = pc + 2) (hl : i + 1 < zm_nl M) : zSn l M pc (zo_ls i nx) := fun p e s m args below meth c D κ ad0 adV h0 Qp P L st u h X hmr hlk hmn hP k => zk_ls X hP hd hn hl k
theorem zi_inc {i : Nat} {n : Int} (hd : decode (zcc M) pc = .ok (.iinc i n, 3)) (hn : nx = pc + 3) {v : Int32} (hv : Int32.ofInt n = v) : zSn l M pc (zo_inc i v nx) := fun p e s m args below meth c D κ ad0 adV h0 Qp P L st u h X hmr hlk hmn hP k => zk_inc X hP hd hn hv k
theorem zi_iadd (hd : decode (zcc M) pc = .ok (.iadd, 1)) (hn : nx = pc + 1) : zSn l M pc (zo_iadd nx) := fun p e s m args below meth c D κ ad0 adV h0 Qp P L st u h X hmr hlk hmn hP k => zk_iadd X hP hd hn k
theorem zi_isub (hd : decode (zcc M) pc = .ok (.isub, 1)) (hn : nx = pc + 1) : zSn l M pc (zo_isub nx) := fun p e s m args below meth c D κ ad0 adV h0 Qp P L st u h X hmr hlk hmn hP k => zk_isub X hP hd hn k
theorem zi_imul (hd : decode (zcc M) pc = .ok (.imul, 1)) (hn : nx = pc + 1) : zSn l M pc (zo_imul nx) := fun p e s m args below meth c D κ ad0 adV h0 Qp P L st u h X hmr hlk hmn hP k => zk_imul X hP hd hn k
theorem zi_iand (hd : decode (zcc M) pc = .ok (.iand, 1)) (hn : nx = pc + 1) : zSn l M pc (zo_iand nx) := fun p e s m args below meth c D κ ad0 adV h0 Qp P L st u h X hmr hlk hmn hP k => zk_iand X hP hd hn k
theorem zi_ior (hd : decode (zcc M) pc = .ok (.ior, 1)) (hn : nx = pc + 1) : zSn l M pc (zo_ior nx) := fun p e s m args below meth c D κ ad0 adV h0 Qp P L st u h X hmr hlk hmn hP k => zk_ior X hP hd hn k
theorem zi_ishl (hd : decode (zcc M) pc = .ok (.ishl, 1)) (hn : nx = pc + 1) : zSn l M pc (zo_ishl nx) := fun p e s m args below meth c D κ ad0 adV h0 Qp P L st u h X hmr hlk hmn hP k => zk_ishl X hP hd hn k
theorem zi_ishr (hd : decode (zcc M) pc = .ok (.ishr, 1)) (hn : nx = pc + 1) : zSn l M pc (zo_ishr nx) := fun p e s m args below meth c D κ ad0 adV h0 Qp P L st u h X hmr hlk hmn hP k => zk_ishr X hP hd hn k
theorem zi_ladd (hd : decode (zcc M) pc = .ok (.ladd, 1)) (hn : nx = pc + 1) : zSn l M pc (zo_ladd nx) := fun p e s m args below meth c D κ ad0 adV h0 Qp P L st u h X hmr hlk hmn hP k => zk_ladd X hP hd hn k
theorem zi_lmul (hd : decode (zcc M) pc = .ok (.lmul, 1)) (hn : nx = pc + 1) : zSn l M pc (zo_lmul nx) := fun p e s m args below meth c D κ ad0 adV h0 Qp P L st u h X hmr hlk hmn hP k => zk_lmul X hP hd hn k
theorem zi_land (hd : decode (zcc M) pc = .ok (.land, 1)) (hn : nx = pc + 1) : zSn l M pc (zo_land nx) := fun p e s m args below meth c D κ ad0 adV h0 Qp P L st u h X hmr hlk hmn hP k => zk_land X hP hd hn k
theorem zi_lor (hd : decode (zcc M) pc = .ok (.lor, 1)) (hn : nx = pc + 1) : zSn l M pc (zo_lor nx) := fun p e s m args below meth c D κ ad0 adV h0 Qp P L st u h X hmr hlk hmn hP k => zk_lor X hP hd hn k
theorem zi_lcmp (hd : decode (zcc M) pc = .ok (.lcmp, 1)) (hn : nx = pc + 1) : zSn l M pc (zo_lcmp nx) := fun p e s m args below meth c D κ ad0 adV h0 Qp P L st u h X hmr hlk hmn hP k => zk_lcmp X hP hd hn k
theorem zi_lshl (hd : decode (zcc M) pc = .ok (.lshl, 1)) (hn : nx = pc + 1) : zSn l M pc (zo_lshl nx) := fun p e s m args below meth c D κ ad0 adV h0 Qp P L st u h X hmr hlk hmn hP k => zk_lshl X hP hd hn k
theorem zi_i2l (hd : decode (zcc M) pc = .ok (.i2l, 1)) (hn : nx = pc + 1) : zSn l M pc (zo_i2l nx) := fun p e s m args below meth c D κ ad0 adV h0 Qp P L st u h X hmr hlk hmn hP k => zk_i2l X hP hd hn k
theorem zi_l2i (hd : decode (zcc M) pc = .ok (.l2i, 1)) (hn : nx = pc + 1) : zSn l M pc (zo_l2i nx) := fun p e s m args below meth c D κ ad0 adV h0 Qp P L st u h X hmr hlk hmn hP k => zk_l2i X hP hd hn k
theorem zi_i2b (hd : decode (zcc M) pc = .ok (.i2b, 1)) (hn : nx = pc + 1) : zSn l M pc (zo_i2b nx) := fun p e s m args below meth c D κ ad0 adV h0 Qp P L st u h X hmr hlk hmn hP k => zk_i2b X hP hd hn k
theorem zi_i2s (hd : decode (zcc M) pc = .ok (.i2s, 1)) (hn : nx = pc + 1) : zSn l M pc (zo_i2s nx) := fun p e s m args below meth c D κ ad0 adV h0 Qp P L st u h X hmr hlk hmn hP k => zk_i2s X hP hd hn k
theorem zi_idiv (hd : decode (zcc M) pc = .ok (.idiv, 1)) (hn : nx = pc + 1) : zSn l M pc (zo_idiv nx) := fun p e s m args below meth c D κ ad0 adV h0 Qp P L st u h X hmr hlk hmn hP k => zk_idiv X hP hd hn k
theorem zi_irem (hd : decode (zcc M) pc = .ok (.irem, 1)) (hn : nx = pc + 1) : zSn l M pc (zo_irem nx) := fun p e s m args below meth c D κ ad0 adV h0 Qp P L st u h X hmr hlk hmn hP k => zk_irem X hP hd hn k
theorem zi_dup (hd : decode (zcc M) pc = .ok (.dup, 1)) (hn : nx = pc + 1) : zSn l M pc (zo_dup nx) := fun p e s m args below meth c D κ ad0 adV h0 Qp P L st u h X hmr hlk hmn hP k => zk_dup X hP hd hn k
theorem zi_dup2 (hd : decode (zcc M) pc = .ok (.dup2, 1)) (hn : nx = pc + 1) : zSn l M pc (zo_dup2 nx) := fun p e s m args below meth c D κ ad0 adV h0 Qp P L st u h X hmr hlk hmn hP k => zk_dup2 X hP hd hn k
theorem zi_pop (hd : decode (zcc M) pc = .ok (.pop, 1)) (hn : nx = pc + 1) : zSn l M pc (zo_pop nx) := fun p e s m args below meth c D κ ad0 adV h0 Qp P L st u h X hmr hlk hmn hP k => zk_pop X hP hd hn k
theorem zi_goto {off : Int} {t : Nat} (hd : decode (zcc M) pc = .ok (.goto off, 3)) (ht : (pc : Int) + off = (t : Int)) : zSn l M pc (zo_goto t) := fun p e s m args below meth c D κ ad0 adV h0 Qp P L st u h X hmr hlk hmn hP k => zk_goto X hP hd ht k
theorem zi_ifeq {off : Int} {t : Nat} (hd : decode (zcc M) pc = .ok (.ifCond .eq off, 3)) (hn : nx = pc + 3) (ht : (pc : Int) + off = (t : Int)) : zSn l M pc (zo_ifeq t nx) := fun p e s m args below meth c D κ ad0 adV h0 Qp P L st u h X hmr hlk hmn hP k => zk_ifeq X hP hd hn ht k
theorem zi_ifne {off : Int} {t : Nat} (hd : decode (zcc M) pc = .ok (.ifCond .ne off, 3)) (hn : nx = pc + 3) (ht : (pc : Int) + off = (t : Int)) : zSn l M pc (zo_ifne t nx) := fun p e s m args below meth c D κ ad0 adV h0 Qp P L st u h X hmr hlk hmn hP k => zk_ifne X hP hd hn ht k
theorem zi_iflt {off : Int} {t : Nat} (hd : decode (zcc M) pc = .ok (.ifCond .lt off, 3)) (hn : nx = pc + 3) (ht : (pc : Int) + off = (t : Int)) : zSn l M pc (zo_iflt t nx) := fun p e s m args below meth c D κ ad0 adV h0 Qp P L st u h X hmr hlk hmn hP k => zk_iflt X hP hd hn ht k
theorem zi_ifge {off : Int} {t : Nat} (hd : decode (zcc M) pc = .ok (.ifCond .ge off, 3)) (hn : nx = pc + 3) (ht : (pc : Int) + off = (t : Int)) : zSn l M pc (zo_ifge t nx) := fun p e s m args below meth c D κ ad0 adV h0 Qp P L st u h X hmr hlk hmn hP k => zk_ifge X hP hd hn ht k
theorem zi_ifgt {off : Int} {t : Nat} (hd : decode (zcc M) pc = .ok (.ifCond .gt off, 3)) (hn : nx = pc + 3) (ht : (pc : Int) + off = (t : Int)) : zSn l M pc (zo_ifgt t nx) := fun p e s m args below meth c D κ ad0 adV h0 Qp P L st u h X hmr hlk hmn hP k => zk_ifgt X hP hd hn ht k
theorem zi_ifle {off : Int} {t : Nat} (hd : decode (zcc M) pc = .ok (.ifCond .le off, 3)) (hn : nx = pc + 3) (ht : (pc : Int) + off = (t : Int)) : zSn l M pc (zo_ifle t nx) := fun p e s m args below meth c D κ ad0 adV h0 Qp P L st u h X hmr hlk hmn hP k => zk_ifle X hP hd hn ht k
theorem zi_ceq {off : Int} {t : Nat} (hd : decode (zcc M) pc = .ok (.if_icmp .eq off, 3)) (hn : nx = pc + 3) (ht : (pc : Int) + off = (t : Int)) : zSn l M pc (zo_ceq t nx) := fun p e s m args below meth c D κ ad0 adV h0 Qp P L st u h X hmr hlk hmn hP k => zk_ceq X hP hd hn ht k
theorem zi_cne {off : Int} {t : Nat} (hd : decode (zcc M) pc = .ok (.if_icmp .ne off, 3)) (hn : nx = pc + 3) (ht : (pc : Int) + off = (t : Int)) : zSn l M pc (zo_cne t nx) := fun p e s m args below meth c D κ ad0 adV h0 Qp P L st u h X hmr hlk hmn hP k => zk_cne X hP hd hn ht k
theorem zi_clt {off : Int} {t : Nat} (hd : decode (zcc M) pc = .ok (.if_icmp .lt off, 3)) (hn : nx = pc + 3) (ht : (pc : Int) + off = (t : Int)) : zSn l M pc (zo_clt t nx) := fun p e s m args below meth c D κ ad0 adV h0 Qp P L st u h X hmr hlk hmn hP k => zk_clt X hP hd hn ht k
theorem zi_cge {off : Int} {t : Nat} (hd : decode (zcc M) pc = .ok (.if_icmp .ge off, 3)) (hn : nx = pc + 3) (ht : (pc : Int) + off = (t : Int)) : zSn l M pc (zo_cge t nx) := fun p e s m args below meth c D κ ad0 adV h0 Qp P L st u h X hmr hlk hmn hP k => zk_cge X hP hd hn ht k
theorem zi_cgt {off : Int} {t : Nat} (hd : decode (zcc M) pc = .ok (.if_icmp .gt off, 3)) (hn : nx = pc + 3) (ht : (pc : Int) + off = (t : Int)) : zSn l M pc (zo_cgt t nx) := fun p e s m args below meth c D κ ad0 adV h0 Qp P L st u h X hmr hlk hmn hP k => zk_cgt X hP hd hn ht k
theorem zi_cle {off : Int} {t : Nat} (hd : decode (zcc M) pc = .ok (.if_icmp .le off, 3)) (hn : nx = pc + 3) (ht : (pc : Int) + off = (t : Int)) : zSn l M pc (zo_cle t nx) := fun p e s m args below meth c D κ ad0 adV h0 Qp P L st u h X hmr hlk hmn hP k => zk_cle X hP hd hn ht k
theorem zi_sw {dflt lo hi : Int} {offs : Array Int} {len d : Nat} {ts : List Nat} (a : Nat) (hd : decode (zcc M) pc = .ok (.tableswitch dflt lo hi offs, len)) (hlo : lo = (a : Int)) (hhi : hi + 1 = (a + ts.length : Nat)) (hs : a + ts.length ≤ 1000) (hdf : (pc : Int) + dflt = (d : Int)) (hof : ∀ (j t : Nat), ts[j]? = some t → ∃ off, offs[j]? = some off ∧ (pc : Int) + off = (t : Int)) : zSn l M pc (zo_sw (nI a) ts d) := fun p e s m args below meth c D κ ad0 adV h0 Qp P L st u h X hmr hlk hmn hP k => zk_sw X hP a hd hlo hhi hs hdf hof k
theorem zi_get {ci : Nat} {CN : String} {T : u_T} {N : Nat} {index k0 : Nat} (hd : decode (zcc M) pc = .ok (.getfield index, 3)) (hn : nx = pc + 3) (hc : vwCl[ci]? = some (CN, T, N)) (hk : k0 < N) (hin : ∀ w ∈ u_ws CN T N, w ∈ zBT) (hw : Cond.fieldLink (zy M).cls index (T k0).1 (T k0).2.1 (T k0).2.2.1 ∈ zBT) : zSn l M pc (zo_get ci k0 nx) := fun p e s m args below meth c D κ ad0 adV h0 Qp P L st u h X hmr hlk hmn hP k => zk_get X hP hd hn hc hk hin hw k
theorem zi_puti {ci : Nat} {CN : String} {T : u_T} {N : Nat} {index k0 : Nat} {ty0 : Nat → FieldType} (hd : decode (zcc M) pc = .ok (.putfield index, 3)) (hn : nx = pc + 3) (hc : vwCl[ci]? = some (CN, T, N)) (hk : k0 < N) (hin : ∀ w ∈ u_ws CN T N, w ∈ zBT) (hw : Cond.fieldLink (zy M).cls index (T k0).1 (T k0).2.1 (T k0).2.2.1 ∈ zBT) (hty : ∀ k, k < N → parseFieldDescriptor (T k).2.2.1 = some (ty0 k)) (hnm : ∀ a, a < N → ∀ b, b < N → a ≠ b → (T a).2.1 ≠ (T b).2.1) (hfin : (T k0).2.2.2 = false) (hds : parseFieldDescriptor (T k0).2.2.1 = some .int) : zSn l M pc (zo_puti ci k0 nx) := fun p e s m args below meth c D κ ad0 adV h0 Qp P L st u h X hmr hlk hmn hP k => zk_puti X hP hd hn hc hk hin hw hty hnm hfin hds k
theorem zi_putz {ci : Nat} {CN : String} {T : u_T} {N : Nat} {index k0 : Nat} {ty0 : Nat → FieldType} (hd : decode (zcc M) pc = .ok (.putfield index, 3)) (hn : nx = pc + 3) (hc : vwCl[ci]? = some (CN, T, N)) (hk : k0 < N) (hin : ∀ w ∈ u_ws CN T N, w ∈ zBT) (hw : Cond.fieldLink (zy M).cls index (T k0).1 (T k0).2.1 (T k0).2.2.1 ∈ zBT) (hty : ∀ k, k < N → parseFieldDescriptor (T k).2.2.1 = some (ty0 k)) (hnm : ∀ a, a < N → ∀ b, b < N → a ≠ b → (T a).2.1 ≠ (T b).2.1) (hfin : (T k0).2.2.2 = false) (hds : parseFieldDescriptor (T k0).2.2.1 = some .boolean) : zSn l M pc (zo_putz ci k0 nx) := fun p e s m args below meth c D κ ad0 adV h0 Qp P L st u h X hmr hlk hmn hP k => zk_putz X hP hd hn hc hk hin hw hty hnm hfin hds k
theorem zi_puta {ci : Nat} {CN : String} {T : u_T} {N : Nat} {index k0 : Nat} {ty0 : Nat → FieldType} (hd : decode (zcc M) pc = .ok (.putfield index, 3)) (hn : nx = pc + 3) (hc : vwCl[ci]? = some (CN, T, N)) (hk : k0 < N) (hin : ∀ w ∈ u_ws CN T N, w ∈ zBT) (hw : Cond.fieldLink (zy M).cls index (T k0).1 (T k0).2.1 (T k0).2.2.1 ∈ zBT) (hty : ∀ k, k < N → parseFieldDescriptor (T k).2.2.1 = some (ty0 k)) (hnm : ∀ a, a < N → ∀ b, b < N → a ≠ b → (T a).2.1 ≠ (T b).2.1) (hfin : (T k0).2.2.2 = true) (hdecl : (T k0).1 = (zy M).cls) {ty : FieldType} (hds : parseFieldDescriptor (T k0).2.2.1 = some ty) (hnr : ∀ a, narrow ty (.ref a) = .ref a) (hfr : ∀ a, fits ty (.ref a) = true) (hnm2 : (zy M).name = "<init>") : zSn l M pc (zo_puta ci k0 nx) := fun p e s m args below meth c D κ ad0 adV h0 Qp P L st u h X hmr hlk hmn hP k => zk_puta X hP hd hn hc hk hin hw hty hnm hfin (hmn.trans hnm2) hdecl hds hnr hfr k
theorem zi_iald (hd : decode (zcc M) pc = .ok (.iaload, 1)) (hn : nx = pc + 1) : zSn l M pc (zo_iald nx) := fun p e s m args below meth c D κ ad0 adV h0 Qp P L st u h X hmr hlk hmn hP k => zk_iald X hP hd hn k
theorem zi_lald (hd : decode (zcc M) pc = .ok (.laload, 1)) (hn : nx = pc + 1) : zSn l M pc (zo_lald nx) := fun p e s m args below meth c D κ ad0 adV h0 Qp P L st u h X hmr hlk hmn hP k => zk_lald X hP hd hn k
theorem zi_aald (hd : decode (zcc M) pc = .ok (.aaload, 1)) (hn : nx = pc + 1) : zSn l M pc (zo_aald nx) := fun p e s m args below meth c D κ ad0 adV h0 Qp P L st u h X hmr hlk hmn hP k => zk_aald X hP hd hn k
theorem zi_iast (hd : decode (zcc M) pc = .ok (.iastore, 1)) (hn : nx = pc + 1) : zSn l M pc (zo_iast nx) := fun p e s m args below meth c D κ ad0 adV h0 Qp P L st u h X hmr hlk hmn hP k => zk_iast X hP hd hn k
theorem zi_last (hd : decode (zcc M) pc = .ok (.lastore, 1)) (hn : nx = pc + 1) : zSn l M pc (zo_last nx) := fun p e s m args below meth c D κ ad0 adV h0 Qp P L st u h X hmr hlk hmn hP k => zk_last X hP hd hn k
theorem zi_aast (hd : decode (zcc M) pc = .ok (.aastore, 1)) (hn : nx = pc + 1) : zSn l M pc (zo_aast 1 nx) := fun p e s m args below meth c D κ ad0 adV h0 Qp P L st u h X hmr hlk hmn hP k => zk_aast X hP hd hn k
theorem zi_alen (hd : decode (zcc M) pc = .ok (.arraylength, 1)) (hn : nx = pc + 1) : zSn l M pc (zo_alen nx) := fun p e s m args below meth c D κ ad0 adV h0 Qp P L st u h X hmr hlk hmn hP k => zk_alen X hP hd hn k
theorem zi_new {ci : Nat} {CN : String} {T : u_T} {N index : Nat} {fs : List Value} {ty0 : Nat → FieldType} (hd : decode (zcc M) pc = .ok (.new index, 3)) (hn : nx = pc + 3) (hc : vwCl[ci]? = some (CN, T, N)) (hin : ∀ w ∈ u_ws CN T N, w ∈ zBT) (hty : ∀ k, k < N → parseFieldDescriptor (T k).2.2.1 = some (ty0 k)) (hw1 : Cond.classLink (zy M).cls index CN ∈ zBT) (hw2 : Cond.instantiable CN N ∈ zBT) (hw3 : Cond.initialized CN ∈ zBT) (hfs : ∀ j, j < N → defaultValue (ty0 j) = vp_V fs j) (hpl : ∀ ad : Nat → Nat, fs.map (zt ad) = fs) {mc ms : Nat} (hRm : mc ≤ (zrm M).cells ∧ ms ≤ (zrm M).slots) : zSn l M pc (zo_new ci fs N mc ms nx) := fun p e s m args below meth c D κ ad0 adV h0 Qp P L st u h X hmr hlk hmn hP k => zk_new X hP hd hn hc hin hty hw1 hw2 hw3 hfs hpl hRm k
theorem zi_newi (hd : decode (zcc M) pc = .ok (.newarray .int, 2)) (hn : nx = pc + 2) (hw : Cond.arrayClass .int ∈ zBT) {mc ms : Nat} (hRm : mc ≤ (zrm M).cells ∧ ms ≤ (zrm M).slots) : zSn l M pc (zo_newi mc ms nx) := fun p e s m args below meth c D κ ad0 adV h0 Qp P L st u h X hmr hlk hmn hP k => zk_newi X hP hd hn hw hRm k
theorem zi_newl (hd : decode (zcc M) pc = .ok (.newarray .long, 2)) (hn : nx = pc + 2) (hw : Cond.arrayClass .long ∈ zBT) {mc ms : Nat} (hRm : mc ≤ (zrm M).cells ∧ ms ≤ (zrm M).slots) : zSn l M pc (zo_newl mc ms nx) := fun p e s m args below meth c D κ ad0 adV h0 Qp P L st u h X hmr hlk hmn hP k => zk_newl X hP hd hn hw hRm k
theorem zi_newq {index : Nat} (hd : decode (zcc M) pc = .ok (.anewarray index, 3)) (hn : nx = pc + 3) (hw : Cond.classLink (zy M).cls index RX2 ∈ zBT) {mc ms : Nat} (hRm : mc ≤ (zrm M).cells ∧ ms ≤ (zrm M).slots) : zSn l M pc (zo_newq mc ms nx) := fun p e s m args below meth c D κ ad0 adV h0 Qp P L st u h X hmr hlk hmn hP k => zk_newq X hP hd hn hw hRm k
theorem zi_obj {index : Nat} (hd : decode (zcc M) pc = .ok (.invokespecial index, 3)) (hn : nx = pc + 3) (hw1 : Cond.methodLink (zy M).cls index objectInit ∈ zBT) (hw2 : Cond.instanceMethod objectInit ∈ zBT) (hw3 : Cond.code objectInit ⟨#[0xb1]⟩ 1 none ∈ zBT) (hR : 1 ≤ (zrm M).frames ∧ 20 ≤ (zrm M).locals) : zSn l M pc (zo_obj nx) := fun p e s m args below meth c D κ ad0 adV h0 Qp P L st u h X hmr hlk hmn hP k => zk_obj X hP hd hn hw1 hw2 hw3 hR k
theorem zi_max {index : Nat} (hd : decode (zcc M) pc = .ok (.invokestatic index, 3)) (hn : nx = pc + 3) (hw1 : Cond.methodLink (zy M).cls index Lib.Math.max.name ∈ zBT) (hw2 : Cond.static Lib.Math.max.name ∈ zBT) (hw3 : Cond.initialized "java/lang/Math" ∈ zBT) (hw4 : Cond.code Lib.Math.max.name Lib.Math.max.code 2 (some .int) ∈ zBT) (hR : 1 ≤ (zrm M).frames ∧ 21 ≤ (zrm M).locals) : zSn l M pc (zo_max nx) := fun p e s m args below meth c D κ ad0 adV h0 Qp P L st u h X hmr hlk hmn hP k => zk_max X hP hd hn hw1 hw2 hw3 hw4 hR k
theorem zi_min {index : Nat} (hd : decode (zcc M) pc = .ok (.invokestatic index, 3)) (hn : nx = pc + 3) (hw1 : Cond.methodLink (zy M).cls index Lib.Math.min.name ∈ zBT) (hw2 : Cond.static Lib.Math.min.name ∈ zBT) (hw3 : Cond.initialized "java/lang/Math" ∈ zBT) (hw4 : Cond.code Lib.Math.min.name Lib.Math.min.code 2 (some .int) ∈ zBT) (hR : 1 ≤ (zrm M).frames ∧ 21 ≤ (zrm M).locals) : zSn l M pc (zo_min nx) := fun p e s m args below meth c D κ ad0 adV h0 Qp P L st u h X hmr hlk hmn hP k => zk_min X hP hd hn hw1 hw2 hw3 hw4 hR k
theorem zi_cpi {index : Nat} (hd : decode (zcc M) pc = .ok (.invokestatic index, 3)) (hn : nx = pc + 3) (hw1 : Cond.methodLink (zy M).cls index arraycopyName ∈ zBT) (hw2 : Cond.native arraycopyName ∈ zBT) (hw3 : Cond.static arraycopyName ∈ zBT) (hw4 : Cond.initialized "java/lang/System" ∈ zBT) (hR : 1 ≤ (zrm M).frames ∧ 8 + (nativeFrameWords "java/lang/System" "arraycopy" 5 + 11) ≤ (zrm M).locals) : zSn l M pc (zo_cpi nx) := fun p e s m args below meth c D κ ad0 adV h0 Qp P L st u h X hmr hlk hmn hP k => zk_cpi X hP hd hn hw1 hw2 hw3 hw4 hR k
theorem zi_cpl {index : Nat} (hd : decode (zcc M) pc = .ok (.invokestatic index, 3)) (hn : nx = pc + 3) (hw1 : Cond.methodLink (zy M).cls index arraycopyName ∈ zBT) (hw2 : Cond.native arraycopyName ∈ zBT) (hw3 : Cond.static arraycopyName ∈ zBT) (hw4 : Cond.initialized "java/lang/System" ∈ zBT) (hR : 1 ≤ (zrm M).frames ∧ 8 + (nativeFrameWords "java/lang/System" "arraycopy" 5 + 11) ≤ (zrm M).locals) : zSn l M pc (zo_cpl nx) := fun p e s m args below meth c D κ ad0 adV h0 Qp P L st u h X hmr hlk hmn hP k => zk_cpl X hP hd hn hw1 hw2 hw3 hw4 hR k
theorem zi_gsab {index : Nat} (hd : decode (zcc M) pc = .ok (.getstatic index, 3)) (hn : nx = pc + 3) (hw : Cond.fieldLink (zy M).cls index "PooledInlaws$Kinds" "ABOVE" "[I" ∈ zBT) : zSn l M pc (zo_c (.ref 2000) nx) := fun p e s m args below meth c D κ ad0 adV h0 Qp P L st u h X hmr hlk hmn hP k => zk_gsab X hP hd hn hw k
theorem zi_tld (hd : decode (zcc M) pc = .ok (.iaload, 1)) (hn : nx = pc + 1) : zSn l M pc (zo_tld zm_ab nx) := fun p e s m args below meth c D κ ad0 adV h0 Qp P L st u h X hmr hlk hmn hP k => zk_tld X hP hd hn k
theorem zi_ir (hd : decode (zcc M) pc = .ok (.ireturn, 1)) (hrt : zrt M = some .int) : zSn l M pc (zo_ir (zmc M) (zms M)) := fun p e s m args below meth c D κ ad0 adV h0 Qp P L st u h X hmr hlk hmn hP k => zk_ir X hlk hd (hmr.trans hrt) k
theorem zi_zr (hd : decode (zcc M) pc = .ok (.ireturn, 1)) (hrt : zrt M = some .boolean) : zSn l M pc (zo_zr (zmc M) (zms M)) := fun p e s m args below meth c D κ ad0 adV h0 Qp P L st u h X hmr hlk hmn hP k => zk_zr X hlk hd (hmr.trans hrt) k
theorem zi_lr (hd : decode (zcc M) pc = .ok (.lreturn, 1)) (hrt : zrt M = some .long) : zSn l M pc (zo_lr (zmc M) (zms M)) := fun p e s m args below meth c D κ ad0 adV h0 Qp P L st u h X hmr hlk hmn hP k => zk_lr X hlk hd (hmr.trans hrt) k
theorem zi_ar (hd : decode (zcc M) pc = .ok (.areturn, 1)) {cn : String} (hrt : zrt M = some (.object cn)) : zSn l M pc (zo_ar (zmc M) (zms M)) := fun p e s m args below meth c D κ ad0 adV h0 Qp P L st u h X hmr hlk hmn hP k => zk_ar X hlk hd (hmr.trans hrt) k
theorem zi_vr (hd : decode (zcc M) pc = .ok (.return_, 1)) (hrt : zrt M = none) : zSn l M pc (zo_vr (zmc M) (zms M)) := fun p e s m args below meth c D κ ad0 adV h0 Qp P L st u h X hmr hlk hmn hP k => zk_vr X hlk hd (hmr.trans hrt) k
theorem zi_cs {M' n index : Nat} (hd : decode (zcc M) pc = .ok (.invokestatic index, 3)) (hn : nx = pc + 3) (hM : zMok M' n) (hw1 : Cond.methodLink (zy M).cls index (zy M') ∈ zBT) (hw2 : Cond.static (zy M') ∈ zBT) (hz : zmc M' = 0 ∧ zms M' = 0) (hR : (zrm M').frames + 1 ≤ (zrm M).frames ∧ 8 + (zm_nl M' + 11) + (zrm M').locals ≤ (zrm M).locals) : zSn l M pc (zo_cs M' n nx) := fun p e s m args below meth c D κ ad0 adV h0 Qp P L st u h X hmr hlk hmn hP k => zk_cs X hP hd hn hM hw1 hw2 hz hR k
theorem zi_cv {ci M' n index : Nat} {qc : vw_C} (hd : decode (zcc M) pc = .ok (.invokevirtual index, 3)) (hn : nx = pc + 3) (hM : zMok M' n) (hc : vwCl[ci]? = some qc) (hw1 : Cond.methodLink (zy M).cls index (zy M') ∈ zBT) (hw2 : Cond.instanceMethod (zy M') ∈ zBT) (hw3 : Cond.selects qc.1 (zy M') (zy M') ∈ zBT) (hz : zmc M' = 0 ∧ zms M' = 0) (hR : (zrm M').frames + 1 ≤ (zrm M).frames ∧ 8 + (zm_nl M' + 11) + (zrm M').locals ≤ (zrm M).locals) : zSn l M pc (zo_cv ci M' n nx) := fun p e s m args below meth c D κ ad0 adV h0 Qp P L st u h X hmr hlk hmn hP k => zk_cv X hP hd hn hM hc hw1 hw2 hw3 hz hR k
theorem zi_ci {M' n index mc ms cmc cms : Nat} (hd : decode (zcc M) pc = .ok (.invokespecial index, 3)) (hn : nx = pc + 3) (hM : zMok M' n) (hi : (zy M').name = "<init>") (hrt : zrt M' = none) (hw1 : Cond.methodLink (zy M).cls index (zy M') ∈ zBT) (hw2 : Cond.instanceMethod (zy M') ∈ zBT) (hz : zmc M' = mc ∧ zms M' = ms) (hRm : cmc ≤ (zrm M).cells ∧ cms ≤ (zrm M).slots) (hR : (zrm M').frames + 1 ≤ (zrm M).frames ∧ 8 + (zm_nl M' + 11) + (zrm M').locals ≤ (zrm M).locals) : zSn l M pc (zo_ci M' n mc ms cmc cms nx) := fun p e s m args below meth c D κ ad0 adV h0 Qp P L st u h X hmr hlk hmn hP k => zk_ci X hP hd hn hM hi hrt hw1 hw2 hz hRm hR k
theorem zi_slen {index : Nat} (hd : decode (zcc M) pc = .ok (.invokevirtual index, 3)) (hn : nx = pc + 3) (hw1 : Cond.methodLink (zy M).cls index yJ0_length_8abf5 ∈ zBT) (hR : 2 ≤ (zrm M).frames ∧ 40 ≤ (zrm M).locals) : zSn l M pc (zo_slen zm_tx nx) := fun p e s m args below meth c D κ ad0 adV h0 Qp P L st u h X hmr hlk hmn hP k => zk_slen X hP hd hn hw1 hR k
theorem zi_sch {index : Nat} (hd : decode (zcc M) pc = .ok (.invokevirtual index, 3)) (hn : nx = pc + 3) (hw1 : Cond.methodLink (zy M).cls index yJ0_charAt_5068e ∈ zBT) (hR : 4 ≤ (zrm M).frames ∧ 85 ≤ (zrm M).locals) : zSn l M pc (zo_sch zm_tx nx) := fun p e s m args below meth c D κ ad0 adV h0 Qp P L st u h X hmr hlk hmn hP k => zk_sch X hP hd hn hw1 hR k
end ZI
end
section
/-! WORDS of the tables that the instructions want (by program) -/
theorem zsw_of {ts : List Nat} {offs : Array Int} {pc : Nat} (h : offs.toList = ts.map (fun (t : Nat) => (t : Int) - (pc : Int))) : ∀ (j t : Nat), ts[j]? = some t → ∃ off, offs[j]? = some off ∧ (pc : Int) + off = (t : Int) := by
  intro j t hj
  refine ⟨(t : Int) - (pc : Int), ?_, by omega⟩
  rw [← Array.getElem?_toList, h, List.getElem?_map, hj]
  rfl
theorem uw_X0 : ∀ w ∈ u_ws RX0 TX0 14, w ∈ zBT := by decide +kernel
theorem uw_X2 : ∀ w ∈ u_ws RX2 TX2 3, w ∈ zBT := by decide +kernel
theorem uw_X3 : ∀ w ∈ u_ws RX3 TX3 6, w ∈ zBT := by decide +kernel
theorem uw_X4 : ∀ w ∈ u_ws RX4 TX4 7, w ∈ zBT := by decide +kernel
theorem uw_X5 : ∀ w ∈ u_ws RX5 TX5 17, w ∈ zBT := by decide +kernel
theorem wf_K_9 : Cond.fieldLink "PooledInlaws$Kinds" 9 "PooledInlaws$Kinds" "ABOVE" "[I" ∈ zBT := zBT_in (by decide +kernel) (by decide +kernel)
theorem wm_K_25 : Cond.methodLink "PooledInlaws$Kinds" 25 Lib.Math.max.name ∈ zBT := zBT_in (by decide +kernel) (by decide +kernel)
theorem wt_max_s : Cond.static Lib.Math.max.name ∈ zBT := zBT_in (by decide +kernel) (by decide +kernel)
theorem wt_i : Cond.initialized "java/lang/Math" ∈ zBT := zBT_in (by decide +kernel) (by decide +kernel)
theorem wt_max_c : Cond.code Lib.Math.max.name Lib.Math.max.code 2 (some .int) ∈ zBT := zBT_in (by decide +kernel) (by decide +kernel)
theorem wm_S_3 : Cond.methodLink "PooledInlaws$Sheet" 3 objectInit ∈ zBT := zBT_in (by decide +kernel) (by decide +kernel)
theorem wo_i : Cond.instanceMethod objectInit ∈ zBT := zBT_in (by decide +kernel) (by decide +kernel)
theorem wo_c : Cond.code objectInit ⟨#[0xb1]⟩ 1 none ∈ zBT := zBT_in (by decide +kernel) (by decide +kernel)
theorem wf_S_9 : Cond.fieldLink "PooledInlaws$Sheet" 9 "PooledInlaws$Sheet" "bits" "I" ∈ zBT := zBT_in (by decide +kernel) (by decide +kernel)
theorem wf_S_15 : Cond.fieldLink "PooledInlaws$Sheet" 15 "PooledInlaws$Sheet" "size" "I" ∈ zBT := zBT_in (by decide +kernel) (by decide +kernel)
theorem wa_long : Cond.arrayClass .long ∈ zBT := zBT_in (by decide +kernel) (by decide +kernel)
theorem wf_S_18 : Cond.fieldLink "PooledInlaws$Sheet" 18 "PooledInlaws$Sheet" "numbers" "[J" ∈ zBT := zBT_in (by decide +kernel) (by decide +kernel)
theorem wm_S_22 : Cond.methodLink "PooledInlaws$Sheet" 22 yJ7_fill_d0a16 ∈ zBT := zBT_in (by decide +kernel) (by decide +kernel)
theorem wq_J_fill : Cond.static yJ7_fill_d0a16 ∈ zBT := zBT_in (by decide +kernel) (by decide +kernel)
theorem wm_H_3 : Cond.methodLink "PooledInlaws$Hall" 3 objectInit ∈ zBT := zBT_in (by decide +kernel) (by decide +kernel)
theorem wf_H_9 : Cond.fieldLink "PooledInlaws$Hall" 9 "PooledInlaws$Hall" "sunday" "I" ∈ zBT := zBT_in (by decide +kernel) (by decide +kernel)
theorem wf_H_15 : Cond.fieldLink "PooledInlaws$Hall" 15 "PooledInlaws$Hall" "fire" "I" ∈ zBT := zBT_in (by decide +kernel) (by decide +kernel)
theorem wf_H_18 : Cond.fieldLink "PooledInlaws$Hall" 18 "PooledInlaws$Hall" "inlaws" "I" ∈ zBT := zBT_in (by decide +kernel) (by decide +kernel)
theorem wa_int : Cond.arrayClass .int ∈ zBT := zBT_in (by decide +kernel) (by decide +kernel)
theorem wf_H_21 : Cond.fieldLink "PooledInlaws$Hall" 21 "PooledInlaws$Hall" "kindOf" "[I" ∈ zBT := zBT_in (by decide +kernel) (by decide +kernel)
theorem wf_H_25 : Cond.fieldLink "PooledInlaws$Hall" 25 "PooledInlaws$Hall" "warmOf" "[I" ∈ zBT := zBT_in (by decide +kernel) (by decide +kernel)
theorem wf_H_28 : Cond.fieldLink "PooledInlaws$Hall" 28 "PooledInlaws$Hall" "satOf" "[I" ∈ zBT := zBT_in (by decide +kernel) (by decide +kernel)
theorem wf_H_31 : Cond.fieldLink "PooledInlaws$Hall" 31 "PooledInlaws$Hall" "aloneOf" "[I" ∈ zBT := zBT_in (by decide +kernel) (by decide +kernel)
theorem wf_H_34 : Cond.fieldLink "PooledInlaws$Hall" 34 "PooledInlaws$Hall" "hadOf" "[I" ∈ zBT := zBT_in (by decide +kernel) (by decide +kernel)
theorem wf_H_37 : Cond.fieldLink "PooledInlaws$Hall" 37 "PooledInlaws$Hall" "couples" "I" ∈ zBT := zBT_in (by decide +kernel) (by decide +kernel)
theorem wf_H_40 : Cond.fieldLink "PooledInlaws$Hall" 40 "PooledInlaws$Hall" "loudOf" "[I" ∈ zBT := zBT_in (by decide +kernel) (by decide +kernel)
theorem wf_H_43 : Cond.fieldLink "PooledInlaws$Hall" 43 "PooledInlaws$Hall" "wellOf" "[I" ∈ zBT := zBT_in (by decide +kernel) (by decide +kernel)
theorem wf_H_46 : Cond.fieldLink "PooledInlaws$Hall" 46 "PooledInlaws$Hall" "lastOf" "[I" ∈ zBT := zBT_in (by decide +kernel) (by decide +kernel)
theorem wf_H_49 : Cond.fieldLink "PooledInlaws$Hall" 49 "PooledInlaws$Hall" "hasOf" "[I" ∈ zBT := zBT_in (by decide +kernel) (by decide +kernel)
theorem wf_H_52 : Cond.fieldLink "PooledInlaws$Hall" 52 "PooledInlaws$Hall" "taken" "I" ∈ zBT := zBT_in (by decide +kernel) (by decide +kernel)
theorem wm_H_55 : Cond.methodLink "PooledInlaws$Hall" 55 arraycopyName ∈ zBT := zBT_in (by decide +kernel) (by decide +kernel)
theorem wy_n : Cond.native arraycopyName ∈ zBT := zBT_in (by decide +kernel) (by decide +kernel)
theorem wy_s : Cond.static arraycopyName ∈ zBT := zBT_in (by decide +kernel) (by decide +kernel)
theorem wy_i : Cond.initialized "java/lang/System" ∈ zBT := zBT_in (by decide +kernel) (by decide +kernel)
theorem wm_H_61 : Cond.methodLink "PooledInlaws$Hall" 61 yX0_sum ∈ zBT := zBT_in (by decide +kernel) (by decide +kernel)
theorem wq_H_sum : Cond.static yX0_sum ∈ zBT := zBT_in (by decide +kernel) (by decide +kernel)
theorem wm_H_65 : Cond.methodLink "PooledInlaws$Hall" 65 yX1_charms ∈ zBT := zBT_in (by decide +kernel) (by decide +kernel)
theorem wq_K_charms : Cond.static yX1_charms ∈ zBT := zBT_in (by decide +kernel) (by decide +kernel)
theorem wm_H_71 : Cond.methodLink "PooledInlaws$Hall" 71 yX1_does ∈ zBT := zBT_in (by decide +kernel) (by decide +kernel)
theorem wq_K_does : Cond.static yX1_does ∈ zBT := zBT_in (by decide +kernel) (by decide +kernel)
theorem wm_H_75 : Cond.methodLink "PooledInlaws$Hall" 75 yX1_thaws ∈ zBT := zBT_in (by decide +kernel) (by decide +kernel)
theorem wq_K_thaws : Cond.static yX1_thaws ∈ zBT := zBT_in (by decide +kernel) (by decide +kernel)
theorem wm_H_79 : Cond.methodLink "PooledInlaws$Hall" 79 yX1_chills ∈ zBT := zBT_in (by decide +kernel) (by decide +kernel)
theorem wq_K_chills : Cond.static yX1_chills ∈ zBT := zBT_in (by decide +kernel) (by decide +kernel)
theorem wm_H_82 : Cond.methodLink "PooledInlaws$Hall" 82 yX0_goOneSunday ∈ zBT := zBT_in (by decide +kernel) (by decide +kernel)
theorem wq_H_goOneSunday : Cond.instanceMethod yX0_goOneSunday ∈ zBT := zBT_in (by decide +kernel) (by decide +kernel)
theorem ww_H_goOneSunday : Cond.selects "PooledInlaws$Hall" yX0_goOneSunday yX0_goOneSunday ∈ zBT := zBT_in (by decide +kernel) (by decide +kernel)
theorem wm_H_85 : Cond.methodLink "PooledInlaws$Hall" 85 yX0_firstCouple ∈ zBT := zBT_in (by decide +kernel) (by decide +kernel)
theorem wq_H_firstCouple : Cond.instanceMethod yX0_firstCouple ∈ zBT := zBT_in (by decide +kernel) (by decide +kernel)
theorem ww_H_firstCouple : Cond.selects "PooledInlaws$Hall" yX0_firstCouple yX0_firstCouple ∈ zBT := zBT_in (by decide +kernel) (by decide +kernel)
theorem wm_H_89 : Cond.methodLink "PooledInlaws$Hall" 89 yX0_receive ∈ zBT := zBT_in (by decide +kernel) (by decide +kernel)
theorem wq_H_receive : Cond.instanceMethod yX0_receive ∈ zBT := zBT_in (by decide +kernel) (by decide +kernel)
theorem ww_H_receive : Cond.selects "PooledInlaws$Hall" yX0_receive yX0_receive ∈ zBT := zBT_in (by decide +kernel) (by decide +kernel)
theorem wm_H_93 : Cond.methodLink "PooledInlaws$Hall" 93 yX0_isFree ∈ zBT := zBT_in (by decide +kernel) (by decide +kernel)
theorem wq_H_isFree : Cond.instanceMethod yX0_isFree ∈ zBT := zBT_in (by decide +kernel) (by decide +kernel)
theorem ww_H_isFree : Cond.selects "PooledInlaws$Hall" yX0_isFree yX0_isFree ∈ zBT := zBT_in (by decide +kernel) (by decide +kernel)
theorem wm_H_97 : Cond.methodLink "PooledInlaws$Hall" 97 Lib.Math.min.name ∈ zBT := zBT_in (by decide +kernel) (by decide +kernel)
theorem wt_min_s : Cond.static Lib.Math.min.name ∈ zBT := zBT_in (by decide +kernel) (by decide +kernel)
theorem wt_min_c : Cond.code Lib.Math.min.name Lib.Math.min.code 2 (some .int) ∈ zBT := zBT_in (by decide +kernel) (by decide +kernel)
theorem wm_H_102 : Cond.methodLink "PooledInlaws$Hall" 102 yX0_chillsOf ∈ zBT := zBT_in (by decide +kernel) (by decide +kernel)
theorem wq_H_chillsOf : Cond.instanceMethod yX0_chillsOf ∈ zBT := zBT_in (by decide +kernel) (by decide +kernel)
theorem ww_H_chillsOf : Cond.selects "PooledInlaws$Hall" yX0_chillsOf yX0_chillsOf ∈ zBT := zBT_in (by decide +kernel) (by decide +kernel)
theorem wm_H_106 : Cond.methodLink "PooledInlaws$Hall" 106 yX0_hold ∈ zBT := zBT_in (by decide +kernel) (by decide +kernel)
theorem wq_H_hold : Cond.static yX0_hold ∈ zBT := zBT_in (by decide +kernel) (by decide +kernel)
theorem wm_H_110 : Cond.methodLink "PooledInlaws$Hall" 110 yX0_chosenBy ∈ zBT := zBT_in (by decide +kernel) (by decide +kernel)
theorem wq_H_chosenBy : Cond.instanceMethod yX0_chosenBy ∈ zBT := zBT_in (by decide +kernel) (by decide +kernel)
theorem ww_H_chosenBy : Cond.selects "PooledInlaws$Hall" yX0_chosenBy yX0_chosenBy ∈ zBT := zBT_in (by decide +kernel) (by decide +kernel)
theorem wm_H_113 : Cond.methodLink "PooledInlaws$Hall" 113 yX0_doesOf ∈ zBT := zBT_in (by decide +kernel) (by decide +kernel)
theorem wq_H_doesOf : Cond.instanceMethod yX0_doesOf ∈ zBT := zBT_in (by decide +kernel) (by decide +kernel)
theorem ww_H_doesOf : Cond.selects "PooledInlaws$Hall" yX0_doesOf yX0_doesOf ∈ zBT := zBT_in (by decide +kernel) (by decide +kernel)
theorem wm_H_116 : Cond.methodLink "PooledInlaws$Hall" 116 yX0_thawsOf ∈ zBT := zBT_in (by decide +kernel) (by decide +kernel)
theorem wq_H_thawsOf : Cond.instanceMethod yX0_thawsOf ∈ zBT := zBT_in (by decide +kernel) (by decide +kernel)
theorem ww_H_thawsOf : Cond.selects "PooledInlaws$Hall" yX0_thawsOf yX0_thawsOf ∈ zBT := zBT_in (by decide +kernel) (by decide +kernel)
theorem wm_H_119 : Cond.methodLink "PooledInlaws$Hall" 119 yX0_charmsOf ∈ zBT := zBT_in (by decide +kernel) (by decide +kernel)
theorem wq_H_charmsOf : Cond.instanceMethod yX0_charmsOf ∈ zBT := zBT_in (by decide +kernel) (by decide +kernel)
theorem ww_H_charmsOf : Cond.selects "PooledInlaws$Hall" yX0_charmsOf yX0_charmsOf ∈ zBT := zBT_in (by decide +kernel) (by decide +kernel)
theorem wm_H_122 : Cond.methodLink "PooledInlaws$Hall" 122 Lib.Math.max.name ∈ zBT := zBT_in (by decide +kernel) (by decide +kernel)
theorem wm_T_3 : Cond.methodLink "PooledInlaws$Tape" 3 objectInit ∈ zBT := zBT_in (by decide +kernel) (by decide +kernel)
theorem wf_T_9 : Cond.fieldLink "PooledInlaws$Tape" 9 "PooledInlaws$Tape" "bytes" "[I" ∈ zBT := zBT_in (by decide +kernel) (by decide +kernel)
theorem wf_T_15 : Cond.fieldLink "PooledInlaws$Tape" 15 "PooledInlaws$Tape" "length" "I" ∈ zBT := zBT_in (by decide +kernel) (by decide +kernel)
theorem wf_T_19 : Cond.fieldLink "PooledInlaws$Tape" 19 "PooledInlaws$Tape" "sort" "I" ∈ zBT := zBT_in (by decide +kernel) (by decide +kernel)
theorem wf_T_22 : Cond.fieldLink "PooledInlaws$Tape" 22 "PooledInlaws$Tape" "start" "I" ∈ zBT := zBT_in (by decide +kernel) (by decide +kernel)
theorem wf_T_25 : Cond.fieldLink "PooledInlaws$Tape" 25 "PooledInlaws$Tape" "behind" "I" ∈ zBT := zBT_in (by decide +kernel) (by decide +kernel)
theorem wf_T_28 : Cond.fieldLink "PooledInlaws$Tape" 28 "PooledInlaws$Tape" "number" "I" ∈ zBT := zBT_in (by decide +kernel) (by decide +kernel)
theorem wm_T_31 : Cond.methodLink "PooledInlaws$Tape" 31 yX3_advance ∈ zBT := zBT_in (by decide +kernel) (by decide +kernel)
theorem wq_T_advance : Cond.instanceMethod yX3_advance ∈ zBT := zBT_in (by decide +kernel) (by decide +kernel)
theorem ww_T_advance : Cond.selects "PooledInlaws$Tape" yX3_advance yX3_advance ∈ zBT := zBT_in (by decide +kernel) (by decide +kernel)
theorem wm_T_34 : Cond.methodLink "PooledInlaws$Tape" 34 yX3_tellItem ∈ zBT := zBT_in (by decide +kernel) (by decide +kernel)
theorem wq_T_tellItem : Cond.instanceMethod yX3_tellItem ∈ zBT := zBT_in (by decide +kernel) (by decide +kernel)
theorem ww_T_tellItem : Cond.selects "PooledInlaws$Tape" yX3_tellItem yX3_tellItem ∈ zBT := zBT_in (by decide +kernel) (by decide +kernel)
theorem wm_T_40 : Cond.methodLink "PooledInlaws$Tape" 40 yX1_nameOf ∈ zBT := zBT_in (by decide +kernel) (by decide +kernel)
theorem wq_K_nameOf : Cond.static yX1_nameOf ∈ zBT := zBT_in (by decide +kernel) (by decide +kernel)
theorem wm_T_44 : Cond.methodLink "PooledInlaws$Tape" 44 yX3_isWord ∈ zBT := zBT_in (by decide +kernel) (by decide +kernel)
theorem wq_T_isWord : Cond.instanceMethod yX3_isWord ∈ zBT := zBT_in (by decide +kernel) (by decide +kernel)
theorem ww_T_isWord : Cond.selects "PooledInlaws$Tape" yX3_isWord yX3_isWord ∈ zBT := zBT_in (by decide +kernel) (by decide +kernel)
theorem wm_T_48 : Cond.methodLink "PooledInlaws$Tape" 48 yX3_tellInlaw ∈ zBT := zBT_in (by decide +kernel) (by decide +kernel)
theorem wq_T_tellInlaw : Cond.instanceMethod yX3_tellInlaw ∈ zBT := zBT_in (by decide +kernel) (by decide +kernel)
theorem ww_T_tellInlaw : Cond.selects "PooledInlaws$Tape" yX3_tellInlaw yX3_tellInlaw ∈ zBT := zBT_in (by decide +kernel) (by decide +kernel)
theorem wm_T_54 : Cond.methodLink "PooledInlaws$Tape" 54 yX3_tellCouple ∈ zBT := zBT_in (by decide +kernel) (by decide +kernel)
theorem wq_T_tellCouple : Cond.instanceMethod yX3_tellCouple ∈ zBT := zBT_in (by decide +kernel) (by decide +kernel)
theorem ww_T_tellCouple : Cond.selects "PooledInlaws$Tape" yX3_tellCouple yX3_tellCouple ∈ zBT := zBT_in (by decide +kernel) (by decide +kernel)
theorem wm_T_59 : Cond.methodLink "PooledInlaws$Tape" 59 yX3_tellFire ∈ zBT := zBT_in (by decide +kernel) (by decide +kernel)
theorem wq_T_tellFire : Cond.instanceMethod yX3_tellFire ∈ zBT := zBT_in (by decide +kernel) (by decide +kernel)
theorem ww_T_tellFire : Cond.selects "PooledInlaws$Tape" yX3_tellFire yX3_tellFire ∈ zBT := zBT_in (by decide +kernel) (by decide +kernel)
theorem wm_T_64 : Cond.methodLink "PooledInlaws$Tape" 64 yX3_tellSit ∈ zBT := zBT_in (by decide +kernel) (by decide +kernel)
theorem wq_T_tellSit : Cond.instanceMethod yX3_tellSit ∈ zBT := zBT_in (by decide +kernel) (by decide +kernel)
theorem ww_T_tellSit : Cond.selects "PooledInlaws$Tape" yX3_tellSit yX3_tellSit ∈ zBT := zBT_in (by decide +kernel) (by decide +kernel)
theorem wm_T_67 : Cond.methodLink "PooledInlaws$Tape" 67 yX0_addInlaw ∈ zBT := zBT_in (by decide +kernel) (by decide +kernel)
theorem wq_H_addInlaw : Cond.instanceMethod yX0_addInlaw ∈ zBT := zBT_in (by decide +kernel) (by decide +kernel)
theorem ww_H_addInlaw : Cond.selects "PooledInlaws$Hall" yX0_addInlaw yX0_addInlaw ∈ zBT := zBT_in (by decide +kernel) (by decide +kernel)
theorem wm_T_75 : Cond.methodLink "PooledInlaws$Tape" 75 yX3_isNumberTo ∈ zBT := zBT_in (by decide +kernel) (by decide +kernel)
theorem wq_T_isNumberTo : Cond.instanceMethod yX3_isNumberTo ∈ zBT := zBT_in (by decide +kernel) (by decide +kernel)
theorem ww_T_isNumberTo : Cond.selects "PooledInlaws$Tape" yX3_isNumberTo yX3_isNumberTo ∈ zBT := zBT_in (by decide +kernel) (by decide +kernel)
theorem wf_T_79 : Cond.fieldLink "PooledInlaws$Tape" 79 "PooledInlaws$Hall" "warmOf" "[I" ∈ zBT := zBT_in (by decide +kernel) (by decide +kernel)
theorem wf_T_84 : Cond.fieldLink "PooledInlaws$Tape" 84 "PooledInlaws$Hall" "satOf" "[I" ∈ zBT := zBT_in (by decide +kernel) (by decide +kernel)
theorem wm_T_87 : Cond.methodLink "PooledInlaws$Tape" 87 yX0_addCouple ∈ zBT := zBT_in (by decide +kernel) (by decide +kernel)
theorem wq_H_addCouple : Cond.instanceMethod yX0_addCouple ∈ zBT := zBT_in (by decide +kernel) (by decide +kernel)
theorem ww_H_addCouple : Cond.selects "PooledInlaws$Hall" yX0_addCouple yX0_addCouple ∈ zBT := zBT_in (by decide +kernel) (by decide +kernel)
theorem wf_T_90 : Cond.fieldLink "PooledInlaws$Tape" 90 "PooledInlaws$Hall" "loudOf" "[I" ∈ zBT := zBT_in (by decide +kernel) (by decide +kernel)
theorem wf_T_95 : Cond.fieldLink "PooledInlaws$Tape" 95 "PooledInlaws$Hall" "inlaws" "I" ∈ zBT := zBT_in (by decide +kernel) (by decide +kernel)
theorem wf_T_98 : Cond.fieldLink "PooledInlaws$Tape" 98 "PooledInlaws$Hall" "lastOf" "[I" ∈ zBT := zBT_in (by decide +kernel) (by decide +kernel)
theorem wf_T_101 : Cond.fieldLink "PooledInlaws$Tape" 101 "PooledInlaws$Hall" "fire" "I" ∈ zBT := zBT_in (by decide +kernel) (by decide +kernel)
theorem wm_T_103 : Cond.methodLink "PooledInlaws$Tape" 103 yX3_isLetter ∈ zBT := zBT_in (by decide +kernel) (by decide +kernel)
theorem wq_T_isLetter : Cond.static yX3_isLetter ∈ zBT := zBT_in (by decide +kernel) (by decide +kernel)
theorem wm_T_106 : Cond.methodLink "PooledInlaws$Tape" 106 yX3_takeWord ∈ zBT := zBT_in (by decide +kernel) (by decide +kernel)
theorem wq_T_takeWord : Cond.instanceMethod yX3_takeWord ∈ zBT := zBT_in (by decide +kernel) (by decide +kernel)
theorem ww_T_takeWord : Cond.selects "PooledInlaws$Tape" yX3_takeWord yX3_takeWord ∈ zBT := zBT_in (by decide +kernel) (by decide +kernel)
theorem wm_T_109 : Cond.methodLink "PooledInlaws$Tape" 109 yX3_isDigit ∈ zBT := zBT_in (by decide +kernel) (by decide +kernel)
theorem wq_T_isDigit : Cond.static yX3_isDigit ∈ zBT := zBT_in (by decide +kernel) (by decide +kernel)
theorem wm_T_112 : Cond.methodLink "PooledInlaws$Tape" 112 yX3_takeNumber ∈ zBT := zBT_in (by decide +kernel) (by decide +kernel)
theorem wq_T_takeNumber : Cond.instanceMethod yX3_takeNumber ∈ zBT := zBT_in (by decide +kernel) (by decide +kernel)
theorem ww_T_takeNumber : Cond.selects "PooledInlaws$Tape" yX3_takeNumber yX3_takeNumber ∈ zBT := zBT_in (by decide +kernel) (by decide +kernel)
theorem wm_T_115 : Cond.methodLink "PooledInlaws$Tape" 115 Lib.Math.min.name ∈ zBT := zBT_in (by decide +kernel) (by decide +kernel)
theorem wm_T_121 : Cond.methodLink "PooledInlaws$Tape" 121 yJ0_length_8abf5 ∈ zBT := zBT_in (by decide +kernel) (by decide +kernel)
theorem wm_T_126 : Cond.methodLink "PooledInlaws$Tape" 126 yJ0_charAt_5068e ∈ zBT := zBT_in (by decide +kernel) (by decide +kernel)
theorem wm_X_1 : Cond.methodLink "PooledInlaws" 1 objectInit ∈ zBT := zBT_in (by decide +kernel) (by decide +kernel)
theorem wk_X_7 : Cond.classLink "PooledInlaws" 7 "PooledInlaws$Hall" ∈ zBT := zBT_in (by decide +kernel) (by decide +kernel)
theorem wi_X0 : Cond.instantiable "PooledInlaws$Hall" 14 ∈ zBT := zBT_in (by decide +kernel) (by decide +kernel)
theorem wn_X0 : Cond.initialized "PooledInlaws$Hall" ∈ zBT := zBT_in (by decide +kernel) (by decide +kernel)
theorem wm_X_9 : Cond.methodLink "PooledInlaws" 9 yX0_init ∈ zBT := zBT_in (by decide +kernel) (by decide +kernel)
theorem wq_H_init : Cond.instanceMethod yX0_init ∈ zBT := zBT_in (by decide +kernel) (by decide +kernel)
theorem wf_X_10 : Cond.fieldLink "PooledInlaws" 10 "PooledInlaws" "hall" "LPooledInlaws$Hall;" ∈ zBT := zBT_in (by decide +kernel) (by decide +kernel)
theorem wf_X_16 : Cond.fieldLink "PooledInlaws" 16 "PooledInlaws" "ahead" "LPooledInlaws$Hall;" ∈ zBT := zBT_in (by decide +kernel) (by decide +kernel)
theorem wf_X_19 : Cond.fieldLink "PooledInlaws" 19 "PooledInlaws" "kept" "LPooledInlaws$Hall;" ∈ zBT := zBT_in (by decide +kernel) (by decide +kernel)
theorem wf_X_22 : Cond.fieldLink "PooledInlaws" 22 "PooledInlaws" "isKept" "Z" ∈ zBT := zBT_in (by decide +kernel) (by decide +kernel)
theorem wk_X_26 : Cond.classLink "PooledInlaws" 26 "PooledInlaws$Tape" ∈ zBT := zBT_in (by decide +kernel) (by decide +kernel)
theorem wi_X3 : Cond.instantiable "PooledInlaws$Tape" 6 ∈ zBT := zBT_in (by decide +kernel) (by decide +kernel)
theorem wn_X3 : Cond.initialized "PooledInlaws$Tape" ∈ zBT := zBT_in (by decide +kernel) (by decide +kernel)
theorem wm_X_28 : Cond.methodLink "PooledInlaws" 28 yX3_init ∈ zBT := zBT_in (by decide +kernel) (by decide +kernel)
theorem wq_T_init : Cond.instanceMethod yX3_init ∈ zBT := zBT_in (by decide +kernel) (by decide +kernel)
theorem wf_X_29 : Cond.fieldLink "PooledInlaws" 29 "PooledInlaws" "tape" "LPooledInlaws$Tape;" ∈ zBT := zBT_in (by decide +kernel) (by decide +kernel)
theorem wk_X_33 : Cond.classLink "PooledInlaws" 33 "PooledInlaws$Sheet" ∈ zBT := zBT_in (by decide +kernel) (by decide +kernel)
theorem wf_X_35 : Cond.fieldLink "PooledInlaws" 35 "PooledInlaws" "sheets" "[LPooledInlaws$Sheet;" ∈ zBT := zBT_in (by decide +kernel) (by decide +kernel)
theorem wi_X2 : Cond.instantiable "PooledInlaws$Sheet" 3 ∈ zBT := zBT_in (by decide +kernel) (by decide +kernel)
theorem wn_X2 : Cond.initialized "PooledInlaws$Sheet" ∈ zBT := zBT_in (by decide +kernel) (by decide +kernel)
theorem wm_X_39 : Cond.methodLink "PooledInlaws" 39 yX2_init ∈ zBT := zBT_in (by decide +kernel) (by decide +kernel)
theorem wq_S_init : Cond.instanceMethod yX2_init ∈ zBT := zBT_in (by decide +kernel) (by decide +kernel)
theorem wf_X_40 : Cond.fieldLink "PooledInlaws" 40 "PooledInlaws" "findings" "[I" ∈ zBT := zBT_in (by decide +kernel) (by decide +kernel)
theorem wm_X_44 : Cond.methodLink "PooledInlaws" 44 yX4_isOutside ∈ zBT := zBT_in (by decide +kernel) (by decide +kernel)
theorem wq_X_isOutside : Cond.static yX4_isOutside ∈ zBT := zBT_in (by decide +kernel) (by decide +kernel)
theorem wc_X_48 : Cond.constant "PooledInlaws" 48 (-1000000001) ∈ zBT := zBT_in (by decide +kernel) (by decide +kernel)
theorem wm_X_49 : Cond.methodLink "PooledInlaws" 49 yX4_tell ∈ zBT := zBT_in (by decide +kernel) (by decide +kernel)
theorem wq_X_tell : Cond.instanceMethod yX4_tell ∈ zBT := zBT_in (by decide +kernel) (by decide +kernel)
theorem ww_X_tell : Cond.selects "PooledInlaws" yX4_tell yX4_tell ∈ zBT := zBT_in (by decide +kernel) (by decide +kernel)
theorem wf_X_53 : Cond.fieldLink "PooledInlaws" 53 "PooledInlaws$Hall" "fire" "I" ∈ zBT := zBT_in (by decide +kernel) (by decide +kernel)
theorem wf_X_57 : Cond.fieldLink "PooledInlaws" 57 "PooledInlaws$Hall" "sunday" "I" ∈ zBT := zBT_in (by decide +kernel) (by decide +kernel)
theorem wm_X_60 : Cond.methodLink "PooledInlaws" 60 yX0_firstCouple ∈ zBT := zBT_in (by decide +kernel) (by decide +kernel)
theorem wm_X_64 : Cond.methodLink "PooledInlaws" 64 yX0_satOnes ∈ zBT := zBT_in (by decide +kernel) (by decide +kernel)
theorem wq_H_satOnes : Cond.instanceMethod yX0_satOnes ∈ zBT := zBT_in (by decide +kernel) (by decide +kernel)
theorem ww_H_satOnes : Cond.selects "PooledInlaws$Hall" yX0_satOnes yX0_satOnes ∈ zBT := zBT_in (by decide +kernel) (by decide +kernel)
theorem wm_X_67 : Cond.methodLink "PooledInlaws" 67 yX0_wellOfAll ∈ zBT := zBT_in (by decide +kernel) (by decide +kernel)
theorem wq_H_wellOfAll : Cond.instanceMethod yX0_wellOfAll ∈ zBT := zBT_in (by decide +kernel) (by decide +kernel)
theorem ww_H_wellOfAll : Cond.selects "PooledInlaws$Hall" yX0_wellOfAll yX0_wellOfAll ∈ zBT := zBT_in (by decide +kernel) (by decide +kernel)
theorem wm_X_70 : Cond.methodLink "PooledInlaws" 70 yX0_warmOfAll ∈ zBT := zBT_in (by decide +kernel) (by decide +kernel)
theorem wq_H_warmOfAll : Cond.instanceMethod yX0_warmOfAll ∈ zBT := zBT_in (by decide +kernel) (by decide +kernel)
theorem ww_H_warmOfAll : Cond.selects "PooledInlaws$Hall" yX0_warmOfAll yX0_warmOfAll ∈ zBT := zBT_in (by decide +kernel) (by decide +kernel)
theorem wm_X_73 : Cond.methodLink "PooledInlaws" 73 yX4_isNoKind ∈ zBT := zBT_in (by decide +kernel) (by decide +kernel)
theorem wq_X_isNoKind : Cond.static yX4_isNoKind ∈ zBT := zBT_in (by decide +kernel) (by decide +kernel)
theorem wf_X_77 : Cond.fieldLink "PooledInlaws" 77 "PooledInlaws$Hall" "inlaws" "I" ∈ zBT := zBT_in (by decide +kernel) (by decide +kernel)
theorem wc_X_80 : Cond.constant "PooledInlaws" 80 (-1000000002) ∈ zBT := zBT_in (by decide +kernel) (by decide +kernel)
theorem wm_X_81 : Cond.methodLink "PooledInlaws" 81 yX0_addInlaw ∈ zBT := zBT_in (by decide +kernel) (by decide +kernel)
theorem wm_X_84 : Cond.methodLink "PooledInlaws" 84 yX4_isNoInlaw ∈ zBT := zBT_in (by decide +kernel) (by decide +kernel)
theorem wq_X_isNoInlaw : Cond.instanceMethod yX4_isNoInlaw ∈ zBT := zBT_in (by decide +kernel) (by decide +kernel)
theorem ww_X_isNoInlaw : Cond.selects "PooledInlaws" yX4_isNoInlaw yX4_isNoInlaw ∈ zBT := zBT_in (by decide +kernel) (by decide +kernel)
theorem wf_X_87 : Cond.fieldLink "PooledInlaws" 87 "PooledInlaws$Hall" "kindOf" "[I" ∈ zBT := zBT_in (by decide +kernel) (by decide +kernel)
theorem wf_X_90 : Cond.fieldLink "PooledInlaws" 90 "PooledInlaws$Hall" "warmOf" "[I" ∈ zBT := zBT_in (by decide +kernel) (by decide +kernel)
theorem wf_X_93 : Cond.fieldLink "PooledInlaws" 93 "PooledInlaws$Hall" "satOf" "[I" ∈ zBT := zBT_in (by decide +kernel) (by decide +kernel)
theorem wf_X_96 : Cond.fieldLink "PooledInlaws" 96 "PooledInlaws$Hall" "aloneOf" "[I" ∈ zBT := zBT_in (by decide +kernel) (by decide +kernel)
theorem wf_X_99 : Cond.fieldLink "PooledInlaws" 99 "PooledInlaws$Hall" "hadOf" "[I" ∈ zBT := zBT_in (by decide +kernel) (by decide +kernel)
theorem wm_X_102 : Cond.methodLink "PooledInlaws" 102 yX0_chillsOf ∈ zBT := zBT_in (by decide +kernel) (by decide +kernel)
theorem wm_X_105 : Cond.methodLink "PooledInlaws" 105 yX4_isNoCouple ∈ zBT := zBT_in (by decide +kernel) (by decide +kernel)
theorem wq_X_isNoCouple : Cond.instanceMethod yX4_isNoCouple ∈ zBT := zBT_in (by decide +kernel) (by decide +kernel)
theorem ww_X_isNoCouple : Cond.selects "PooledInlaws" yX4_isNoCouple yX4_isNoCouple ∈ zBT := zBT_in (by decide +kernel) (by decide +kernel)
theorem wm_X_108 : Cond.methodLink "PooledInlaws" 108 yX0_charmsOf ∈ zBT := zBT_in (by decide +kernel) (by decide +kernel)
theorem wm_X_112 : Cond.methodLink "PooledInlaws" 112 yX0_doesOf ∈ zBT := zBT_in (by decide +kernel) (by decide +kernel)
theorem wm_X_115 : Cond.methodLink "PooledInlaws" 115 yX0_thawsOf ∈ zBT := zBT_in (by decide +kernel) (by decide +kernel)
theorem wm_X_118 : Cond.methodLink "PooledInlaws" 118 yX4_put ∈ zBT := zBT_in (by decide +kernel) (by decide +kernel)
theorem wq_X_put : Cond.instanceMethod yX4_put ∈ zBT := zBT_in (by decide +kernel) (by decide +kernel)
theorem ww_X_put : Cond.selects "PooledInlaws" yX4_put yX4_put ∈ zBT := zBT_in (by decide +kernel) (by decide +kernel)
theorem wm_X_124 : Cond.methodLink "PooledInlaws" 124 yX1_isUnder ∈ zBT := zBT_in (by decide +kernel) (by decide +kernel)
theorem wq_K_isUnder : Cond.static yX1_isUnder ∈ zBT := zBT_in (by decide +kernel) (by decide +kernel)
theorem wc_X_128 : Cond.constant "PooledInlaws" 128 (-1000000003) ∈ zBT := zBT_in (by decide +kernel) (by decide +kernel)
theorem wf_X_129 : Cond.fieldLink "PooledInlaws" 129 "PooledInlaws$Hall" "couples" "I" ∈ zBT := zBT_in (by decide +kernel) (by decide +kernel)
theorem wm_X_132 : Cond.methodLink "PooledInlaws" 132 yX0_addCouple ∈ zBT := zBT_in (by decide +kernel) (by decide +kernel)
theorem wf_X_135 : Cond.fieldLink "PooledInlaws" 135 "PooledInlaws$Hall" "loudOf" "[I" ∈ zBT := zBT_in (by decide +kernel) (by decide +kernel)
theorem wf_X_138 : Cond.fieldLink "PooledInlaws" 138 "PooledInlaws$Hall" "wellOf" "[I" ∈ zBT := zBT_in (by decide +kernel) (by decide +kernel)
theorem wf_X_141 : Cond.fieldLink "PooledInlaws" 141 "PooledInlaws$Hall" "lastOf" "[I" ∈ zBT := zBT_in (by decide +kernel) (by decide +kernel)
theorem wm_X_144 : Cond.methodLink "PooledInlaws" 144 yX0_become ∈ zBT := zBT_in (by decide +kernel) (by decide +kernel)
theorem wq_H_become : Cond.instanceMethod yX0_become ∈ zBT := zBT_in (by decide +kernel) (by decide +kernel)
theorem ww_H_become : Cond.selects "PooledInlaws$Hall" yX0_become yX0_become ∈ zBT := zBT_in (by decide +kernel) (by decide +kernel)
theorem wm_X_148 : Cond.methodLink "PooledInlaws" 148 yX0_goOneSunday ∈ zBT := zBT_in (by decide +kernel) (by decide +kernel)
theorem wf_X_151 : Cond.fieldLink "PooledInlaws" 151 "PooledInlaws$Hall" "hasOf" "[I" ∈ zBT := zBT_in (by decide +kernel) (by decide +kernel)
theorem wc_X_154 : Cond.constant "PooledInlaws" 154 (-1000000005) ∈ zBT := zBT_in (by decide +kernel) (by decide +kernel)
theorem wm_X_155 : Cond.methodLink "PooledInlaws" 155 yX0_goSundays ∈ zBT := zBT_in (by decide +kernel) (by decide +kernel)
theorem wq_H_goSundays : Cond.instanceMethod yX0_goSundays ∈ zBT := zBT_in (by decide +kernel) (by decide +kernel)
theorem ww_H_goSundays : Cond.selects "PooledInlaws$Hall" yX0_goSundays yX0_goSundays ∈ zBT := zBT_in (by decide +kernel) (by decide +kernel)
theorem wc_X_159 : Cond.constant "PooledInlaws" 159 (-1000000004) ∈ zBT := zBT_in (by decide +kernel) (by decide +kernel)
theorem wf_X_160 : Cond.fieldLink "PooledInlaws" 160 "PooledInlaws$Tape" "length" "I" ∈ zBT := zBT_in (by decide +kernel) (by decide +kernel)
theorem wf_X_163 : Cond.fieldLink "PooledInlaws" 163 "PooledInlaws$Tape" "bytes" "[I" ∈ zBT := zBT_in (by decide +kernel) (by decide +kernel)
theorem wm_X_166 : Cond.methodLink "PooledInlaws" 166 yX3_tellTo ∈ zBT := zBT_in (by decide +kernel) (by decide +kernel)
theorem wq_T_tellTo : Cond.instanceMethod yX3_tellTo ∈ zBT := zBT_in (by decide +kernel) (by decide +kernel)
theorem ww_T_tellTo : Cond.selects "PooledInlaws$Tape" yX3_tellTo yX3_tellTo ∈ zBT := zBT_in (by decide +kernel) (by decide +kernel)
theorem wm_X_170 : Cond.methodLink "PooledInlaws" 170 yX4_isNoSheet ∈ zBT := zBT_in (by decide +kernel) (by decide +kernel)
theorem wq_X_isNoSheet : Cond.static yX4_isNoSheet ∈ zBT := zBT_in (by decide +kernel) (by decide +kernel)
theorem wc_X_173 : Cond.constant "PooledInlaws" 173 (-1000000007) ∈ zBT := zBT_in (by decide +kernel) (by decide +kernel)
theorem wm_X_174 : Cond.methodLink "PooledInlaws" 174 yX2_lay ∈ zBT := zBT_in (by decide +kernel) (by decide +kernel)
theorem wq_S_lay : Cond.instanceMethod yX2_lay ∈ zBT := zBT_in (by decide +kernel) (by decide +kernel)
theorem ww_S_lay : Cond.selects "PooledInlaws$Sheet" yX2_lay yX2_lay ∈ zBT := zBT_in (by decide +kernel) (by decide +kernel)
theorem wf_X_178 : Cond.fieldLink "PooledInlaws" 178 "PooledInlaws$Sheet" "size" "I" ∈ zBT := zBT_in (by decide +kernel) (by decide +kernel)
theorem wm_X_181 : Cond.methodLink "PooledInlaws" 181 yX2_isMissing ∈ zBT := zBT_in (by decide +kernel) (by decide +kernel)
theorem wq_S_isMissing : Cond.instanceMethod yX2_isMissing ∈ zBT := zBT_in (by decide +kernel) (by decide +kernel)
theorem ww_S_isMissing : Cond.selects "PooledInlaws$Sheet" yX2_isMissing yX2_isMissing ∈ zBT := zBT_in (by decide +kernel) (by decide +kernel)
theorem wc_X_185 : Cond.constant "PooledInlaws" 185 (-1000000006) ∈ zBT := zBT_in (by decide +kernel) (by decide +kernel)
theorem wf_X_186 : Cond.fieldLink "PooledInlaws" 186 "PooledInlaws$Sheet" "numbers" "[J" ∈ zBT := zBT_in (by decide +kernel) (by decide +kernel)
theorem wm_X_190 : Cond.methodLink "PooledInlaws" 190 yX2_put ∈ zBT := zBT_in (by decide +kernel) (by decide +kernel)
theorem wq_S_put : Cond.instanceMethod yX2_put ∈ zBT := zBT_in (by decide +kernel) (by decide +kernel)
theorem ww_S_put : Cond.selects "PooledInlaws$Sheet" yX2_put yX2_put ∈ zBT := zBT_in (by decide +kernel) (by decide +kernel)
theorem wf_X_193 : Cond.fieldLink "PooledInlaws" 193 "PooledInlaws$Sheet" "bits" "I" ∈ zBT := zBT_in (by decide +kernel) (by decide +kernel)
theorem wm_X_196 : Cond.methodLink "PooledInlaws" 196 yX2_hasRun ∈ zBT := zBT_in (by decide +kernel) (by decide +kernel)
theorem wq_S_hasRun : Cond.instanceMethod yX2_hasRun ∈ zBT := zBT_in (by decide +kernel) (by decide +kernel)
theorem ww_S_hasRun : Cond.selects "PooledInlaws$Sheet" yX2_hasRun yX2_hasRun ∈ zBT := zBT_in (by decide +kernel) (by decide +kernel)
theorem wm_X_199 : Cond.methodLink "PooledInlaws" 199 arraycopyName ∈ zBT := zBT_in (by decide +kernel) (by decide +kernel)
theorem wc_X_205 : Cond.constantLong "PooledInlaws" 205 (99) ∈ zBT := zBT_in (by decide +kernel) (by decide +kernel)
theorem wm_X_207 : Cond.methodLink "PooledInlaws" 207 yX4_goesAsBooked ∈ zBT := zBT_in (by decide +kernel) (by decide +kernel)
theorem wq_X_goesAsBooked : Cond.instanceMethod yX4_goesAsBooked ∈ zBT := zBT_in (by decide +kernel) (by decide +kernel)
theorem ww_X_goesAsBooked : Cond.selects "PooledInlaws" yX4_goesAsBooked yX4_goesAsBooked ∈ zBT := zBT_in (by decide +kernel) (by decide +kernel)
theorem wm_X_211 : Cond.methodLink "PooledInlaws" 211 yX0_hadOfAll ∈ zBT := zBT_in (by decide +kernel) (by decide +kernel)
theorem wq_H_hadOfAll : Cond.instanceMethod yX0_hadOfAll ∈ zBT := zBT_in (by decide +kernel) (by decide +kernel)
theorem ww_H_hadOfAll : Cond.selects "PooledInlaws$Hall" yX0_hadOfAll yX0_hadOfAll ∈ zBT := zBT_in (by decide +kernel) (by decide +kernel)
theorem wm_M_1 : Cond.methodLink "PooledInlawsModel" 1 objectInit ∈ zBT := zBT_in (by decide +kernel) (by decide +kernel)
theorem wf_M_7 : Cond.fieldLink "PooledInlawsModel" 7 "PooledInlawsModel" "s" "[I" ∈ zBT := zBT_in (by decide +kernel) (by decide +kernel)
theorem wf_M_13 : Cond.fieldLink "PooledInlawsModel" 13 "PooledInlawsModel" "keptS" "[I" ∈ zBT := zBT_in (by decide +kernel) (by decide +kernel)
theorem wf_M_16 : Cond.fieldLink "PooledInlawsModel" 16 "PooledInlawsModel" "other" "[I" ∈ zBT := zBT_in (by decide +kernel) (by decide +kernel)
theorem wf_M_19 : Cond.fieldLink "PooledInlawsModel" 19 "PooledInlawsModel" "aside" "[I" ∈ zBT := zBT_in (by decide +kernel) (by decide +kernel)
theorem wf_M_22 : Cond.fieldLink "PooledInlawsModel" 22 "PooledInlawsModel" "statuses" "[I" ∈ zBT := zBT_in (by decide +kernel) (by decide +kernel)
theorem wf_M_25 : Cond.fieldLink "PooledInlawsModel" 25 "PooledInlawsModel" "got" "[I" ∈ zBT := zBT_in (by decide +kernel) (by decide +kernel)
theorem wf_M_28 : Cond.fieldLink "PooledInlawsModel" 28 "PooledInlawsModel" "tape" "[I" ∈ zBT := zBT_in (by decide +kernel) (by decide +kernel)
theorem wf_M_31 : Cond.fieldLink "PooledInlawsModel" 31 "PooledInlawsModel" "bitsOf" "[I" ∈ zBT := zBT_in (by decide +kernel) (by decide +kernel)
theorem wf_M_34 : Cond.fieldLink "PooledInlawsModel" 34 "PooledInlawsModel" "sizeOf" "[I" ∈ zBT := zBT_in (by decide +kernel) (by decide +kernel)
theorem wf_M_37 : Cond.fieldLink "PooledInlawsModel" 37 "PooledInlawsModel" "numbers" "[J" ∈ zBT := zBT_in (by decide +kernel) (by decide +kernel)
theorem wf_M_41 : Cond.fieldLink "PooledInlawsModel" 41 "PooledInlawsModel" "moved" "[J" ∈ zBT := zBT_in (by decide +kernel) (by decide +kernel)
theorem wc_M_44 : Cond.constant "PooledInlawsModel" 44 (-1000000001) ∈ zBT := zBT_in (by decide +kernel) (by decide +kernel)
theorem wm_M_45 : Cond.methodLink "PooledInlawsModel" 45 yX5_spot ∈ zBT := zBT_in (by decide +kernel) (by decide +kernel)
theorem wq_M_spot : Cond.static yX5_spot ∈ zBT := zBT_in (by decide +kernel) (by decide +kernel)
theorem wm_M_49 : Cond.methodLink "PooledInlawsModel" 49 yX5_coupleSpot ∈ zBT := zBT_in (by decide +kernel) (by decide +kernel)
theorem wq_M_coupleSpot : Cond.static yX5_coupleSpot ∈ zBT := zBT_in (by decide +kernel) (by decide +kernel)
theorem wm_M_52 : Cond.methodLink "PooledInlawsModel" 52 yX5_in ∈ zBT := zBT_in (by decide +kernel) (by decide +kernel)
theorem wq_M_in : Cond.static yX5_in ∈ zBT := zBT_in (by decide +kernel) (by decide +kernel)
theorem wc_M_56 : Cond.constantLong "PooledInlawsModel" 56 (5) ∈ zBT := zBT_in (by decide +kernel) (by decide +kernel)
theorem wm_M_58 : Cond.methodLink "PooledInlawsModel" 58 yX5_its ∈ zBT := zBT_in (by decide +kernel) (by decide +kernel)
theorem wq_M_its : Cond.instanceMethod yX5_its ∈ zBT := zBT_in (by decide +kernel) (by decide +kernel)
theorem ww_M_its : Cond.selects "PooledInlawsModel" yX5_its yX5_its ∈ zBT := zBT_in (by decide +kernel) (by decide +kernel)
theorem wm_M_61 : Cond.methodLink "PooledInlawsModel" 61 yX5_theirs ∈ zBT := zBT_in (by decide +kernel) (by decide +kernel)
theorem wq_M_theirs : Cond.instanceMethod yX5_theirs ∈ zBT := zBT_in (by decide +kernel) (by decide +kernel)
theorem ww_M_theirs : Cond.selects "PooledInlawsModel" yX5_theirs yX5_theirs ∈ zBT := zBT_in (by decide +kernel) (by decide +kernel)
theorem wc_M_64 : Cond.constantLong "PooledInlawsModel" 64 (20) ∈ zBT := zBT_in (by decide +kernel) (by decide +kernel)
theorem wm_M_66 : Cond.methodLink "PooledInlawsModel" 66 yX5_becomes ∈ zBT := zBT_in (by decide +kernel) (by decide +kernel)
theorem wq_M_becomes : Cond.instanceMethod yX5_becomes ∈ zBT := zBT_in (by decide +kernel) (by decide +kernel)
theorem ww_M_becomes : Cond.selects "PooledInlawsModel" yX5_becomes yX5_becomes ∈ zBT := zBT_in (by decide +kernel) (by decide +kernel)
theorem wm_M_69 : Cond.methodLink "PooledInlawsModel" 69 yX5_finds ∈ zBT := zBT_in (by decide +kernel) (by decide +kernel)
theorem wq_M_finds : Cond.instanceMethod yX5_finds ∈ zBT := zBT_in (by decide +kernel) (by decide +kernel)
theorem ww_M_finds : Cond.selects "PooledInlawsModel" yX5_finds yX5_finds ∈ zBT := zBT_in (by decide +kernel) (by decide +kernel)
theorem wm_M_73 : Cond.methodLink "PooledInlawsModel" 73 yX5_firstCouple ∈ zBT := zBT_in (by decide +kernel) (by decide +kernel)
theorem wq_M_firstCouple : Cond.instanceMethod yX5_firstCouple ∈ zBT := zBT_in (by decide +kernel) (by decide +kernel)
theorem ww_M_firstCouple : Cond.selects "PooledInlawsModel" yX5_firstCouple yX5_firstCouple ∈ zBT := zBT_in (by decide +kernel) (by decide +kernel)
theorem wm_M_77 : Cond.methodLink "PooledInlawsModel" 77 yX5_satOn ∈ zBT := zBT_in (by decide +kernel) (by decide +kernel)
theorem wq_M_satOn : Cond.instanceMethod yX5_satOn ∈ zBT := zBT_in (by decide +kernel) (by decide +kernel)
theorem ww_M_satOn : Cond.selects "PooledInlawsModel" yX5_satOn yX5_satOn ∈ zBT := zBT_in (by decide +kernel) (by decide +kernel)
theorem wm_M_80 : Cond.methodLink "PooledInlawsModel" 80 yX5_wells ∈ zBT := zBT_in (by decide +kernel) (by decide +kernel)
theorem wq_M_wells : Cond.instanceMethod yX5_wells ∈ zBT := zBT_in (by decide +kernel) (by decide +kernel)
theorem ww_M_wells : Cond.selects "PooledInlawsModel" yX5_wells yX5_wells ∈ zBT := zBT_in (by decide +kernel) (by decide +kernel)
theorem wm_M_83 : Cond.methodLink "PooledInlawsModel" 83 yX5_together ∈ zBT := zBT_in (by decide +kernel) (by decide +kernel)
theorem wq_M_together : Cond.instanceMethod yX5_together ∈ zBT := zBT_in (by decide +kernel) (by decide +kernel)
theorem ww_M_together : Cond.selects "PooledInlawsModel" yX5_together yX5_together ∈ zBT := zBT_in (by decide +kernel) (by decide +kernel)
theorem wm_M_86 : Cond.methodLink "PooledInlawsModel" 86 yX5_isKind ∈ zBT := zBT_in (by decide +kernel) (by decide +kernel)
theorem wq_M_isKind : Cond.static yX5_isKind ∈ zBT := zBT_in (by decide +kernel) (by decide +kernel)
theorem wc_M_90 : Cond.constant "PooledInlawsModel" 90 (-1000000002) ∈ zBT := zBT_in (by decide +kernel) (by decide +kernel)
theorem wm_M_91 : Cond.methodLink "PooledInlawsModel" 91 yX5_addsInlaw ∈ zBT := zBT_in (by decide +kernel) (by decide +kernel)
theorem wq_M_addsInlaw : Cond.instanceMethod yX5_addsInlaw ∈ zBT := zBT_in (by decide +kernel) (by decide +kernel)
theorem ww_M_addsInlaw : Cond.selects "PooledInlawsModel" yX5_addsInlaw yX5_addsInlaw ∈ zBT := zBT_in (by decide +kernel) (by decide +kernel)
theorem wm_M_94 : Cond.methodLink "PooledInlawsModel" 94 yX5_isInlaw ∈ zBT := zBT_in (by decide +kernel) (by decide +kernel)
theorem wq_M_isInlaw : Cond.instanceMethod yX5_isInlaw ∈ zBT := zBT_in (by decide +kernel) (by decide +kernel)
theorem ww_M_isInlaw : Cond.selects "PooledInlawsModel" yX5_isInlaw yX5_isInlaw ∈ zBT := zBT_in (by decide +kernel) (by decide +kernel)
theorem wm_M_97 : Cond.methodLink "PooledInlawsModel" 97 yX5_chills ∈ zBT := zBT_in (by decide +kernel) (by decide +kernel)
theorem wq_M_chills : Cond.instanceMethod yX5_chills ∈ zBT := zBT_in (by decide +kernel) (by decide +kernel)
theorem ww_M_chills : Cond.selects "PooledInlawsModel" yX5_chills yX5_chills ∈ zBT := zBT_in (by decide +kernel) (by decide +kernel)
theorem wm_M_100 : Cond.methodLink "PooledInlawsModel" 100 yX5_isCouple ∈ zBT := zBT_in (by decide +kernel) (by decide +kernel)
theorem wq_M_isCouple : Cond.instanceMethod yX5_isCouple ∈ zBT := zBT_in (by decide +kernel) (by decide +kernel)
theorem ww_M_isCouple : Cond.selects "PooledInlawsModel" yX5_isCouple yX5_isCouple ∈ zBT := zBT_in (by decide +kernel) (by decide +kernel)
theorem wc_M_103 : Cond.constantLong "PooledInlawsModel" 103 (2) ∈ zBT := zBT_in (by decide +kernel) (by decide +kernel)
theorem wm_M_105 : Cond.methodLink "PooledInlawsModel" 105 yX5_charms ∈ zBT := zBT_in (by decide +kernel) (by decide +kernel)
theorem wq_M_charms : Cond.instanceMethod yX5_charms ∈ zBT := zBT_in (by decide +kernel) (by decide +kernel)
theorem ww_M_charms : Cond.selects "PooledInlawsModel" yX5_charms yX5_charms ∈ zBT := zBT_in (by decide +kernel) (by decide +kernel)
theorem wm_M_108 : Cond.methodLink "PooledInlawsModel" 108 yX5_does ∈ zBT := zBT_in (by decide +kernel) (by decide +kernel)
theorem wq_M_does : Cond.instanceMethod yX5_does ∈ zBT := zBT_in (by decide +kernel) (by decide +kernel)
theorem ww_M_does : Cond.selects "PooledInlawsModel" yX5_does yX5_does ∈ zBT := zBT_in (by decide +kernel) (by decide +kernel)
theorem wm_M_111 : Cond.methodLink "PooledInlawsModel" 111 yX5_thaws ∈ zBT := zBT_in (by decide +kernel) (by decide +kernel)
theorem wq_M_thaws : Cond.instanceMethod yX5_thaws ∈ zBT := zBT_in (by decide +kernel) (by decide +kernel)
theorem ww_M_thaws : Cond.selects "PooledInlawsModel" yX5_thaws yX5_thaws ∈ zBT := zBT_in (by decide +kernel) (by decide +kernel)
theorem wc_M_114 : Cond.constantLong "PooledInlawsModel" 114 (4) ∈ zBT := zBT_in (by decide +kernel) (by decide +kernel)
theorem wc_M_116 : Cond.constantLong "PooledInlawsModel" 116 (99) ∈ zBT := zBT_in (by decide +kernel) (by decide +kernel)
theorem wc_M_118 : Cond.constantLong "PooledInlawsModel" 118 (9999) ∈ zBT := zBT_in (by decide +kernel) (by decide +kernel)
theorem wm_M_120 : Cond.methodLink "PooledInlawsModel" 120 yX5_isUnder ∈ zBT := zBT_in (by decide +kernel) (by decide +kernel)
theorem wq_M_isUnder : Cond.static yX5_isUnder ∈ zBT := zBT_in (by decide +kernel) (by decide +kernel)
theorem wc_M_124 : Cond.constant "PooledInlawsModel" 124 (-1000000003) ∈ zBT := zBT_in (by decide +kernel) (by decide +kernel)
theorem wc_M_125 : Cond.constantLong "PooledInlawsModel" 125 (9) ∈ zBT := zBT_in (by decide +kernel) (by decide +kernel)
theorem wm_M_127 : Cond.methodLink "PooledInlawsModel" 127 yX5_addsCouple ∈ zBT := zBT_in (by decide +kernel) (by decide +kernel)
theorem wq_M_addsCouple : Cond.instanceMethod yX5_addsCouple ∈ zBT := zBT_in (by decide +kernel) (by decide +kernel)
theorem ww_M_addsCouple : Cond.selects "PooledInlawsModel" yX5_addsCouple yX5_addsCouple ∈ zBT := zBT_in (by decide +kernel) (by decide +kernel)
theorem wm_M_130 : Cond.methodLink "PooledInlawsModel" 130 yX5_laysAside ∈ zBT := zBT_in (by decide +kernel) (by decide +kernel)
theorem wq_M_laysAside : Cond.instanceMethod yX5_laysAside ∈ zBT := zBT_in (by decide +kernel) (by decide +kernel)
theorem ww_M_laysAside : Cond.selects "PooledInlawsModel" yX5_laysAside yX5_laysAside ∈ zBT := zBT_in (by decide +kernel) (by decide +kernel)
theorem wm_M_133 : Cond.methodLink "PooledInlawsModel" 133 yX5_sunday ∈ zBT := zBT_in (by decide +kernel) (by decide +kernel)
theorem wq_M_sunday : Cond.instanceMethod yX5_sunday ∈ zBT := zBT_in (by decide +kernel) (by decide +kernel)
theorem ww_M_sunday : Cond.selects "PooledInlawsModel" yX5_sunday yX5_sunday ∈ zBT := zBT_in (by decide +kernel) (by decide +kernel)
theorem wm_M_136 : Cond.methodLink "PooledInlawsModel" 136 yX5_takesBack ∈ zBT := zBT_in (by decide +kernel) (by decide +kernel)
theorem wq_M_takesBack : Cond.instanceMethod yX5_takesBack ∈ zBT := zBT_in (by decide +kernel) (by decide +kernel)
theorem ww_M_takesBack : Cond.selects "PooledInlawsModel" yX5_takesBack yX5_takesBack ∈ zBT := zBT_in (by decide +kernel) (by decide +kernel)
theorem wc_M_139 : Cond.constantLong "PooledInlawsModel" 139 (3) ∈ zBT := zBT_in (by decide +kernel) (by decide +kernel)
theorem wm_M_141 : Cond.methodLink "PooledInlawsModel" 141 yX5_hasNow ∈ zBT := zBT_in (by decide +kernel) (by decide +kernel)
theorem wq_M_hasNow : Cond.instanceMethod yX5_hasNow ∈ zBT := zBT_in (by decide +kernel) (by decide +kernel)
theorem ww_M_hasNow : Cond.selects "PooledInlawsModel" yX5_hasNow yX5_hasNow ∈ zBT := zBT_in (by decide +kernel) (by decide +kernel)
theorem wc_M_144 : Cond.constantLong "PooledInlawsModel" 144 (-999) ∈ zBT := zBT_in (by decide +kernel) (by decide +kernel)
theorem wc_M_146 : Cond.constantLong "PooledInlawsModel" 146 (999) ∈ zBT := zBT_in (by decide +kernel) (by decide +kernel)
theorem wc_M_148 : Cond.constantLong "PooledInlawsModel" 148 (-1) ∈ zBT := zBT_in (by decide +kernel) (by decide +kernel)
theorem wm_M_150 : Cond.methodLink "PooledInlawsModel" 150 yX5_held ∈ zBT := zBT_in (by decide +kernel) (by decide +kernel)
theorem wq_M_held : Cond.static yX5_held ∈ zBT := zBT_in (by decide +kernel) (by decide +kernel)
theorem wm_M_154 : Cond.methodLink "PooledInlawsModel" 154 yX5_charmer ∈ zBT := zBT_in (by decide +kernel) (by decide +kernel)
theorem wq_M_charmer : Cond.instanceMethod yX5_charmer ∈ zBT := zBT_in (by decide +kernel) (by decide +kernel)
theorem ww_M_charmer : Cond.selects "PooledInlawsModel" yX5_charmer yX5_charmer ∈ zBT := zBT_in (by decide +kernel) (by decide +kernel)
theorem wm_M_157 : Cond.methodLink "PooledInlawsModel" 157 yX5_has ∈ zBT := zBT_in (by decide +kernel) (by decide +kernel)
theorem wq_M_has : Cond.instanceMethod yX5_has ∈ zBT := zBT_in (by decide +kernel) (by decide +kernel)
theorem ww_M_has : Cond.selects "PooledInlawsModel" yX5_has yX5_has ∈ zBT := zBT_in (by decide +kernel) (by decide +kernel)
theorem wm_M_161 : Cond.methodLink "PooledInlawsModel" 161 yX5_isAlone ∈ zBT := zBT_in (by decide +kernel) (by decide +kernel)
theorem wq_M_isAlone : Cond.instanceMethod yX5_isAlone ∈ zBT := zBT_in (by decide +kernel) (by decide +kernel)
theorem ww_M_isAlone : Cond.selects "PooledInlawsModel" yX5_isAlone yX5_isAlone ∈ zBT := zBT_in (by decide +kernel) (by decide +kernel)
theorem wc_M_165 : Cond.constantLong "PooledInlawsModel" 165 (60) ∈ zBT := zBT_in (by decide +kernel) (by decide +kernel)
theorem wc_M_167 : Cond.constant "PooledInlawsModel" 167 (-1000000005) ∈ zBT := zBT_in (by decide +kernel) (by decide +kernel)
theorem wm_M_168 : Cond.methodLink "PooledInlawsModel" 168 yX5_sundaysGo ∈ zBT := zBT_in (by decide +kernel) (by decide +kernel)
theorem wq_M_sundaysGo : Cond.instanceMethod yX5_sundaysGo ∈ zBT := zBT_in (by decide +kernel) (by decide +kernel)
theorem ww_M_sundaysGo : Cond.selects "PooledInlawsModel" yX5_sundaysGo yX5_sundaysGo ∈ zBT := zBT_in (by decide +kernel) (by decide +kernel)
theorem wc_M_171 : Cond.constantLong "PooledInlawsModel" 171 (100) ∈ zBT := zBT_in (by decide +kernel) (by decide +kernel)
theorem wm_M_173 : Cond.methodLink "PooledInlawsModel" 173 yX5_isAhead ∈ zBT := zBT_in (by decide +kernel) (by decide +kernel)
theorem wq_M_isAhead : Cond.static yX5_isAhead ∈ zBT := zBT_in (by decide +kernel) (by decide +kernel)
theorem wm_M_176 : Cond.methodLink "PooledInlawsModel" 176 yX5_behind ∈ zBT := zBT_in (by decide +kernel) (by decide +kernel)
theorem wq_M_behind : Cond.instanceMethod yX5_behind ∈ zBT := zBT_in (by decide +kernel) (by decide +kernel)
theorem ww_M_behind : Cond.selects "PooledInlawsModel" yX5_behind yX5_behind ∈ zBT := zBT_in (by decide +kernel) (by decide +kernel)
theorem wc_M_179 : Cond.constant "PooledInlawsModel" 179 (-1000000004) ∈ zBT := zBT_in (by decide +kernel) (by decide +kernel)
theorem wc_M_180 : Cond.constant "PooledInlawsModel" 180 (-99999) ∈ zBT := zBT_in (by decide +kernel) (by decide +kernel)
theorem wm_M_181 : Cond.methodLink "PooledInlawsModel" 181 yX5_isSoon ∈ zBT := zBT_in (by decide +kernel) (by decide +kernel)
theorem wq_M_isSoon : Cond.static yX5_isSoon ∈ zBT := zBT_in (by decide +kernel) (by decide +kernel)
theorem wm_M_184 : Cond.methodLink "PooledInlawsModel" 184 yX5_mostBy ∈ zBT := zBT_in (by decide +kernel) (by decide +kernel)
theorem wq_M_mostBy : Cond.instanceMethod yX5_mostBy ∈ zBT := zBT_in (by decide +kernel) (by decide +kernel)
theorem ww_M_mostBy : Cond.selects "PooledInlawsModel" yX5_mostBy yX5_mostBy ∈ zBT := zBT_in (by decide +kernel) (by decide +kernel)
theorem wf_M_188 : Cond.fieldLink "PooledInlawsModel" 188 "PooledInlawsModel" "taped" "I" ∈ zBT := zBT_in (by decide +kernel) (by decide +kernel)
theorem wc_M_192 : Cond.constantLong "PooledInlawsModel" 192 (97) ∈ zBT := zBT_in (by decide +kernel) (by decide +kernel)
theorem wc_M_194 : Cond.constantLong "PooledInlawsModel" 194 (122) ∈ zBT := zBT_in (by decide +kernel) (by decide +kernel)
theorem wc_M_196 : Cond.constantLong "PooledInlawsModel" 196 (48) ∈ zBT := zBT_in (by decide +kernel) (by decide +kernel)
theorem wc_M_198 : Cond.constantLong "PooledInlawsModel" 198 (57) ∈ zBT := zBT_in (by decide +kernel) (by decide +kernel)
theorem wf_M_200 : Cond.fieldLink "PooledInlawsModel" 200 "PooledInlawsModel" "to" "I" ∈ zBT := zBT_in (by decide +kernel) (by decide +kernel)
theorem wf_M_203 : Cond.fieldLink "PooledInlawsModel" 203 "PooledInlawsModel" "from" "I" ∈ zBT := zBT_in (by decide +kernel) (by decide +kernel)
theorem wm_M_206 : Cond.methodLink "PooledInlawsModel" 206 yX5_byteAt ∈ zBT := zBT_in (by decide +kernel) (by decide +kernel)
theorem wq_M_byteAt : Cond.instanceMethod yX5_byteAt ∈ zBT := zBT_in (by decide +kernel) (by decide +kernel)
theorem ww_M_byteAt : Cond.selects "PooledInlawsModel" yX5_byteAt yX5_byteAt ∈ zBT := zBT_in (by decide +kernel) (by decide +kernel)
theorem wm_M_209 : Cond.methodLink "PooledInlawsModel" 209 yX5_isLetter ∈ zBT := zBT_in (by decide +kernel) (by decide +kernel)
theorem wq_M_isLetter : Cond.static yX5_isLetter ∈ zBT := zBT_in (by decide +kernel) (by decide +kernel)
theorem wm_M_212 : Cond.methodLink "PooledInlawsModel" 212 yX5_isDigit ∈ zBT := zBT_in (by decide +kernel) (by decide +kernel)
theorem wq_M_isDigit : Cond.static yX5_isDigit ∈ zBT := zBT_in (by decide +kernel) (by decide +kernel)
theorem wf_M_215 : Cond.fieldLink "PooledInlawsModel" 215 "PooledInlawsModel" "isWrong" "Z" ∈ zBT := zBT_in (by decide +kernel) (by decide +kernel)
theorem wm_M_219 : Cond.methodLink "PooledInlawsModel" 219 yX5_token ∈ zBT := zBT_in (by decide +kernel) (by decide +kernel)
theorem wq_M_token : Cond.instanceMethod yX5_token ∈ zBT := zBT_in (by decide +kernel) (by decide +kernel)
theorem ww_M_token : Cond.selects "PooledInlawsModel" yX5_token yX5_token ∈ zBT := zBT_in (by decide +kernel) (by decide +kernel)
theorem wc_M_222 : Cond.constantLong "PooledInlawsModel" 222 (36028797018963967) ∈ zBT := zBT_in (by decide +kernel) (by decide +kernel)
theorem wc_M_224 : Cond.constantLong "PooledInlawsModel" 224 (32) ∈ zBT := zBT_in (by decide +kernel) (by decide +kernel)
theorem wf_M_226 : Cond.fieldLink "PooledInlawsModel" 226 "PooledInlawsModel" "value" "I" ∈ zBT := zBT_in (by decide +kernel) (by decide +kernel)
theorem wm_M_229 : Cond.methodLink "PooledInlawsModel" 229 yX5_must ∈ zBT := zBT_in (by decide +kernel) (by decide +kernel)
theorem wq_M_must : Cond.instanceMethod yX5_must ∈ zBT := zBT_in (by decide +kernel) (by decide +kernel)
theorem ww_M_must : Cond.selects "PooledInlawsModel" yX5_must yX5_must ∈ zBT := zBT_in (by decide +kernel) (by decide +kernel)
theorem wm_M_233 : Cond.methodLink "PooledInlawsModel" 233 yX5_word ∈ zBT := zBT_in (by decide +kernel) (by decide +kernel)
theorem wq_M_word : Cond.instanceMethod yX5_word ∈ zBT := zBT_in (by decide +kernel) (by decide +kernel)
theorem ww_M_word : Cond.selects "PooledInlawsModel" yX5_word yX5_word ∈ zBT := zBT_in (by decide +kernel) (by decide +kernel)
theorem wc_M_237 : Cond.constantLong "PooledInlawsModel" 237 (9908279) ∈ zBT := zBT_in (by decide +kernel) (by decide +kernel)
theorem wc_M_239 : Cond.constantLong "PooledInlawsModel" 239 (452599986) ∈ zBT := zBT_in (by decide +kernel) (by decide +kernel)
theorem wc_M_241 : Cond.constantLong "PooledInlawsModel" 241 (203038898) ∈ zBT := zBT_in (by decide +kernel) (by decide +kernel)
theorem wc_M_243 : Cond.constantLong "PooledInlawsModel" 243 (22482309) ∈ zBT := zBT_in (by decide +kernel) (by decide +kernel)
theorem wc_M_245 : Cond.constantLong "PooledInlawsModel" 245 (672747570) ∈ zBT := zBT_in (by decide +kernel) (by decide +kernel)
theorem wc_M_247 : Cond.constantLong "PooledInlawsModel" 247 (2556021938) ∈ zBT := zBT_in (by decide +kernel) (by decide +kernel)
theorem wc_M_249 : Cond.constantLong "PooledInlawsModel" 249 (755277) ∈ zBT := zBT_in (by decide +kernel) (by decide +kernel)
theorem wm_M_251 : Cond.methodLink "PooledInlawsModel" 251 yX5_number ∈ zBT := zBT_in (by decide +kernel) (by decide +kernel)
theorem wq_M_number : Cond.instanceMethod yX5_number ∈ zBT := zBT_in (by decide +kernel) (by decide +kernel)
theorem ww_M_number : Cond.selects "PooledInlawsModel" yX5_number yX5_number ∈ zBT := zBT_in (by decide +kernel) (by decide +kernel)
theorem wc_M_254 : Cond.constantLong "PooledInlawsModel" 254 (19508) ∈ zBT := zBT_in (by decide +kernel) (by decide +kernel)
theorem wc_M_256 : Cond.constantLong "PooledInlawsModel" 256 (8228) ∈ zBT := zBT_in (by decide +kernel) (by decide +kernel)
theorem wm_M_258 : Cond.methodLink "PooledInlawsModel" 258 yX5_kindHere ∈ zBT := zBT_in (by decide +kernel) (by decide +kernel)
theorem wq_M_kindHere : Cond.instanceMethod yX5_kindHere ∈ zBT := zBT_in (by decide +kernel) (by decide +kernel)
theorem ww_M_kindHere : Cond.selects "PooledInlawsModel" yX5_kindHere yX5_kindHere ∈ zBT := zBT_in (by decide +kernel) (by decide +kernel)
theorem wm_M_261 : Cond.methodLink "PooledInlawsModel" 261 yX5_inlawItem ∈ zBT := zBT_in (by decide +kernel) (by decide +kernel)
theorem wq_M_inlawItem : Cond.instanceMethod yX5_inlawItem ∈ zBT := zBT_in (by decide +kernel) (by decide +kernel)
theorem ww_M_inlawItem : Cond.selects "PooledInlawsModel" yX5_inlawItem yX5_inlawItem ∈ zBT := zBT_in (by decide +kernel) (by decide +kernel)
theorem wc_M_264 : Cond.constantLong "PooledInlawsModel" 264 (117096837) ∈ zBT := zBT_in (by decide +kernel) (by decide +kernel)
theorem wm_M_266 : Cond.methodLink "PooledInlawsModel" 266 yX5_coupleItem ∈ zBT := zBT_in (by decide +kernel) (by decide +kernel)
theorem wq_M_coupleItem : Cond.instanceMethod yX5_coupleItem ∈ zBT := zBT_in (by decide +kernel) (by decide +kernel)
theorem ww_M_coupleItem : Cond.selects "PooledInlawsModel" yX5_coupleItem yX5_coupleItem ∈ zBT := zBT_in (by decide +kernel) (by decide +kernel)
theorem wc_M_269 : Cond.constantLong "PooledInlawsModel" 269 (206405) ∈ zBT := zBT_in (by decide +kernel) (by decide +kernel)
theorem wm_M_271 : Cond.methodLink "PooledInlawsModel" 271 yX5_fireItem ∈ zBT := zBT_in (by decide +kernel) (by decide +kernel)
theorem wq_M_fireItem : Cond.instanceMethod yX5_fireItem ∈ zBT := zBT_in (by decide +kernel) (by decide +kernel)
theorem ww_M_fireItem : Cond.selects "PooledInlawsModel" yX5_fireItem yX5_fireItem ∈ zBT := zBT_in (by decide +kernel) (by decide +kernel)
theorem wc_M_274 : Cond.constantLong "PooledInlawsModel" 274 (19764) ∈ zBT := zBT_in (by decide +kernel) (by decide +kernel)
theorem wm_M_276 : Cond.methodLink "PooledInlawsModel" 276 yX5_sitItem ∈ zBT := zBT_in (by decide +kernel) (by decide +kernel)
theorem wq_M_sitItem : Cond.instanceMethod yX5_sitItem ∈ zBT := zBT_in (by decide +kernel) (by decide +kernel)
theorem ww_M_sitItem : Cond.selects "PooledInlawsModel" yX5_sitItem yX5_sitItem ∈ zBT := zBT_in (by decide +kernel) (by decide +kernel)
theorem wm_M_279 : Cond.methodLink "PooledInlawsModel" 279 yX5_saves ∈ zBT := zBT_in (by decide +kernel) (by decide +kernel)
theorem wq_M_saves : Cond.instanceMethod yX5_saves ∈ zBT := zBT_in (by decide +kernel) (by decide +kernel)
theorem ww_M_saves : Cond.selects "PooledInlawsModel" yX5_saves yX5_saves ∈ zBT := zBT_in (by decide +kernel) (by decide +kernel)
theorem wm_M_282 : Cond.methodLink "PooledInlawsModel" 282 yX5_item ∈ zBT := zBT_in (by decide +kernel) (by decide +kernel)
theorem wq_M_item : Cond.instanceMethod yX5_item ∈ zBT := zBT_in (by decide +kernel) (by decide +kernel)
theorem ww_M_item : Cond.selects "PooledInlawsModel" yX5_item yX5_item ∈ zBT := zBT_in (by decide +kernel) (by decide +kernel)
theorem wm_M_285 : Cond.methodLink "PooledInlawsModel" 285 yX5_putsBack ∈ zBT := zBT_in (by decide +kernel) (by decide +kernel)
theorem wq_M_putsBack : Cond.instanceMethod yX5_putsBack ∈ zBT := zBT_in (by decide +kernel) (by decide +kernel)
theorem ww_M_putsBack : Cond.selects "PooledInlawsModel" yX5_putsBack yX5_putsBack ∈ zBT := zBT_in (by decide +kernel) (by decide +kernel)
theorem wm_M_288 : Cond.methodLink "PooledInlawsModel" 288 yX5_isOne ∈ zBT := zBT_in (by decide +kernel) (by decide +kernel)
theorem wq_M_isOne : Cond.static yX5_isOne ∈ zBT := zBT_in (by decide +kernel) (by decide +kernel)
theorem wc_M_291 : Cond.constant "PooledInlawsModel" 291 (-1000000007) ∈ zBT := zBT_in (by decide +kernel) (by decide +kernel)
theorem wc_M_292 : Cond.constant "PooledInlawsModel" 292 (-1000000006) ∈ zBT := zBT_in (by decide +kernel) (by decide +kernel)
theorem wm_M_293 : Cond.methodLink "PooledInlawsModel" 293 yX5_wrongSheet ∈ zBT := zBT_in (by decide +kernel) (by decide +kernel)
theorem wq_M_wrongSheet : Cond.instanceMethod yX5_wrongSheet ∈ zBT := zBT_in (by decide +kernel) (by decide +kernel)
theorem ww_M_wrongSheet : Cond.selects "PooledInlawsModel" yX5_wrongSheet yX5_wrongSheet ∈ zBT := zBT_in (by decide +kernel) (by decide +kernel)
theorem wm_M_296 : Cond.methodLink "PooledInlawsModel" 296 yX5_narrowed ∈ zBT := zBT_in (by decide +kernel) (by decide +kernel)
theorem wq_M_narrowed : Cond.static yX5_narrowed ∈ zBT := zBT_in (by decide +kernel) (by decide +kernel)
theorem wm_M_300 : Cond.methodLink "PooledInlawsModel" 300 yX5_isBook ∈ zBT := zBT_in (by decide +kernel) (by decide +kernel)
theorem wq_M_isBook : Cond.instanceMethod yX5_isBook ∈ zBT := zBT_in (by decide +kernel) (by decide +kernel)
theorem ww_M_isBook : Cond.selects "PooledInlawsModel" yX5_isBook yX5_isBook ∈ zBT := zBT_in (by decide +kernel) (by decide +kernel)
theorem wf_M_303 : Cond.fieldLink "PooledInlawsModel" 303 "PooledInlawsModel" "isKept" "Z" ∈ zBT := zBT_in (by decide +kernel) (by decide +kernel)
theorem wc_M_306 : Cond.constantLong "PooledInlawsModel" 306 (6) ∈ zBT := zBT_in (by decide +kernel) (by decide +kernel)
end
section
/-! WHAT A CALL WANTS of the tables, a method (by program) -/
theorem mk_J_fill : zMok 6 2 := ⟨zBT_in (by decide +kernel) (by decide +kernel), zBT_in (by decide +kernel) (by decide +kernel), ⟨by decide +kernel, by decide +kernel⟩, by decide +kernel⟩
theorem mk_H_sum : zMok 30 2 := ⟨zBT_in (by decide +kernel) (by decide +kernel), zBT_in (by decide +kernel) (by decide +kernel), ⟨by decide +kernel, by decide +kernel⟩, by decide +kernel⟩
theorem mk_K_charms : zMok 2 5 := ⟨zBT_in (by decide +kernel) (by decide +kernel), zBT_in (by decide +kernel) (by decide +kernel), ⟨by decide +kernel, by decide +kernel⟩, by decide +kernel⟩
theorem mk_K_does : zMok 3 4 := ⟨zBT_in (by decide +kernel) (by decide +kernel), zBT_in (by decide +kernel) (by decide +kernel), ⟨by decide +kernel, by decide +kernel⟩, by decide +kernel⟩
theorem mk_K_thaws : zMok 4 2 := ⟨zBT_in (by decide +kernel) (by decide +kernel), zBT_in (by decide +kernel) (by decide +kernel), ⟨by decide +kernel, by decide +kernel⟩, by decide +kernel⟩
theorem mk_K_chills : zMok 5 2 := ⟨zBT_in (by decide +kernel) (by decide +kernel), zBT_in (by decide +kernel) (by decide +kernel), ⟨by decide +kernel, by decide +kernel⟩, by decide +kernel⟩
theorem mk_H_goOneSunday : zMok 26 0 := ⟨zBT_in (by decide +kernel) (by decide +kernel), zBT_in (by decide +kernel) (by decide +kernel), ⟨by decide +kernel, by decide +kernel⟩, by decide +kernel⟩
theorem mk_H_firstCouple : zMok 16 0 := ⟨zBT_in (by decide +kernel) (by decide +kernel), zBT_in (by decide +kernel) (by decide +kernel), ⟨by decide +kernel, by decide +kernel⟩, by decide +kernel⟩
theorem mk_H_receive : zMok 27 1 := ⟨zBT_in (by decide +kernel) (by decide +kernel), zBT_in (by decide +kernel) (by decide +kernel), ⟨by decide +kernel, by decide +kernel⟩, by decide +kernel⟩
theorem mk_H_isFree : zMok 29 1 := ⟨zBT_in (by decide +kernel) (by decide +kernel), zBT_in (by decide +kernel) (by decide +kernel), ⟨by decide +kernel, by decide +kernel⟩, by decide +kernel⟩
theorem mk_H_chillsOf : zMok 24 1 := ⟨zBT_in (by decide +kernel) (by decide +kernel), zBT_in (by decide +kernel) (by decide +kernel), ⟨by decide +kernel, by decide +kernel⟩, by decide +kernel⟩
theorem mk_H_hold : zMok 31 3 := ⟨zBT_in (by decide +kernel) (by decide +kernel), zBT_in (by decide +kernel) (by decide +kernel), ⟨by decide +kernel, by decide +kernel⟩, by decide +kernel⟩
theorem mk_H_chosenBy : zMok 28 1 := ⟨zBT_in (by decide +kernel) (by decide +kernel), zBT_in (by decide +kernel) (by decide +kernel), ⟨by decide +kernel, by decide +kernel⟩, by decide +kernel⟩
theorem mk_H_doesOf : zMok 22 2 := ⟨zBT_in (by decide +kernel) (by decide +kernel), zBT_in (by decide +kernel) (by decide +kernel), ⟨by decide +kernel, by decide +kernel⟩, by decide +kernel⟩
theorem mk_H_thawsOf : zMok 23 2 := ⟨zBT_in (by decide +kernel) (by decide +kernel), zBT_in (by decide +kernel) (by decide +kernel), ⟨by decide +kernel, by decide +kernel⟩, by decide +kernel⟩
theorem mk_H_charmsOf : zMok 21 2 := ⟨zBT_in (by decide +kernel) (by decide +kernel), zBT_in (by decide +kernel) (by decide +kernel), ⟨by decide +kernel, by decide +kernel⟩, by decide +kernel⟩
theorem mk_T_advance : zMok 39 0 := ⟨zBT_in (by decide +kernel) (by decide +kernel), zBT_in (by decide +kernel) (by decide +kernel), ⟨by decide +kernel, by decide +kernel⟩, by decide +kernel⟩
theorem mk_T_tellItem : zMok 34 1 := ⟨zBT_in (by decide +kernel) (by decide +kernel), zBT_in (by decide +kernel) (by decide +kernel), ⟨by decide +kernel, by decide +kernel⟩, by decide +kernel⟩
theorem mk_K_nameOf : zMok 1 1 := ⟨zBT_in (by decide +kernel) (by decide +kernel), zBT_in (by decide +kernel) (by decide +kernel), ⟨by decide +kernel, by decide +kernel⟩, by decide +kernel⟩
theorem mk_T_isWord : zMok 42 1 := ⟨zBT_in (by decide +kernel) (by decide +kernel), zBT_in (by decide +kernel) (by decide +kernel), ⟨by decide +kernel, by decide +kernel⟩, by decide +kernel⟩
theorem mk_T_tellInlaw : zMok 35 2 := ⟨zBT_in (by decide +kernel) (by decide +kernel), zBT_in (by decide +kernel) (by decide +kernel), ⟨by decide +kernel, by decide +kernel⟩, by decide +kernel⟩
theorem mk_T_tellCouple : zMok 36 1 := ⟨zBT_in (by decide +kernel) (by decide +kernel), zBT_in (by decide +kernel) (by decide +kernel), ⟨by decide +kernel, by decide +kernel⟩, by decide +kernel⟩
theorem mk_T_tellFire : zMok 37 1 := ⟨zBT_in (by decide +kernel) (by decide +kernel), zBT_in (by decide +kernel) (by decide +kernel), ⟨by decide +kernel, by decide +kernel⟩, by decide +kernel⟩
theorem mk_T_tellSit : zMok 38 1 := ⟨zBT_in (by decide +kernel) (by decide +kernel), zBT_in (by decide +kernel) (by decide +kernel), ⟨by decide +kernel, by decide +kernel⟩, by decide +kernel⟩
theorem mk_H_addInlaw : zMok 14 1 := ⟨zBT_in (by decide +kernel) (by decide +kernel), zBT_in (by decide +kernel) (by decide +kernel), ⟨by decide +kernel, by decide +kernel⟩, by decide +kernel⟩
theorem mk_T_isNumberTo : zMok 43 1 := ⟨zBT_in (by decide +kernel) (by decide +kernel), zBT_in (by decide +kernel) (by decide +kernel), ⟨by decide +kernel, by decide +kernel⟩, by decide +kernel⟩
theorem mk_H_addCouple : zMok 15 1 := ⟨zBT_in (by decide +kernel) (by decide +kernel), zBT_in (by decide +kernel) (by decide +kernel), ⟨by decide +kernel, by decide +kernel⟩, by decide +kernel⟩
theorem mk_T_isLetter : zMok 44 1 := ⟨zBT_in (by decide +kernel) (by decide +kernel), zBT_in (by decide +kernel) (by decide +kernel), ⟨by decide +kernel, by decide +kernel⟩, by decide +kernel⟩
theorem mk_T_takeWord : zMok 40 0 := ⟨zBT_in (by decide +kernel) (by decide +kernel), zBT_in (by decide +kernel) (by decide +kernel), ⟨by decide +kernel, by decide +kernel⟩, by decide +kernel⟩
theorem mk_T_isDigit : zMok 45 1 := ⟨zBT_in (by decide +kernel) (by decide +kernel), zBT_in (by decide +kernel) (by decide +kernel), ⟨by decide +kernel, by decide +kernel⟩, by decide +kernel⟩
theorem mk_T_takeNumber : zMok 41 0 := ⟨zBT_in (by decide +kernel) (by decide +kernel), zBT_in (by decide +kernel) (by decide +kernel), ⟨by decide +kernel, by decide +kernel⟩, by decide +kernel⟩
theorem mk_H_init : zMok 12 0 := ⟨zBT_in (by decide +kernel) (by decide +kernel), zBT_in (by decide +kernel) (by decide +kernel), ⟨by decide +kernel, by decide +kernel⟩, by decide +kernel⟩
theorem mk_T_init : zMok 32 0 := ⟨zBT_in (by decide +kernel) (by decide +kernel), zBT_in (by decide +kernel) (by decide +kernel), ⟨by decide +kernel, by decide +kernel⟩, by decide +kernel⟩
theorem mk_S_init : zMok 7 0 := ⟨zBT_in (by decide +kernel) (by decide +kernel), zBT_in (by decide +kernel) (by decide +kernel), ⟨by decide +kernel, by decide +kernel⟩, by decide +kernel⟩
theorem mk_X_isOutside : zMok 91 3 := ⟨zBT_in (by decide +kernel) (by decide +kernel), zBT_in (by decide +kernel) (by decide +kernel), ⟨by decide +kernel, by decide +kernel⟩, by decide +kernel⟩
theorem mk_X_tell : zMok 84 1 := ⟨zBT_in (by decide +kernel) (by decide +kernel), zBT_in (by decide +kernel) (by decide +kernel), ⟨by decide +kernel, by decide +kernel⟩, by decide +kernel⟩
theorem mk_H_satOnes : zMok 17 0 := ⟨zBT_in (by decide +kernel) (by decide +kernel), zBT_in (by decide +kernel) (by decide +kernel), ⟨by decide +kernel, by decide +kernel⟩, by decide +kernel⟩
theorem mk_H_wellOfAll : zMok 18 0 := ⟨zBT_in (by decide +kernel) (by decide +kernel), zBT_in (by decide +kernel) (by decide +kernel), ⟨by decide +kernel, by decide +kernel⟩, by decide +kernel⟩
theorem mk_H_warmOfAll : zMok 19 0 := ⟨zBT_in (by decide +kernel) (by decide +kernel), zBT_in (by decide +kernel) (by decide +kernel), ⟨by decide +kernel, by decide +kernel⟩, by decide +kernel⟩
theorem mk_X_isNoKind : zMok 89 1 := ⟨zBT_in (by decide +kernel) (by decide +kernel), zBT_in (by decide +kernel) (by decide +kernel), ⟨by decide +kernel, by decide +kernel⟩, by decide +kernel⟩
theorem mk_X_isNoInlaw : zMok 87 1 := ⟨zBT_in (by decide +kernel) (by decide +kernel), zBT_in (by decide +kernel) (by decide +kernel), ⟨by decide +kernel, by decide +kernel⟩, by decide +kernel⟩
theorem mk_X_isNoCouple : zMok 88 1 := ⟨zBT_in (by decide +kernel) (by decide +kernel), zBT_in (by decide +kernel) (by decide +kernel), ⟨by decide +kernel, by decide +kernel⟩, by decide +kernel⟩
theorem mk_X_put : zMok 85 5 := ⟨zBT_in (by decide +kernel) (by decide +kernel), zBT_in (by decide +kernel) (by decide +kernel), ⟨by decide +kernel, by decide +kernel⟩, by decide +kernel⟩
theorem mk_K_isUnder : zMok 0 2 := ⟨zBT_in (by decide +kernel) (by decide +kernel), zBT_in (by decide +kernel) (by decide +kernel), ⟨by decide +kernel, by decide +kernel⟩, by decide +kernel⟩
theorem mk_H_become : zMok 13 1 := ⟨zBT_in (by decide +kernel) (by decide +kernel), zBT_in (by decide +kernel) (by decide +kernel), ⟨by decide +kernel, by decide +kernel⟩, by decide +kernel⟩
theorem mk_H_goSundays : zMok 25 1 := ⟨zBT_in (by decide +kernel) (by decide +kernel), zBT_in (by decide +kernel) (by decide +kernel), ⟨by decide +kernel, by decide +kernel⟩, by decide +kernel⟩
theorem mk_T_tellTo : zMok 33 1 := ⟨zBT_in (by decide +kernel) (by decide +kernel), zBT_in (by decide +kernel) (by decide +kernel), ⟨by decide +kernel, by decide +kernel⟩, by decide +kernel⟩
theorem mk_X_isNoSheet : zMok 90 1 := ⟨zBT_in (by decide +kernel) (by decide +kernel), zBT_in (by decide +kernel) (by decide +kernel), ⟨by decide +kernel, by decide +kernel⟩, by decide +kernel⟩
theorem mk_S_lay : zMok 9 2 := ⟨zBT_in (by decide +kernel) (by decide +kernel), zBT_in (by decide +kernel) (by decide +kernel), ⟨by decide +kernel, by decide +kernel⟩, by decide +kernel⟩
theorem mk_S_isMissing : zMok 8 0 := ⟨zBT_in (by decide +kernel) (by decide +kernel), zBT_in (by decide +kernel) (by decide +kernel), ⟨by decide +kernel, by decide +kernel⟩, by decide +kernel⟩
theorem mk_S_put : zMok 10 2 := ⟨zBT_in (by decide +kernel) (by decide +kernel), zBT_in (by decide +kernel) (by decide +kernel), ⟨by decide +kernel, by decide +kernel⟩, by decide +kernel⟩
theorem mk_S_hasRun : zMok 11 2 := ⟨zBT_in (by decide +kernel) (by decide +kernel), zBT_in (by decide +kernel) (by decide +kernel), ⟨by decide +kernel, by decide +kernel⟩, by decide +kernel⟩
theorem mk_X_goesAsBooked : zMok 86 2 := ⟨zBT_in (by decide +kernel) (by decide +kernel), zBT_in (by decide +kernel) (by decide +kernel), ⟨by decide +kernel, by decide +kernel⟩, by decide +kernel⟩
theorem mk_H_hadOfAll : zMok 20 0 := ⟨zBT_in (by decide +kernel) (by decide +kernel), zBT_in (by decide +kernel) (by decide +kernel), ⟨by decide +kernel, by decide +kernel⟩, by decide +kernel⟩
theorem mk_M_spot : zMok 100 2 := ⟨zBT_in (by decide +kernel) (by decide +kernel), zBT_in (by decide +kernel) (by decide +kernel), ⟨by decide +kernel, by decide +kernel⟩, by decide +kernel⟩
theorem mk_M_coupleSpot : zMok 101 2 := ⟨zBT_in (by decide +kernel) (by decide +kernel), zBT_in (by decide +kernel) (by decide +kernel), ⟨by decide +kernel, by decide +kernel⟩, by decide +kernel⟩
theorem mk_M_in : zMok 93 3 := ⟨zBT_in (by decide +kernel) (by decide +kernel), zBT_in (by decide +kernel) (by decide +kernel), ⟨by decide +kernel, by decide +kernel⟩, by decide +kernel⟩
theorem mk_M_its : zMok 102 2 := ⟨zBT_in (by decide +kernel) (by decide +kernel), zBT_in (by decide +kernel) (by decide +kernel), ⟨by decide +kernel, by decide +kernel⟩, by decide +kernel⟩
theorem mk_M_theirs : zMok 103 2 := ⟨zBT_in (by decide +kernel) (by decide +kernel), zBT_in (by decide +kernel) (by decide +kernel), ⟨by decide +kernel, by decide +kernel⟩, by decide +kernel⟩
theorem mk_M_becomes : zMok 99 2 := ⟨zBT_in (by decide +kernel) (by decide +kernel), zBT_in (by decide +kernel) (by decide +kernel), ⟨by decide +kernel, by decide +kernel⟩, by decide +kernel⟩
theorem mk_M_finds : zMok 94 1 := ⟨zBT_in (by decide +kernel) (by decide +kernel), zBT_in (by decide +kernel) (by decide +kernel), ⟨by decide +kernel, by decide +kernel⟩, by decide +kernel⟩
theorem mk_M_firstCouple : zMok 111 0 := ⟨zBT_in (by decide +kernel) (by decide +kernel), zBT_in (by decide +kernel) (by decide +kernel), ⟨by decide +kernel, by decide +kernel⟩, by decide +kernel⟩
theorem mk_M_satOn : zMok 112 0 := ⟨zBT_in (by decide +kernel) (by decide +kernel), zBT_in (by decide +kernel) (by decide +kernel), ⟨by decide +kernel, by decide +kernel⟩, by decide +kernel⟩
theorem mk_M_wells : zMok 109 0 := ⟨zBT_in (by decide +kernel) (by decide +kernel), zBT_in (by decide +kernel) (by decide +kernel), ⟨by decide +kernel, by decide +kernel⟩, by decide +kernel⟩
theorem mk_M_together : zMok 108 1 := ⟨zBT_in (by decide +kernel) (by decide +kernel), zBT_in (by decide +kernel) (by decide +kernel), ⟨by decide +kernel, by decide +kernel⟩, by decide +kernel⟩
theorem mk_M_isKind : zMok 106 1 := ⟨zBT_in (by decide +kernel) (by decide +kernel), zBT_in (by decide +kernel) (by decide +kernel), ⟨by decide +kernel, by decide +kernel⟩, by decide +kernel⟩
theorem mk_M_addsInlaw : zMok 118 1 := ⟨zBT_in (by decide +kernel) (by decide +kernel), zBT_in (by decide +kernel) (by decide +kernel), ⟨by decide +kernel, by decide +kernel⟩, by decide +kernel⟩
theorem mk_M_isInlaw : zMok 104 1 := ⟨zBT_in (by decide +kernel) (by decide +kernel), zBT_in (by decide +kernel) (by decide +kernel), ⟨by decide +kernel, by decide +kernel⟩, by decide +kernel⟩
theorem mk_M_chills : zMok 117 1 := ⟨zBT_in (by decide +kernel) (by decide +kernel), zBT_in (by decide +kernel) (by decide +kernel), ⟨by decide +kernel, by decide +kernel⟩, by decide +kernel⟩
theorem mk_M_isCouple : zMok 105 1 := ⟨zBT_in (by decide +kernel) (by decide +kernel), zBT_in (by decide +kernel) (by decide +kernel), ⟨by decide +kernel, by decide +kernel⟩, by decide +kernel⟩
theorem mk_M_charms : zMok 114 2 := ⟨zBT_in (by decide +kernel) (by decide +kernel), zBT_in (by decide +kernel) (by decide +kernel), ⟨by decide +kernel, by decide +kernel⟩, by decide +kernel⟩
theorem mk_M_does : zMok 115 2 := ⟨zBT_in (by decide +kernel) (by decide +kernel), zBT_in (by decide +kernel) (by decide +kernel), ⟨by decide +kernel, by decide +kernel⟩, by decide +kernel⟩
theorem mk_M_thaws : zMok 116 2 := ⟨zBT_in (by decide +kernel) (by decide +kernel), zBT_in (by decide +kernel) (by decide +kernel), ⟨by decide +kernel, by decide +kernel⟩, by decide +kernel⟩
theorem mk_M_isUnder : zMok 124 2 := ⟨zBT_in (by decide +kernel) (by decide +kernel), zBT_in (by decide +kernel) (by decide +kernel), ⟨by decide +kernel, by decide +kernel⟩, by decide +kernel⟩
theorem mk_M_addsCouple : zMok 126 1 := ⟨zBT_in (by decide +kernel) (by decide +kernel), zBT_in (by decide +kernel) (by decide +kernel), ⟨by decide +kernel, by decide +kernel⟩, by decide +kernel⟩
theorem mk_M_laysAside : zMok 97 0 := ⟨zBT_in (by decide +kernel) (by decide +kernel), zBT_in (by decide +kernel) (by decide +kernel), ⟨by decide +kernel, by decide +kernel⟩, by decide +kernel⟩
theorem mk_M_sunday : zMok 134 0 := ⟨zBT_in (by decide +kernel) (by decide +kernel), zBT_in (by decide +kernel) (by decide +kernel), ⟨by decide +kernel, by decide +kernel⟩, by decide +kernel⟩
theorem mk_M_takesBack : zMok 98 1 := ⟨zBT_in (by decide +kernel) (by decide +kernel), zBT_in (by decide +kernel) (by decide +kernel), ⟨by decide +kernel, by decide +kernel⟩, by decide +kernel⟩
theorem mk_M_hasNow : zMok 128 1 := ⟨zBT_in (by decide +kernel) (by decide +kernel), zBT_in (by decide +kernel) (by decide +kernel), ⟨by decide +kernel, by decide +kernel⟩, by decide +kernel⟩
theorem mk_M_held : zMok 107 3 := ⟨zBT_in (by decide +kernel) (by decide +kernel), zBT_in (by decide +kernel) (by decide +kernel), ⟨by decide +kernel, by decide +kernel⟩, by decide +kernel⟩
theorem mk_M_charmer : zMok 131 2 := ⟨zBT_in (by decide +kernel) (by decide +kernel), zBT_in (by decide +kernel) (by decide +kernel), ⟨by decide +kernel, by decide +kernel⟩, by decide +kernel⟩
theorem mk_M_has : zMok 132 2 := ⟨zBT_in (by decide +kernel) (by decide +kernel), zBT_in (by decide +kernel) (by decide +kernel), ⟨by decide +kernel, by decide +kernel⟩, by decide +kernel⟩
theorem mk_M_isAlone : zMok 133 1 := ⟨zBT_in (by decide +kernel) (by decide +kernel), zBT_in (by decide +kernel) (by decide +kernel), ⟨by decide +kernel, by decide +kernel⟩, by decide +kernel⟩
theorem mk_M_sundaysGo : zMok 135 1 := ⟨zBT_in (by decide +kernel) (by decide +kernel), zBT_in (by decide +kernel) (by decide +kernel), ⟨by decide +kernel, by decide +kernel⟩, by decide +kernel⟩
theorem mk_M_isAhead : zMok 137 1 := ⟨zBT_in (by decide +kernel) (by decide +kernel), zBT_in (by decide +kernel) (by decide +kernel), ⟨by decide +kernel, by decide +kernel⟩, by decide +kernel⟩
theorem mk_M_behind : zMok 138 2 := ⟨zBT_in (by decide +kernel) (by decide +kernel), zBT_in (by decide +kernel) (by decide +kernel), ⟨by decide +kernel, by decide +kernel⟩, by decide +kernel⟩
theorem mk_M_isSoon : zMok 144 1 := ⟨zBT_in (by decide +kernel) (by decide +kernel), zBT_in (by decide +kernel) (by decide +kernel), ⟨by decide +kernel, by decide +kernel⟩, by decide +kernel⟩
theorem mk_M_mostBy : zMok 145 4 := ⟨zBT_in (by decide +kernel) (by decide +kernel), zBT_in (by decide +kernel) (by decide +kernel), ⟨by decide +kernel, by decide +kernel⟩, by decide +kernel⟩
theorem mk_M_byteAt : zMok 154 1 := ⟨zBT_in (by decide +kernel) (by decide +kernel), zBT_in (by decide +kernel) (by decide +kernel), ⟨by decide +kernel, by decide +kernel⟩, by decide +kernel⟩
theorem mk_M_isLetter : zMok 155 1 := ⟨zBT_in (by decide +kernel) (by decide +kernel), zBT_in (by decide +kernel) (by decide +kernel), ⟨by decide +kernel, by decide +kernel⟩, by decide +kernel⟩
theorem mk_M_isDigit : zMok 156 1 := ⟨zBT_in (by decide +kernel) (by decide +kernel), zBT_in (by decide +kernel) (by decide +kernel), ⟨by decide +kernel, by decide +kernel⟩, by decide +kernel⟩
theorem mk_M_token : zMok 157 0 := ⟨zBT_in (by decide +kernel) (by decide +kernel), zBT_in (by decide +kernel) (by decide +kernel), ⟨by decide +kernel, by decide +kernel⟩, by decide +kernel⟩
theorem mk_M_must : zMok 158 1 := ⟨zBT_in (by decide +kernel) (by decide +kernel), zBT_in (by decide +kernel) (by decide +kernel), ⟨by decide +kernel, by decide +kernel⟩, by decide +kernel⟩
theorem mk_M_word : zMok 159 0 := ⟨zBT_in (by decide +kernel) (by decide +kernel), zBT_in (by decide +kernel) (by decide +kernel), ⟨by decide +kernel, by decide +kernel⟩, by decide +kernel⟩
theorem mk_M_number : zMok 160 2 := ⟨zBT_in (by decide +kernel) (by decide +kernel), zBT_in (by decide +kernel) (by decide +kernel), ⟨by decide +kernel, by decide +kernel⟩, by decide +kernel⟩
theorem mk_M_kindHere : zMok 161 0 := ⟨zBT_in (by decide +kernel) (by decide +kernel), zBT_in (by decide +kernel) (by decide +kernel), ⟨by decide +kernel, by decide +kernel⟩, by decide +kernel⟩
theorem mk_M_inlawItem : zMok 162 1 := ⟨zBT_in (by decide +kernel) (by decide +kernel), zBT_in (by decide +kernel) (by decide +kernel), ⟨by decide +kernel, by decide +kernel⟩, by decide +kernel⟩
theorem mk_M_coupleItem : zMok 163 0 := ⟨zBT_in (by decide +kernel) (by decide +kernel), zBT_in (by decide +kernel) (by decide +kernel), ⟨by decide +kernel, by decide +kernel⟩, by decide +kernel⟩
theorem mk_M_fireItem : zMok 164 0 := ⟨zBT_in (by decide +kernel) (by decide +kernel), zBT_in (by decide +kernel) (by decide +kernel), ⟨by decide +kernel, by decide +kernel⟩, by decide +kernel⟩
theorem mk_M_sitItem : zMok 165 0 := ⟨zBT_in (by decide +kernel) (by decide +kernel), zBT_in (by decide +kernel) (by decide +kernel), ⟨by decide +kernel, by decide +kernel⟩, by decide +kernel⟩
theorem mk_M_saves : zMok 95 0 := ⟨zBT_in (by decide +kernel) (by decide +kernel), zBT_in (by decide +kernel) (by decide +kernel), ⟨by decide +kernel, by decide +kernel⟩, by decide +kernel⟩
theorem mk_M_item : zMok 166 0 := ⟨zBT_in (by decide +kernel) (by decide +kernel), zBT_in (by decide +kernel) (by decide +kernel), ⟨by decide +kernel, by decide +kernel⟩, by decide +kernel⟩
theorem mk_M_putsBack : zMok 96 0 := ⟨zBT_in (by decide +kernel) (by decide +kernel), zBT_in (by decide +kernel) (by decide +kernel), ⟨by decide +kernel, by decide +kernel⟩, by decide +kernel⟩
theorem mk_M_isOne : zMok 168 1 := ⟨zBT_in (by decide +kernel) (by decide +kernel), zBT_in (by decide +kernel) (by decide +kernel), ⟨by decide +kernel, by decide +kernel⟩, by decide +kernel⟩
theorem mk_M_wrongSheet : zMok 171 1 := ⟨zBT_in (by decide +kernel) (by decide +kernel), zBT_in (by decide +kernel) (by decide +kernel), ⟨by decide +kernel, by decide +kernel⟩, by decide +kernel⟩
theorem mk_M_narrowed : zMok 170 2 := ⟨zBT_in (by decide +kernel) (by decide +kernel), zBT_in (by decide +kernel) (by decide +kernel), ⟨by decide +kernel, by decide +kernel⟩, by decide +kernel⟩
theorem mk_M_isBook : zMok 176 2 := ⟨zBT_in (by decide +kernel) (by decide +kernel), zBT_in (by decide +kernel) (by decide +kernel), ⟨by decide +kernel, by decide +kernel⟩, by decide +kernel⟩
end
section
/-! EACH METHOD'S TABLE IS SOUND (by program) -/
set_option maxRecDepth 100000 in
set_option maxHeartbeats 4000000 in
theorem sn_K_isUnder (l : Launch) : zAl l 0 tb_K_isUnder :=
  zal_c (zi_iln (j := 0) (by decide +kernel) rfl rfl) <|
  zal_c (zi_isn (j := 2) (by decide +kernel) rfl rfl (Nat.le_of_ble_eq_true rfl)) <|
  zal_c (zi_iconst (n := 0) (by decide +kernel) rfl rfl) <|
  zal_c (zi_isn (j := 3) (by decide +kernel) rfl rfl (Nat.le_of_ble_eq_true rfl)) <|
  zal_c (zi_iln (j := 3) (by decide +kernel) rfl rfl) <|
  zal_c (zi_bipush (n := 6) (by decide +kernel) rfl rfl) <|
  zal_c (zi_cge (off := 32) (by decide +kernel) rfl rfl) <|
  zal_c (zi_iln (j := 2) (by decide +kernel) rfl rfl) <|
  zal_c (zi_iflt (off := 28) (by decide +kernel) rfl rfl) <|
  zal_c (zi_iln (j := 2) (by decide +kernel) rfl rfl) <|
  zal_c (zi_bipush (n := 6) (by decide +kernel) rfl rfl) <|
  zal_c (zi_cge (off := 22) (by decide +kernel) rfl rfl) <|
  zal_c (zi_iln (j := 2) (by decide +kernel) rfl rfl) <|
  zal_c (zi_iln (j := 1) (by decide +kernel) rfl rfl) <|
  zal_c (zi_cne (off := 5) (by decide +kernel) rfl rfl) <|
  zal_c (zi_iconst (n := 1) (by decide +kernel) rfl rfl) <|
  zal_c (zi_zr (by decide +kernel) rfl) <|
  zal_c (zi_gsab (index := 9) (by decide +kernel) rfl wf_K_9) <|
  zal_c (zi_iln (j := 2) (by decide +kernel) rfl rfl) <|
  zal_c (zi_tld (by decide +kernel) rfl) <|
  zal_c (zi_isn (j := 2) (by decide +kernel) rfl rfl (Nat.le_of_ble_eq_true rfl)) <|
  zal_c (zi_inc (n := 1) (by decide +kernel) rfl rfl) <|
  zal_c (zi_goto (off := -32) (by decide +kernel) rfl) <|
  zal_c (zi_iconst (n := 0) (by decide +kernel) rfl rfl) <|
  zal_c (zi_zr (by decide +kernel) rfl) <|
  zal_n
set_option maxRecDepth 100000 in
set_option maxHeartbeats 4000000 in
theorem sn_K_nameOf (l : Launch) : zAl l 1 tb_K_nameOf :=
  zal_c (zi_iln (j := 0) (by decide +kernel) rfl rfl) <|
  zal_c (zi_sw (dflt := 50) (lo := 1) (hi := 5) (offs := #[35, 38, 41, 44, 47]) (len := 35) 1 (by decide +kernel) rfl rfl (by decide) rfl (zsw_of (by decide +kernel))) <|
  zal_c (zi_ldcs (i := 1) (by decide +kernel) rfl (by decide) rfl) <|
  zal_c (zi_ar (by decide +kernel) rfl) <|
  zal_c (zi_ldcs (i := 2) (by decide +kernel) rfl (by decide) rfl) <|
  zal_c (zi_ar (by decide +kernel) rfl) <|
  zal_c (zi_ldcs (i := 3) (by decide +kernel) rfl (by decide) rfl) <|
  zal_c (zi_ar (by decide +kernel) rfl) <|
  zal_c (zi_ldcs (i := 4) (by decide +kernel) rfl (by decide) rfl) <|
  zal_c (zi_ar (by decide +kernel) rfl) <|
  zal_c (zi_ldcs (i := 5) (by decide +kernel) rfl (by decide) rfl) <|
  zal_c (zi_ar (by decide +kernel) rfl) <|
  zal_c (zi_ldcs (i := 0) (by decide +kernel) rfl (by decide) rfl) <|
  zal_c (zi_ar (by decide +kernel) rfl) <|
  zal_n
set_option maxRecDepth 100000 in
set_option maxHeartbeats 4000000 in
theorem sn_K_charms (l : Launch) : zAl l 2 tb_K_charms :=
  zal_c (zi_iln (j := 1) (by decide +kernel) rfl rfl) <|
  zal_c (zi_bipush (n := 10) (by decide +kernel) rfl rfl) <|
  zal_c (zi_idiv (by decide +kernel) rfl) <|
  zal_c (zi_is (by decide +kernel) rfl (Nat.le_of_ble_eq_true rfl)) <|
  zal_c (zi_il (by decide +kernel) rfl) <|
  zal_c (zi_iln (j := 2) (by decide +kernel) rfl rfl) <|
  zal_c (zi_iconst (n := 4) (by decide +kernel) rfl rfl) <|
  zal_c (zi_cge (off := 7) (by decide +kernel) rfl rfl) <|
  zal_c (zi_iconst (n := 3) (by decide +kernel) rfl rfl) <|
  zal_c (zi_goto (off := 4) (by decide +kernel) rfl) <|
  zal_c (zi_iconst (n := 0) (by decide +kernel) rfl rfl) <|
  zal_c (zi_iadd (by decide +kernel) rfl) <|
  zal_c (zi_is (by decide +kernel) rfl (Nat.le_of_ble_eq_true rfl)) <|
  zal_c (zi_il (by decide +kernel) rfl) <|
  zal_c (zi_iln (j := 2) (by decide +kernel) rfl rfl) <|
  zal_c (zi_iconst (n := 2) (by decide +kernel) rfl rfl) <|
  zal_c (zi_idiv (by decide +kernel) rfl) <|
  zal_c (zi_iadd (by decide +kernel) rfl) <|
  zal_c (zi_is (by decide +kernel) rfl (Nat.le_of_ble_eq_true rfl)) <|
  zal_c (zi_iln (j := 0) (by decide +kernel) rfl rfl) <|
  zal_c (zi_sw (dflt := 66) (lo := 1) (hi := 5) (offs := #[34, 37, 40, 42, 58]) (len := 34) 1 (by decide +kernel) rfl rfl (by decide) rfl (zsw_of (by decide +kernel))) <|
  zal_c (zi_il (by decide +kernel) rfl) <|
  zal_c (zi_ir (by decide +kernel) rfl) <|
  zal_c (zi_il (by decide +kernel) rfl) <|
  zal_c (zi_ir (by decide +kernel) rfl) <|
  zal_c (zi_iconst (n := 4) (by decide +kernel) rfl rfl) <|
  zal_c (zi_ir (by decide +kernel) rfl) <|
  zal_c (zi_il (by decide +kernel) rfl) <|
  zal_c (zi_iconst (n := 2) (by decide +kernel) rfl rfl) <|
  zal_c (zi_isub (by decide +kernel) rfl) <|
  zal_c (zi_iln (j := 3) (by decide +kernel) rfl rfl) <|
  zal_c (zi_ifeq (off := 8) (by decide +kernel) rfl rfl) <|
  zal_c (zi_bipush (n := 9) (by decide +kernel) rfl rfl) <|
  zal_c (zi_goto (off := 4) (by decide +kernel) rfl) <|
  zal_c (zi_iconst (n := 0) (by decide +kernel) rfl rfl) <|
  zal_c (zi_iadd (by decide +kernel) rfl) <|
  zal_c (zi_ir (by decide +kernel) rfl) <|
  zal_c (zi_il (by decide +kernel) rfl) <|
  zal_c (zi_il (by decide +kernel) rfl) <|
  zal_c (zi_iconst (n := 5) (by decide +kernel) rfl rfl) <|
  zal_c (zi_idiv (by decide +kernel) rfl) <|
  zal_c (zi_iadd (by decide +kernel) rfl) <|
  zal_c (zi_ir (by decide +kernel) rfl) <|
  zal_c (zi_il (by decide +kernel) rfl) <|
  zal_c (zi_ir (by decide +kernel) rfl) <|
  zal_n
set_option maxRecDepth 100000 in
set_option maxHeartbeats 4000000 in
theorem sn_K_does (l : Launch) : zAl l 3 tb_K_does :=
  zal_c (zi_iconst (n := 2) (by decide +kernel) rfl rfl) <|
  zal_c (zi_is (by decide +kernel) rfl (Nat.le_of_ble_eq_true rfl)) <|
  zal_c (zi_il (by decide +kernel) rfl) <|
  zal_c (zi_iln (j := 3) (by decide +kernel) rfl rfl) <|
  zal_c (zi_bipush (n := 10) (by decide +kernel) rfl rfl) <|
  zal_c (zi_clt (off := 7) (by decide +kernel) rfl rfl) <|
  zal_c (zi_iconst (n := 1) (by decide +kernel) rfl rfl) <|
  zal_c (zi_goto (off := 4) (by decide +kernel) rfl) <|
  zal_c (zi_iconst (n := 0) (by decide +kernel) rfl rfl) <|
  zal_c (zi_iadd (by decide +kernel) rfl) <|
  zal_c (zi_is (by decide +kernel) rfl (Nat.le_of_ble_eq_true rfl)) <|
  zal_c (zi_iln (j := 0) (by decide +kernel) rfl rfl) <|
  zal_c (zi_sw (dflt := 75) (lo := 1) (hi := 5) (offs := #[36, 51, 54, 56, 70]) (len := 36) 1 (by decide +kernel) rfl rfl (by decide) rfl (zsw_of (by decide +kernel))) <|
  zal_c (zi_il (by decide +kernel) rfl) <|
  zal_c (zi_iln (j := 2) (by decide +kernel) rfl rfl) <|
  zal_c (zi_bipush (n := 7) (by decide +kernel) rfl rfl) <|
  zal_c (zi_clt (off := 7) (by decide +kernel) rfl rfl) <|
  zal_c (zi_iconst (n := 1) (by decide +kernel) rfl rfl) <|
  zal_c (zi_goto (off := 4) (by decide +kernel) rfl) <|
  zal_c (zi_iconst (n := 0) (by decide +kernel) rfl rfl) <|
  zal_c (zi_isub (by decide +kernel) rfl) <|
  zal_c (zi_ir (by decide +kernel) rfl) <|
  zal_c (zi_il (by decide +kernel) rfl) <|
  zal_c (zi_ir (by decide +kernel) rfl) <|
  zal_c (zi_iconst (n := 0) (by decide +kernel) rfl rfl) <|
  zal_c (zi_ir (by decide +kernel) rfl) <|
  zal_c (zi_iln (j := 1) (by decide +kernel) rfl rfl) <|
  zal_c (zi_bipush (n := 60) (by decide +kernel) rfl rfl) <|
  zal_c (zi_clt (off := 8) (by decide +kernel) rfl rfl) <|
  zal_c (zi_bipush (n := 12) (by decide +kernel) rfl rfl) <|
  zal_c (zi_goto (off := 5) (by decide +kernel) rfl) <|
  zal_c (zi_bipush (n := -4) (by decide +kernel) rfl rfl) <|
  zal_c (zi_ir (by decide +kernel) rfl) <|
  zal_c (zi_il (by decide +kernel) rfl) <|
  zal_c (zi_iconst (n := 2) (by decide +kernel) rfl rfl) <|
  zal_c (zi_iadd (by decide +kernel) rfl) <|
  zal_c (zi_ir (by decide +kernel) rfl) <|
  zal_c (zi_il (by decide +kernel) rfl) <|
  zal_c (zi_ir (by decide +kernel) rfl) <|
  zal_n
set_option maxRecDepth 100000 in
set_option maxHeartbeats 4000000 in
theorem sn_K_thaws (l : Launch) : zAl l 4 tb_K_thaws :=
  zal_c (zi_iconst (n := 3) (by decide +kernel) rfl rfl) <|
  zal_c (zi_isn (j := 2) (by decide +kernel) rfl rfl (Nat.le_of_ble_eq_true rfl)) <|
  zal_c (zi_iln (j := 2) (by decide +kernel) rfl rfl) <|
  zal_c (zi_iln (j := 1) (by decide +kernel) rfl rfl) <|
  zal_c (zi_iconst (n := 3) (by decide +kernel) rfl rfl) <|
  zal_c (zi_idiv (by decide +kernel) rfl) <|
  zal_c (zi_isub (by decide +kernel) rfl) <|
  zal_c (zi_isn (j := 3) (by decide +kernel) rfl rfl (Nat.le_of_ble_eq_true rfl)) <|
  zal_c (zi_iln (j := 0) (by decide +kernel) rfl rfl) <|
  zal_c (zi_sw (dflt := 47) (lo := 1) (hi := 5) (offs := #[35, 47, 37, 39, 43]) (len := 35) 1 (by decide +kernel) rfl rfl (by decide) rfl (zsw_of (by decide +kernel))) <|
  zal_c (zi_iln (j := 3) (by decide +kernel) rfl rfl) <|
  zal_c (zi_ir (by decide +kernel) rfl) <|
  zal_c (zi_iconst (n := 1) (by decide +kernel) rfl rfl) <|
  zal_c (zi_ir (by decide +kernel) rfl) <|
  zal_c (zi_iln (j := 3) (by decide +kernel) rfl rfl) <|
  zal_c (zi_iconst (n := 2) (by decide +kernel) rfl rfl) <|
  zal_c (zi_isub (by decide +kernel) rfl) <|
  zal_c (zi_ir (by decide +kernel) rfl) <|
  zal_c (zi_iconst (n := 2) (by decide +kernel) rfl rfl) <|
  zal_c (zi_iln (j := 2) (by decide +kernel) rfl rfl) <|
  zal_c (zi_imul (by decide +kernel) rfl) <|
  zal_c (zi_ir (by decide +kernel) rfl) <|
  zal_c (zi_iln (j := 2) (by decide +kernel) rfl rfl) <|
  zal_c (zi_ir (by decide +kernel) rfl) <|
  zal_n
set_option maxRecDepth 100000 in
set_option maxHeartbeats 4000000 in
theorem sn_K_chills (l : Launch) : zAl l 5 tb_K_chills :=
  zal_c (zi_iconst (n := 2) (by decide +kernel) rfl rfl) <|
  zal_c (zi_isn (j := 2) (by decide +kernel) rfl rfl (Nat.le_of_ble_eq_true rfl)) <|
  zal_c (zi_iln (j := 2) (by decide +kernel) rfl rfl) <|
  zal_c (zi_iln (j := 1) (by decide +kernel) rfl rfl) <|
  zal_c (zi_bipush (n := 10) (by decide +kernel) rfl rfl) <|
  zal_c (zi_idiv (by decide +kernel) rfl) <|
  zal_c (zi_isub (by decide +kernel) rfl) <|
  zal_c (zi_isn (j := 3) (by decide +kernel) rfl rfl (Nat.le_of_ble_eq_true rfl)) <|
  zal_c (zi_iln (j := 0) (by decide +kernel) rfl rfl) <|
  zal_c (zi_sw (dflt := 50) (lo := 1) (hi := 5) (offs := #[34, 38, 40, 34, 42]) (len := 34) 1 (by decide +kernel) rfl rfl (by decide) rfl (zsw_of (by decide +kernel))) <|
  zal_c (zi_iln (j := 2) (by decide +kernel) rfl rfl) <|
  zal_c (zi_iconst (n := 2) (by decide +kernel) rfl rfl) <|
  zal_c (zi_iadd (by decide +kernel) rfl) <|
  zal_c (zi_ir (by decide +kernel) rfl) <|
  zal_c (zi_iln (j := 3) (by decide +kernel) rfl rfl) <|
  zal_c (zi_ir (by decide +kernel) rfl) <|
  zal_c (zi_iconst (n := 0) (by decide +kernel) rfl rfl) <|
  zal_c (zi_ir (by decide +kernel) rfl) <|
  zal_c (zi_iln (j := 3) (by decide +kernel) rfl rfl) <|
  zal_c (zi_iconst (n := 1) (by decide +kernel) rfl rfl) <|
  zal_c (zi_isub (by decide +kernel) rfl) <|
  zal_c (zi_iconst (n := 0) (by decide +kernel) rfl rfl) <|
  zal_c (zi_max (index := 25) (by decide +kernel) rfl wm_K_25 wt_max_s wt_i wt_max_c ⟨Nat.le_of_ble_eq_true rfl, Nat.le_of_ble_eq_true rfl⟩) <|
  zal_c (zi_ir (by decide +kernel) rfl) <|
  zal_c (zi_iln (j := 2) (by decide +kernel) rfl rfl) <|
  zal_c (zi_ir (by decide +kernel) rfl) <|
  zal_n
set_option maxRecDepth 100000 in
set_option maxHeartbeats 4000000 in
theorem sn_J_fill (l : Launch) : zAl l 6 tb_J_fill :=
  zal_c (zi_iconst (n := 0) (by decide +kernel) rfl rfl) <|
  zal_c (zi_isn (j := 3) (by decide +kernel) rfl rfl (Nat.le_of_ble_eq_true rfl)) <|
  zal_c (zi_aln (j := 0) (by decide +kernel) rfl rfl) <|
  zal_c (zi_alen (by decide +kernel) rfl) <|
  zal_c (zi_is (by decide +kernel) rfl (Nat.le_of_ble_eq_true rfl)) <|
  zal_c (zi_iln (j := 3) (by decide +kernel) rfl rfl) <|
  zal_c (zi_il (by decide +kernel) rfl) <|
  zal_c (zi_cge (off := 13) (by decide +kernel) rfl rfl) <|
  zal_c (zi_aln (j := 0) (by decide +kernel) rfl rfl) <|
  zal_c (zi_iln (j := 3) (by decide +kernel) rfl rfl) <|
  zal_c (zi_lln (j := 1) (by decide +kernel) rfl rfl) <|
  zal_c (zi_last (by decide +kernel) rfl) <|
  zal_c (zi_inc (n := 1) (by decide +kernel) rfl rfl) <|
  zal_c (zi_goto (off := -13) (by decide +kernel) rfl) <|
  zal_c (zi_vr (by decide +kernel) rfl) <|
  zal_n
set_option maxRecDepth 100000 in
set_option maxHeartbeats 4000000 in
theorem sn_S_init (l : Launch) : zAl l 7 tb_S_init :=
  zal_c (zi_aln (j := 0) (by decide +kernel) rfl rfl) <|
  zal_c (zi_obj (index := 3) (by decide +kernel) rfl wm_S_3 wo_i wo_c ⟨Nat.le_of_ble_eq_true rfl, Nat.le_of_ble_eq_true rfl⟩) <|
  zal_c (zi_aln (j := 0) (by decide +kernel) rfl rfl) <|
  zal_c (zi_iconst (n := 0) (by decide +kernel) rfl rfl) <|
  zal_c (zi_puti (CN := RX2) (T := TX2) (N := 3) (index := 9) (ty0 := tyX2) (by decide +kernel) rfl rfl (by decide) uw_X2 wf_S_9 tyX2_ok nmX2 rfl (by decide +kernel)) <|
  zal_c (zi_aln (j := 0) (by decide +kernel) rfl rfl) <|
  zal_c (zi_iconst (n := 0) (by decide +kernel) rfl rfl) <|
  zal_c (zi_puti (CN := RX2) (T := TX2) (N := 3) (index := 15) (ty0 := tyX2) (by decide +kernel) rfl rfl (by decide) uw_X2 wf_S_15 tyX2_ok nmX2 rfl (by decide +kernel)) <|
  zal_c (zi_aln (j := 0) (by decide +kernel) rfl rfl) <|
  zal_c (zi_bipush (n := 40) (by decide +kernel) rfl rfl) <|
  zal_c (zi_newl (by decide +kernel) rfl wa_long ⟨Nat.le_of_ble_eq_true rfl, Nat.le_of_ble_eq_true rfl⟩) <|
  zal_c (zi_puta (CN := RX2) (T := TX2) (N := 3) (index := 18) (ty0 := tyX2) (by decide +kernel) rfl rfl (by decide) uw_X2 wf_S_18 tyX2_ok nmX2 rfl rfl (ty := .array .long) (by decide +kernel) (fun _ => rfl) (fun _ => rfl) rfl) <|
  zal_c (zi_vr (by decide +kernel) rfl) <|
  zal_n
set_option maxRecDepth 100000 in
set_option maxHeartbeats 4000000 in
theorem sn_S_isMissing (l : Launch) : zAl l 8 tb_S_isMissing :=
  zal_c (zi_aln (j := 0) (by decide +kernel) rfl rfl) <|
  zal_c (zi_get (CN := RX2) (T := TX2) (N := 3) (index := 9) (by decide +kernel) rfl rfl (by decide) uw_X2 wf_S_9) <|
  zal_c (zi_ifne (off := 7) (by decide +kernel) rfl rfl) <|
  zal_c (zi_iconst (n := 1) (by decide +kernel) rfl rfl) <|
  zal_c (zi_goto (off := 4) (by decide +kernel) rfl) <|
  zal_c (zi_iconst (n := 0) (by decide +kernel) rfl rfl) <|
  zal_c (zi_zr (by decide +kernel) rfl) <|
  zal_n
set_option maxRecDepth 100000 in
set_option maxHeartbeats 4000000 in
theorem sn_S_lay (l : Launch) : zAl l 9 tb_S_lay :=
  zal_c (zi_aln (j := 0) (by decide +kernel) rfl rfl) <|
  zal_c (zi_iln (j := 1) (by decide +kernel) rfl rfl) <|
  zal_c (zi_puti (CN := RX2) (T := TX2) (N := 3) (index := 9) (ty0 := tyX2) (by decide +kernel) rfl rfl (by decide) uw_X2 wf_S_9 tyX2_ok nmX2 rfl (by decide +kernel)) <|
  zal_c (zi_aln (j := 0) (by decide +kernel) rfl rfl) <|
  zal_c (zi_iln (j := 1) (by decide +kernel) rfl rfl) <|
  zal_c (zi_ifne (off := 7) (by decide +kernel) rfl rfl) <|
  zal_c (zi_iconst (n := 0) (by decide +kernel) rfl rfl) <|
  zal_c (zi_goto (off := 4) (by decide +kernel) rfl) <|
  zal_c (zi_iln (j := 2) (by decide +kernel) rfl rfl) <|
  zal_c (zi_puti (CN := RX2) (T := TX2) (N := 3) (index := 15) (ty0 := tyX2) (by decide +kernel) rfl rfl (by decide) uw_X2 wf_S_15 tyX2_ok nmX2 rfl (by decide +kernel)) <|
  zal_c (zi_aln (j := 0) (by decide +kernel) rfl rfl) <|
  zal_c (zi_get (CN := RX2) (T := TX2) (N := 3) (index := 18) (by decide +kernel) rfl rfl (by decide) uw_X2 wf_S_18) <|
  zal_c (zi_lconst (n := 0) (by decide +kernel) rfl rfl) <|
  zal_c (zi_cs (index := 22) (by decide +kernel) rfl mk_J_fill wm_S_22 wq_J_fill ⟨rfl, rfl⟩ ⟨Nat.le_of_ble_eq_true rfl, Nat.le_of_ble_eq_true rfl⟩) <|
  zal_c (zi_vr (by decide +kernel) rfl) <|
  zal_n
set_option maxRecDepth 100000 in
set_option maxHeartbeats 4000000 in
theorem sn_S_put (l : Launch) : zAl l 10 tb_S_put :=
  zal_c (zi_aln (j := 0) (by decide +kernel) rfl rfl) <|
  zal_c (zi_get (CN := RX2) (T := TX2) (N := 3) (index := 9) (by decide +kernel) rfl rfl (by decide) uw_X2 wf_S_9) <|
  zal_c (zi_bipush (n := 8) (by decide +kernel) rfl rfl) <|
  zal_c (zi_cne (off := 16) (by decide +kernel) rfl rfl) <|
  zal_c (zi_aln (j := 0) (by decide +kernel) rfl rfl) <|
  zal_c (zi_get (CN := RX2) (T := TX2) (N := 3) (index := 18) (by decide +kernel) rfl rfl (by decide) uw_X2 wf_S_18) <|
  zal_c (zi_iln (j := 1) (by decide +kernel) rfl rfl) <|
  zal_c (zi_lln (j := 2) (by decide +kernel) rfl rfl) <|
  zal_c (zi_l2i (by decide +kernel) rfl) <|
  zal_c (zi_i2b (by decide +kernel) rfl) <|
  zal_c (zi_i2l (by decide +kernel) rfl) <|
  zal_c (zi_last (by decide +kernel) rfl) <|
  zal_c (zi_goto (off := 32) (by decide +kernel) rfl) <|
  zal_c (zi_aln (j := 0) (by decide +kernel) rfl rfl) <|
  zal_c (zi_get (CN := RX2) (T := TX2) (N := 3) (index := 9) (by decide +kernel) rfl rfl (by decide) uw_X2 wf_S_9) <|
  zal_c (zi_bipush (n := 16) (by decide +kernel) rfl rfl) <|
  zal_c (zi_cne (off := 16) (by decide +kernel) rfl rfl) <|
  zal_c (zi_aln (j := 0) (by decide +kernel) rfl rfl) <|
  zal_c (zi_get (CN := RX2) (T := TX2) (N := 3) (index := 18) (by decide +kernel) rfl rfl (by decide) uw_X2 wf_S_18) <|
  zal_c (zi_iln (j := 1) (by decide +kernel) rfl rfl) <|
  zal_c (zi_lln (j := 2) (by decide +kernel) rfl rfl) <|
  zal_c (zi_l2i (by decide +kernel) rfl) <|
  zal_c (zi_i2s (by decide +kernel) rfl) <|
  zal_c (zi_i2l (by decide +kernel) rfl) <|
  zal_c (zi_last (by decide +kernel) rfl) <|
  zal_c (zi_goto (off := 10) (by decide +kernel) rfl) <|
  zal_c (zi_aln (j := 0) (by decide +kernel) rfl rfl) <|
  zal_c (zi_get (CN := RX2) (T := TX2) (N := 3) (index := 18) (by decide +kernel) rfl rfl (by decide) uw_X2 wf_S_18) <|
  zal_c (zi_iln (j := 1) (by decide +kernel) rfl rfl) <|
  zal_c (zi_lln (j := 2) (by decide +kernel) rfl rfl) <|
  zal_c (zi_last (by decide +kernel) rfl) <|
  zal_c (zi_vr (by decide +kernel) rfl) <|
  zal_n
set_option maxRecDepth 100000 in
set_option maxHeartbeats 4000000 in
theorem sn_S_hasRun (l : Launch) : zAl l 11 tb_S_hasRun :=
  zal_c (zi_iln (j := 1) (by decide +kernel) rfl rfl) <|
  zal_c (zi_iflt (off := 29) (by decide +kernel) rfl rfl) <|
  zal_c (zi_iln (j := 2) (by decide +kernel) rfl rfl) <|
  zal_c (zi_iflt (off := 25) (by decide +kernel) rfl rfl) <|
  zal_c (zi_iln (j := 2) (by decide +kernel) rfl rfl) <|
  zal_c (zi_aln (j := 0) (by decide +kernel) rfl rfl) <|
  zal_c (zi_get (CN := RX2) (T := TX2) (N := 3) (index := 15) (by decide +kernel) rfl rfl (by decide) uw_X2 wf_S_15) <|
  zal_c (zi_cgt (off := 17) (by decide +kernel) rfl rfl) <|
  zal_c (zi_iln (j := 1) (by decide +kernel) rfl rfl) <|
  zal_c (zi_aln (j := 0) (by decide +kernel) rfl rfl) <|
  zal_c (zi_get (CN := RX2) (T := TX2) (N := 3) (index := 15) (by decide +kernel) rfl rfl (by decide) uw_X2 wf_S_15) <|
  zal_c (zi_iln (j := 2) (by decide +kernel) rfl rfl) <|
  zal_c (zi_isub (by decide +kernel) rfl) <|
  zal_c (zi_cgt (off := 7) (by decide +kernel) rfl rfl) <|
  zal_c (zi_iconst (n := 1) (by decide +kernel) rfl rfl) <|
  zal_c (zi_goto (off := 4) (by decide +kernel) rfl) <|
  zal_c (zi_iconst (n := 0) (by decide +kernel) rfl rfl) <|
  zal_c (zi_zr (by decide +kernel) rfl) <|
  zal_n
set_option maxRecDepth 100000 in
set_option maxHeartbeats 4000000 in
theorem sn_H_init (l : Launch) : zAl l 12 tb_H_init :=
  zal_c (zi_aln (j := 0) (by decide +kernel) rfl rfl) <|
  zal_c (zi_obj (index := 3) (by decide +kernel) rfl wm_H_3 wo_i wo_c ⟨Nat.le_of_ble_eq_true rfl, Nat.le_of_ble_eq_true rfl⟩) <|
  zal_c (zi_aln (j := 0) (by decide +kernel) rfl rfl) <|
  zal_c (zi_iconst (n := 0) (by decide +kernel) rfl rfl) <|
  zal_c (zi_puti (CN := RX0) (T := TX0) (N := 14) (index := 9) (ty0 := tyX0) (by decide +kernel) rfl rfl (by decide) uw_X0 wf_H_9 tyX0_ok nmX0 rfl (by decide +kernel)) <|
  zal_c (zi_aln (j := 0) (by decide +kernel) rfl rfl) <|
  zal_c (zi_bipush (n := 10) (by decide +kernel) rfl rfl) <|
  zal_c (zi_puti (CN := RX0) (T := TX0) (N := 14) (index := 15) (ty0 := tyX0) (by decide +kernel) rfl rfl (by decide) uw_X0 wf_H_15 tyX0_ok nmX0 rfl (by decide +kernel)) <|
  zal_c (zi_aln (j := 0) (by decide +kernel) rfl rfl) <|
  zal_c (zi_iconst (n := 0) (by decide +kernel) rfl rfl) <|
  zal_c (zi_puti (CN := RX0) (T := TX0) (N := 14) (index := 18) (ty0 := tyX0) (by decide +kernel) rfl rfl (by decide) uw_X0 wf_H_18 tyX0_ok nmX0 rfl (by decide +kernel)) <|
  zal_c (zi_aln (j := 0) (by decide +kernel) rfl rfl) <|
  zal_c (zi_bipush (n := 8) (by decide +kernel) rfl rfl) <|
  zal_c (zi_newi (by decide +kernel) rfl wa_int ⟨Nat.le_of_ble_eq_true rfl, Nat.le_of_ble_eq_true rfl⟩) <|
  zal_c (zi_puta (CN := RX0) (T := TX0) (N := 14) (index := 21) (ty0 := tyX0) (by decide +kernel) rfl rfl (by decide) uw_X0 wf_H_21 tyX0_ok nmX0 rfl rfl (ty := .array .int) (by decide +kernel) (fun _ => rfl) (fun _ => rfl) rfl) <|
  zal_c (zi_aln (j := 0) (by decide +kernel) rfl rfl) <|
  zal_c (zi_bipush (n := 8) (by decide +kernel) rfl rfl) <|
  zal_c (zi_newi (by decide +kernel) rfl wa_int ⟨Nat.le_of_ble_eq_true rfl, Nat.le_of_ble_eq_true rfl⟩) <|
  zal_c (zi_puta (CN := RX0) (T := TX0) (N := 14) (index := 25) (ty0 := tyX0) (by decide +kernel) rfl rfl (by decide) uw_X0 wf_H_25 tyX0_ok nmX0 rfl rfl (ty := .array .int) (by decide +kernel) (fun _ => rfl) (fun _ => rfl) rfl) <|
  zal_c (zi_aln (j := 0) (by decide +kernel) rfl rfl) <|
  zal_c (zi_bipush (n := 8) (by decide +kernel) rfl rfl) <|
  zal_c (zi_newi (by decide +kernel) rfl wa_int ⟨Nat.le_of_ble_eq_true rfl, Nat.le_of_ble_eq_true rfl⟩) <|
  zal_c (zi_puta (CN := RX0) (T := TX0) (N := 14) (index := 28) (ty0 := tyX0) (by decide +kernel) rfl rfl (by decide) uw_X0 wf_H_28 tyX0_ok nmX0 rfl rfl (ty := .array .int) (by decide +kernel) (fun _ => rfl) (fun _ => rfl) rfl) <|
  zal_c (zi_aln (j := 0) (by decide +kernel) rfl rfl) <|
  zal_c (zi_bipush (n := 8) (by decide +kernel) rfl rfl) <|
  zal_c (zi_newi (by decide +kernel) rfl wa_int ⟨Nat.le_of_ble_eq_true rfl, Nat.le_of_ble_eq_true rfl⟩) <|
  zal_c (zi_puta (CN := RX0) (T := TX0) (N := 14) (index := 31) (ty0 := tyX0) (by decide +kernel) rfl rfl (by decide) uw_X0 wf_H_31 tyX0_ok nmX0 rfl rfl (ty := .array .int) (by decide +kernel) (fun _ => rfl) (fun _ => rfl) rfl) <|
  zal_c (zi_aln (j := 0) (by decide +kernel) rfl rfl) <|
  zal_c (zi_bipush (n := 8) (by decide +kernel) rfl rfl) <|
  zal_c (zi_newi (by decide +kernel) rfl wa_int ⟨Nat.le_of_ble_eq_true rfl, Nat.le_of_ble_eq_true rfl⟩) <|
  zal_c (zi_puta (CN := RX0) (T := TX0) (N := 14) (index := 34) (ty0 := tyX0) (by decide +kernel) rfl rfl (by decide) uw_X0 wf_H_34 tyX0_ok nmX0 rfl rfl (ty := .array .int) (by decide +kernel) (fun _ => rfl) (fun _ => rfl) rfl) <|
  zal_c (zi_aln (j := 0) (by decide +kernel) rfl rfl) <|
  zal_c (zi_iconst (n := 0) (by decide +kernel) rfl rfl) <|
  zal_c (zi_puti (CN := RX0) (T := TX0) (N := 14) (index := 37) (ty0 := tyX0) (by decide +kernel) rfl rfl (by decide) uw_X0 wf_H_37 tyX0_ok nmX0 rfl (by decide +kernel)) <|
  zal_c (zi_aln (j := 0) (by decide +kernel) rfl rfl) <|
  zal_c (zi_bipush (n := 8) (by decide +kernel) rfl rfl) <|
  zal_c (zi_newi (by decide +kernel) rfl wa_int ⟨Nat.le_of_ble_eq_true rfl, Nat.le_of_ble_eq_true rfl⟩) <|
  zal_c (zi_puta (CN := RX0) (T := TX0) (N := 14) (index := 40) (ty0 := tyX0) (by decide +kernel) rfl rfl (by decide) uw_X0 wf_H_40 tyX0_ok nmX0 rfl rfl (ty := .array .int) (by decide +kernel) (fun _ => rfl) (fun _ => rfl) rfl) <|
  zal_c (zi_aln (j := 0) (by decide +kernel) rfl rfl) <|
  zal_c (zi_bipush (n := 8) (by decide +kernel) rfl rfl) <|
  zal_c (zi_newi (by decide +kernel) rfl wa_int ⟨Nat.le_of_ble_eq_true rfl, Nat.le_of_ble_eq_true rfl⟩) <|
  zal_c (zi_puta (CN := RX0) (T := TX0) (N := 14) (index := 43) (ty0 := tyX0) (by decide +kernel) rfl rfl (by decide) uw_X0 wf_H_43 tyX0_ok nmX0 rfl rfl (ty := .array .int) (by decide +kernel) (fun _ => rfl) (fun _ => rfl) rfl) <|
  zal_c (zi_aln (j := 0) (by decide +kernel) rfl rfl) <|
  zal_c (zi_bipush (n := 8) (by decide +kernel) rfl rfl) <|
  zal_c (zi_newi (by decide +kernel) rfl wa_int ⟨Nat.le_of_ble_eq_true rfl, Nat.le_of_ble_eq_true rfl⟩) <|
  zal_c (zi_puta (CN := RX0) (T := TX0) (N := 14) (index := 46) (ty0 := tyX0) (by decide +kernel) rfl rfl (by decide) uw_X0 wf_H_46 tyX0_ok nmX0 rfl rfl (ty := .array .int) (by decide +kernel) (fun _ => rfl) (fun _ => rfl) rfl) <|
  zal_c (zi_aln (j := 0) (by decide +kernel) rfl rfl) <|
  zal_c (zi_bipush (n := 8) (by decide +kernel) rfl rfl) <|
  zal_c (zi_newi (by decide +kernel) rfl wa_int ⟨Nat.le_of_ble_eq_true rfl, Nat.le_of_ble_eq_true rfl⟩) <|
  zal_c (zi_puta (CN := RX0) (T := TX0) (N := 14) (index := 49) (ty0 := tyX0) (by decide +kernel) rfl rfl (by decide) uw_X0 wf_H_49 tyX0_ok nmX0 rfl rfl (ty := .array .int) (by decide +kernel) (fun _ => rfl) (fun _ => rfl) rfl) <|
  zal_c (zi_aln (j := 0) (by decide +kernel) rfl rfl) <|
  zal_c (zi_iconst (n := 0) (by decide +kernel) rfl rfl) <|
  zal_c (zi_puti (CN := RX0) (T := TX0) (N := 14) (index := 52) (ty0 := tyX0) (by decide +kernel) rfl rfl (by decide) uw_X0 wf_H_52 tyX0_ok nmX0 rfl (by decide +kernel)) <|
  zal_c (zi_vr (by decide +kernel) rfl) <|
  zal_n
set_option maxRecDepth 100000 in
set_option maxHeartbeats 4000000 in
theorem sn_H_become (l : Launch) : zAl l 13 tb_H_become :=
  zal_c (zi_aln (j := 0) (by decide +kernel) rfl rfl) <|
  zal_c (zi_aln (j := 1) (by decide +kernel) rfl rfl) <|
  zal_c (zi_get (CN := RX0) (T := TX0) (N := 14) (index := 9) (by decide +kernel) rfl rfl (by decide) uw_X0 wf_H_9) <|
  zal_c (zi_puti (CN := RX0) (T := TX0) (N := 14) (index := 9) (ty0 := tyX0) (by decide +kernel) rfl rfl (by decide) uw_X0 wf_H_9 tyX0_ok nmX0 rfl (by decide +kernel)) <|
  zal_c (zi_aln (j := 0) (by decide +kernel) rfl rfl) <|
  zal_c (zi_aln (j := 1) (by decide +kernel) rfl rfl) <|
  zal_c (zi_get (CN := RX0) (T := TX0) (N := 14) (index := 15) (by decide +kernel) rfl rfl (by decide) uw_X0 wf_H_15) <|
  zal_c (zi_puti (CN := RX0) (T := TX0) (N := 14) (index := 15) (ty0 := tyX0) (by decide +kernel) rfl rfl (by decide) uw_X0 wf_H_15 tyX0_ok nmX0 rfl (by decide +kernel)) <|
  zal_c (zi_aln (j := 0) (by decide +kernel) rfl rfl) <|
  zal_c (zi_aln (j := 1) (by decide +kernel) rfl rfl) <|
  zal_c (zi_get (CN := RX0) (T := TX0) (N := 14) (index := 18) (by decide +kernel) rfl rfl (by decide) uw_X0 wf_H_18) <|
  zal_c (zi_puti (CN := RX0) (T := TX0) (N := 14) (index := 18) (ty0 := tyX0) (by decide +kernel) rfl rfl (by decide) uw_X0 wf_H_18 tyX0_ok nmX0 rfl (by decide +kernel)) <|
  zal_c (zi_aln (j := 1) (by decide +kernel) rfl rfl) <|
  zal_c (zi_get (CN := RX0) (T := TX0) (N := 14) (index := 21) (by decide +kernel) rfl rfl (by decide) uw_X0 wf_H_21) <|
  zal_c (zi_iconst (n := 0) (by decide +kernel) rfl rfl) <|
  zal_c (zi_aln (j := 0) (by decide +kernel) rfl rfl) <|
  zal_c (zi_get (CN := RX0) (T := TX0) (N := 14) (index := 21) (by decide +kernel) rfl rfl (by decide) uw_X0 wf_H_21) <|
  zal_c (zi_iconst (n := 0) (by decide +kernel) rfl rfl) <|
  zal_c (zi_bipush (n := 8) (by decide +kernel) rfl rfl) <|
  zal_c (zi_cpi (index := 55) (by decide +kernel) rfl wm_H_55 wy_n wy_s wy_i ⟨Nat.le_of_ble_eq_true rfl, Nat.le_of_ble_eq_true rfl⟩) <|
  zal_c (zi_aln (j := 1) (by decide +kernel) rfl rfl) <|
  zal_c (zi_get (CN := RX0) (T := TX0) (N := 14) (index := 25) (by decide +kernel) rfl rfl (by decide) uw_X0 wf_H_25) <|
  zal_c (zi_iconst (n := 0) (by decide +kernel) rfl rfl) <|
  zal_c (zi_aln (j := 0) (by decide +kernel) rfl rfl) <|
  zal_c (zi_get (CN := RX0) (T := TX0) (N := 14) (index := 25) (by decide +kernel) rfl rfl (by decide) uw_X0 wf_H_25) <|
  zal_c (zi_iconst (n := 0) (by decide +kernel) rfl rfl) <|
  zal_c (zi_bipush (n := 8) (by decide +kernel) rfl rfl) <|
  zal_c (zi_cpi (index := 55) (by decide +kernel) rfl wm_H_55 wy_n wy_s wy_i ⟨Nat.le_of_ble_eq_true rfl, Nat.le_of_ble_eq_true rfl⟩) <|
  zal_c (zi_aln (j := 1) (by decide +kernel) rfl rfl) <|
  zal_c (zi_get (CN := RX0) (T := TX0) (N := 14) (index := 28) (by decide +kernel) rfl rfl (by decide) uw_X0 wf_H_28) <|
  zal_c (zi_iconst (n := 0) (by decide +kernel) rfl rfl) <|
  zal_c (zi_aln (j := 0) (by decide +kernel) rfl rfl) <|
  zal_c (zi_get (CN := RX0) (T := TX0) (N := 14) (index := 28) (by decide +kernel) rfl rfl (by decide) uw_X0 wf_H_28) <|
  zal_c (zi_iconst (n := 0) (by decide +kernel) rfl rfl) <|
  zal_c (zi_bipush (n := 8) (by decide +kernel) rfl rfl) <|
  zal_c (zi_cpi (index := 55) (by decide +kernel) rfl wm_H_55 wy_n wy_s wy_i ⟨Nat.le_of_ble_eq_true rfl, Nat.le_of_ble_eq_true rfl⟩) <|
  zal_c (zi_aln (j := 1) (by decide +kernel) rfl rfl) <|
  zal_c (zi_get (CN := RX0) (T := TX0) (N := 14) (index := 31) (by decide +kernel) rfl rfl (by decide) uw_X0 wf_H_31) <|
  zal_c (zi_iconst (n := 0) (by decide +kernel) rfl rfl) <|
  zal_c (zi_aln (j := 0) (by decide +kernel) rfl rfl) <|
  zal_c (zi_get (CN := RX0) (T := TX0) (N := 14) (index := 31) (by decide +kernel) rfl rfl (by decide) uw_X0 wf_H_31) <|
  zal_c (zi_iconst (n := 0) (by decide +kernel) rfl rfl) <|
  zal_c (zi_bipush (n := 8) (by decide +kernel) rfl rfl) <|
  zal_c (zi_cpi (index := 55) (by decide +kernel) rfl wm_H_55 wy_n wy_s wy_i ⟨Nat.le_of_ble_eq_true rfl, Nat.le_of_ble_eq_true rfl⟩) <|
  zal_c (zi_aln (j := 1) (by decide +kernel) rfl rfl) <|
  zal_c (zi_get (CN := RX0) (T := TX0) (N := 14) (index := 34) (by decide +kernel) rfl rfl (by decide) uw_X0 wf_H_34) <|
  zal_c (zi_iconst (n := 0) (by decide +kernel) rfl rfl) <|
  zal_c (zi_aln (j := 0) (by decide +kernel) rfl rfl) <|
  zal_c (zi_get (CN := RX0) (T := TX0) (N := 14) (index := 34) (by decide +kernel) rfl rfl (by decide) uw_X0 wf_H_34) <|
  zal_c (zi_iconst (n := 0) (by decide +kernel) rfl rfl) <|
  zal_c (zi_bipush (n := 8) (by decide +kernel) rfl rfl) <|
  zal_c (zi_cpi (index := 55) (by decide +kernel) rfl wm_H_55 wy_n wy_s wy_i ⟨Nat.le_of_ble_eq_true rfl, Nat.le_of_ble_eq_true rfl⟩) <|
  zal_c (zi_aln (j := 0) (by decide +kernel) rfl rfl) <|
  zal_c (zi_aln (j := 1) (by decide +kernel) rfl rfl) <|
  zal_c (zi_get (CN := RX0) (T := TX0) (N := 14) (index := 37) (by decide +kernel) rfl rfl (by decide) uw_X0 wf_H_37) <|
  zal_c (zi_puti (CN := RX0) (T := TX0) (N := 14) (index := 37) (ty0 := tyX0) (by decide +kernel) rfl rfl (by decide) uw_X0 wf_H_37 tyX0_ok nmX0 rfl (by decide +kernel)) <|
  zal_c (zi_aln (j := 1) (by decide +kernel) rfl rfl) <|
  zal_c (zi_get (CN := RX0) (T := TX0) (N := 14) (index := 40) (by decide +kernel) rfl rfl (by decide) uw_X0 wf_H_40) <|
  zal_c (zi_iconst (n := 0) (by decide +kernel) rfl rfl) <|
  zal_c (zi_aln (j := 0) (by decide +kernel) rfl rfl) <|
  zal_c (zi_get (CN := RX0) (T := TX0) (N := 14) (index := 40) (by decide +kernel) rfl rfl (by decide) uw_X0 wf_H_40) <|
  zal_c (zi_iconst (n := 0) (by decide +kernel) rfl rfl) <|
  zal_c (zi_bipush (n := 8) (by decide +kernel) rfl rfl) <|
  zal_c (zi_cpi (index := 55) (by decide +kernel) rfl wm_H_55 wy_n wy_s wy_i ⟨Nat.le_of_ble_eq_true rfl, Nat.le_of_ble_eq_true rfl⟩) <|
  zal_c (zi_aln (j := 1) (by decide +kernel) rfl rfl) <|
  zal_c (zi_get (CN := RX0) (T := TX0) (N := 14) (index := 43) (by decide +kernel) rfl rfl (by decide) uw_X0 wf_H_43) <|
  zal_c (zi_iconst (n := 0) (by decide +kernel) rfl rfl) <|
  zal_c (zi_aln (j := 0) (by decide +kernel) rfl rfl) <|
  zal_c (zi_get (CN := RX0) (T := TX0) (N := 14) (index := 43) (by decide +kernel) rfl rfl (by decide) uw_X0 wf_H_43) <|
  zal_c (zi_iconst (n := 0) (by decide +kernel) rfl rfl) <|
  zal_c (zi_bipush (n := 8) (by decide +kernel) rfl rfl) <|
  zal_c (zi_cpi (index := 55) (by decide +kernel) rfl wm_H_55 wy_n wy_s wy_i ⟨Nat.le_of_ble_eq_true rfl, Nat.le_of_ble_eq_true rfl⟩) <|
  zal_c (zi_aln (j := 1) (by decide +kernel) rfl rfl) <|
  zal_c (zi_get (CN := RX0) (T := TX0) (N := 14) (index := 46) (by decide +kernel) rfl rfl (by decide) uw_X0 wf_H_46) <|
  zal_c (zi_iconst (n := 0) (by decide +kernel) rfl rfl) <|
  zal_c (zi_aln (j := 0) (by decide +kernel) rfl rfl) <|
  zal_c (zi_get (CN := RX0) (T := TX0) (N := 14) (index := 46) (by decide +kernel) rfl rfl (by decide) uw_X0 wf_H_46) <|
  zal_c (zi_iconst (n := 0) (by decide +kernel) rfl rfl) <|
  zal_c (zi_bipush (n := 8) (by decide +kernel) rfl rfl) <|
  zal_c (zi_cpi (index := 55) (by decide +kernel) rfl wm_H_55 wy_n wy_s wy_i ⟨Nat.le_of_ble_eq_true rfl, Nat.le_of_ble_eq_true rfl⟩) <|
  zal_c (zi_vr (by decide +kernel) rfl) <|
  zal_n
set_option maxRecDepth 100000 in
set_option maxHeartbeats 4000000 in
theorem sn_H_addInlaw (l : Launch) : zAl l 14 tb_H_addInlaw :=
  zal_c (zi_aln (j := 0) (by decide +kernel) rfl rfl) <|
  zal_c (zi_get (CN := RX0) (T := TX0) (N := 14) (index := 18) (by decide +kernel) rfl rfl (by decide) uw_X0 wf_H_18) <|
  zal_c (zi_bipush (n := 8) (by decide +kernel) rfl rfl) <|
  zal_c (zi_clt (off := 5) (by decide +kernel) rfl rfl) <|
  zal_c (zi_iconst (n := -1) (by decide +kernel) rfl rfl) <|
  zal_c (zi_ir (by decide +kernel) rfl) <|
  zal_c (zi_aln (j := 0) (by decide +kernel) rfl rfl) <|
  zal_c (zi_get (CN := RX0) (T := TX0) (N := 14) (index := 18) (by decide +kernel) rfl rfl (by decide) uw_X0 wf_H_18) <|
  zal_c (zi_isn (j := 2) (by decide +kernel) rfl rfl (Nat.le_of_ble_eq_true rfl)) <|
  zal_c (zi_aln (j := 0) (by decide +kernel) rfl rfl) <|
  zal_c (zi_get (CN := RX0) (T := TX0) (N := 14) (index := 21) (by decide +kernel) rfl rfl (by decide) uw_X0 wf_H_21) <|
  zal_c (zi_iln (j := 2) (by decide +kernel) rfl rfl) <|
  zal_c (zi_iln (j := 1) (by decide +kernel) rfl rfl) <|
  zal_c (zi_iast (by decide +kernel) rfl) <|
  zal_c (zi_aln (j := 0) (by decide +kernel) rfl rfl) <|
  zal_c (zi_get (CN := RX0) (T := TX0) (N := 14) (index := 25) (by decide +kernel) rfl rfl (by decide) uw_X0 wf_H_25) <|
  zal_c (zi_iln (j := 2) (by decide +kernel) rfl rfl) <|
  zal_c (zi_bipush (n := 40) (by decide +kernel) rfl rfl) <|
  zal_c (zi_iast (by decide +kernel) rfl) <|
  zal_c (zi_aln (j := 0) (by decide +kernel) rfl rfl) <|
  zal_c (zi_get (CN := RX0) (T := TX0) (N := 14) (index := 28) (by decide +kernel) rfl rfl (by decide) uw_X0 wf_H_28) <|
  zal_c (zi_iln (j := 2) (by decide +kernel) rfl rfl) <|
  zal_c (zi_iconst (n := 0) (by decide +kernel) rfl rfl) <|
  zal_c (zi_iast (by decide +kernel) rfl) <|
  zal_c (zi_aln (j := 0) (by decide +kernel) rfl rfl) <|
  zal_c (zi_get (CN := RX0) (T := TX0) (N := 14) (index := 31) (by decide +kernel) rfl rfl (by decide) uw_X0 wf_H_31) <|
  zal_c (zi_iln (j := 2) (by decide +kernel) rfl rfl) <|
  zal_c (zi_iconst (n := 0) (by decide +kernel) rfl rfl) <|
  zal_c (zi_iast (by decide +kernel) rfl) <|
  zal_c (zi_aln (j := 0) (by decide +kernel) rfl rfl) <|
  zal_c (zi_get (CN := RX0) (T := TX0) (N := 14) (index := 34) (by decide +kernel) rfl rfl (by decide) uw_X0 wf_H_34) <|
  zal_c (zi_iln (j := 2) (by decide +kernel) rfl rfl) <|
  zal_c (zi_iconst (n := 0) (by decide +kernel) rfl rfl) <|
  zal_c (zi_iast (by decide +kernel) rfl) <|
  zal_c (zi_aln (j := 0) (by decide +kernel) rfl rfl) <|
  zal_c (zi_dup (by decide +kernel) rfl) <|
  zal_c (zi_get (CN := RX0) (T := TX0) (N := 14) (index := 18) (by decide +kernel) rfl rfl (by decide) uw_X0 wf_H_18) <|
  zal_c (zi_iconst (n := 1) (by decide +kernel) rfl rfl) <|
  zal_c (zi_iadd (by decide +kernel) rfl) <|
  zal_c (zi_puti (CN := RX0) (T := TX0) (N := 14) (index := 18) (ty0 := tyX0) (by decide +kernel) rfl rfl (by decide) uw_X0 wf_H_18 tyX0_ok nmX0 rfl (by decide +kernel)) <|
  zal_c (zi_iln (j := 2) (by decide +kernel) rfl rfl) <|
  zal_c (zi_ir (by decide +kernel) rfl) <|
  zal_n
set_option maxRecDepth 100000 in
set_option maxHeartbeats 4000000 in
theorem sn_H_addCouple (l : Launch) : zAl l 15 tb_H_addCouple :=
  zal_c (zi_aln (j := 0) (by decide +kernel) rfl rfl) <|
  zal_c (zi_get (CN := RX0) (T := TX0) (N := 14) (index := 37) (by decide +kernel) rfl rfl (by decide) uw_X0 wf_H_37) <|
  zal_c (zi_bipush (n := 8) (by decide +kernel) rfl rfl) <|
  zal_c (zi_clt (off := 5) (by decide +kernel) rfl rfl) <|
  zal_c (zi_iconst (n := -1) (by decide +kernel) rfl rfl) <|
  zal_c (zi_ir (by decide +kernel) rfl) <|
  zal_c (zi_aln (j := 0) (by decide +kernel) rfl rfl) <|
  zal_c (zi_get (CN := RX0) (T := TX0) (N := 14) (index := 37) (by decide +kernel) rfl rfl (by decide) uw_X0 wf_H_37) <|
  zal_c (zi_isn (j := 2) (by decide +kernel) rfl rfl (Nat.le_of_ble_eq_true rfl)) <|
  zal_c (zi_aln (j := 0) (by decide +kernel) rfl rfl) <|
  zal_c (zi_get (CN := RX0) (T := TX0) (N := 14) (index := 40) (by decide +kernel) rfl rfl (by decide) uw_X0 wf_H_40) <|
  zal_c (zi_iln (j := 2) (by decide +kernel) rfl rfl) <|
  zal_c (zi_iln (j := 1) (by decide +kernel) rfl rfl) <|
  zal_c (zi_iast (by decide +kernel) rfl) <|
  zal_c (zi_aln (j := 0) (by decide +kernel) rfl rfl) <|
  zal_c (zi_get (CN := RX0) (T := TX0) (N := 14) (index := 43) (by decide +kernel) rfl rfl (by decide) uw_X0 wf_H_43) <|
  zal_c (zi_iln (j := 2) (by decide +kernel) rfl rfl) <|
  zal_c (zi_iconst (n := 0) (by decide +kernel) rfl rfl) <|
  zal_c (zi_iast (by decide +kernel) rfl) <|
  zal_c (zi_aln (j := 0) (by decide +kernel) rfl rfl) <|
  zal_c (zi_get (CN := RX0) (T := TX0) (N := 14) (index := 46) (by decide +kernel) rfl rfl (by decide) uw_X0 wf_H_46) <|
  zal_c (zi_iln (j := 2) (by decide +kernel) rfl rfl) <|
  zal_c (zi_iconst (n := -1) (by decide +kernel) rfl rfl) <|
  zal_c (zi_iast (by decide +kernel) rfl) <|
  zal_c (zi_aln (j := 0) (by decide +kernel) rfl rfl) <|
  zal_c (zi_dup (by decide +kernel) rfl) <|
  zal_c (zi_get (CN := RX0) (T := TX0) (N := 14) (index := 37) (by decide +kernel) rfl rfl (by decide) uw_X0 wf_H_37) <|
  zal_c (zi_iconst (n := 1) (by decide +kernel) rfl rfl) <|
  zal_c (zi_iadd (by decide +kernel) rfl) <|
  zal_c (zi_puti (CN := RX0) (T := TX0) (N := 14) (index := 37) (ty0 := tyX0) (by decide +kernel) rfl rfl (by decide) uw_X0 wf_H_37 tyX0_ok nmX0 rfl (by decide +kernel)) <|
  zal_c (zi_iln (j := 2) (by decide +kernel) rfl rfl) <|
  zal_c (zi_ir (by decide +kernel) rfl) <|
  zal_n
set_option maxRecDepth 100000 in
set_option maxHeartbeats 4000000 in
theorem sn_H_firstCouple (l : Launch) : zAl l 16 tb_H_firstCouple :=
  zal_c (zi_aln (j := 0) (by decide +kernel) rfl rfl) <|
  zal_c (zi_get (CN := RX0) (T := TX0) (N := 14) (index := 37) (by decide +kernel) rfl rfl (by decide) uw_X0 wf_H_37) <|
  zal_c (zi_ifle (off := 15) (by decide +kernel) rfl rfl) <|
  zal_c (zi_aln (j := 0) (by decide +kernel) rfl rfl) <|
  zal_c (zi_get (CN := RX0) (T := TX0) (N := 14) (index := 9) (by decide +kernel) rfl rfl (by decide) uw_X0 wf_H_9) <|
  zal_c (zi_aln (j := 0) (by decide +kernel) rfl rfl) <|
  zal_c (zi_get (CN := RX0) (T := TX0) (N := 14) (index := 37) (by decide +kernel) rfl rfl (by decide) uw_X0 wf_H_37) <|
  zal_c (zi_irem (by decide +kernel) rfl) <|
  zal_c (zi_goto (off := 4) (by decide +kernel) rfl) <|
  zal_c (zi_iconst (n := -1) (by decide +kernel) rfl rfl) <|
  zal_c (zi_ir (by decide +kernel) rfl) <|
  zal_n
set_option maxRecDepth 100000 in
set_option maxHeartbeats 4000000 in
theorem sn_H_satOnes (l : Launch) : zAl l 17 tb_H_satOnes :=
  zal_c (zi_iconst (n := 0) (by decide +kernel) rfl rfl) <|
  zal_c (zi_isn (j := 1) (by decide +kernel) rfl rfl (Nat.le_of_ble_eq_true rfl)) <|
  zal_c (zi_iconst (n := 0) (by decide +kernel) rfl rfl) <|
  zal_c (zi_isn (j := 2) (by decide +kernel) rfl rfl (Nat.le_of_ble_eq_true rfl)) <|
  zal_c (zi_iln (j := 2) (by decide +kernel) rfl rfl) <|
  zal_c (zi_aln (j := 0) (by decide +kernel) rfl rfl) <|
  zal_c (zi_get (CN := RX0) (T := TX0) (N := 14) (index := 18) (by decide +kernel) rfl rfl (by decide) uw_X0 wf_H_18) <|
  zal_c (zi_cge (off := 24) (by decide +kernel) rfl rfl) <|
  zal_c (zi_aln (j := 0) (by decide +kernel) rfl rfl) <|
  zal_c (zi_get (CN := RX0) (T := TX0) (N := 14) (index := 28) (by decide +kernel) rfl rfl (by decide) uw_X0 wf_H_28) <|
  zal_c (zi_iln (j := 2) (by decide +kernel) rfl rfl) <|
  zal_c (zi_iald (by decide +kernel) rfl) <|
  zal_c (zi_ifeq (off := 9) (by decide +kernel) rfl rfl) <|
  zal_c (zi_iln (j := 1) (by decide +kernel) rfl rfl) <|
  zal_c (zi_iconst (n := 1) (by decide +kernel) rfl rfl) <|
  zal_c (zi_iln (j := 2) (by decide +kernel) rfl rfl) <|
  zal_c (zi_ishl (by decide +kernel) rfl) <|
  zal_c (zi_ior (by decide +kernel) rfl) <|
  zal_c (zi_isn (j := 1) (by decide +kernel) rfl rfl (Nat.le_of_ble_eq_true rfl)) <|
  zal_c (zi_inc (n := 1) (by decide +kernel) rfl rfl) <|
  zal_c (zi_goto (off := -26) (by decide +kernel) rfl) <|
  zal_c (zi_iln (j := 1) (by decide +kernel) rfl rfl) <|
  zal_c (zi_ir (by decide +kernel) rfl) <|
  zal_n
set_option maxRecDepth 100000 in
set_option maxHeartbeats 4000000 in
theorem sn_H_wellOfAll (l : Launch) : zAl l 18 tb_H_wellOfAll :=
  zal_c (zi_aln (j := 0) (by decide +kernel) rfl rfl) <|
  zal_c (zi_get (CN := RX0) (T := TX0) (N := 14) (index := 43) (by decide +kernel) rfl rfl (by decide) uw_X0 wf_H_43) <|
  zal_c (zi_aln (j := 0) (by decide +kernel) rfl rfl) <|
  zal_c (zi_get (CN := RX0) (T := TX0) (N := 14) (index := 37) (by decide +kernel) rfl rfl (by decide) uw_X0 wf_H_37) <|
  zal_c (zi_cs (index := 61) (by decide +kernel) rfl mk_H_sum wm_H_61 wq_H_sum ⟨rfl, rfl⟩ ⟨Nat.le_of_ble_eq_true rfl, Nat.le_of_ble_eq_true rfl⟩) <|
  zal_c (zi_ir (by decide +kernel) rfl) <|
  zal_n
set_option maxRecDepth 100000 in
set_option maxHeartbeats 4000000 in
theorem sn_H_warmOfAll (l : Launch) : zAl l 19 tb_H_warmOfAll :=
  zal_c (zi_aln (j := 0) (by decide +kernel) rfl rfl) <|
  zal_c (zi_get (CN := RX0) (T := TX0) (N := 14) (index := 25) (by decide +kernel) rfl rfl (by decide) uw_X0 wf_H_25) <|
  zal_c (zi_aln (j := 0) (by decide +kernel) rfl rfl) <|
  zal_c (zi_get (CN := RX0) (T := TX0) (N := 14) (index := 18) (by decide +kernel) rfl rfl (by decide) uw_X0 wf_H_18) <|
  zal_c (zi_cs (index := 61) (by decide +kernel) rfl mk_H_sum wm_H_61 wq_H_sum ⟨rfl, rfl⟩ ⟨Nat.le_of_ble_eq_true rfl, Nat.le_of_ble_eq_true rfl⟩) <|
  zal_c (zi_ir (by decide +kernel) rfl) <|
  zal_n
set_option maxRecDepth 100000 in
set_option maxHeartbeats 4000000 in
theorem sn_H_hadOfAll (l : Launch) : zAl l 20 tb_H_hadOfAll :=
  zal_c (zi_aln (j := 0) (by decide +kernel) rfl rfl) <|
  zal_c (zi_get (CN := RX0) (T := TX0) (N := 14) (index := 34) (by decide +kernel) rfl rfl (by decide) uw_X0 wf_H_34) <|
  zal_c (zi_aln (j := 0) (by decide +kernel) rfl rfl) <|
  zal_c (zi_get (CN := RX0) (T := TX0) (N := 14) (index := 18) (by decide +kernel) rfl rfl (by decide) uw_X0 wf_H_18) <|
  zal_c (zi_cs (index := 61) (by decide +kernel) rfl mk_H_sum wm_H_61 wq_H_sum ⟨rfl, rfl⟩ ⟨Nat.le_of_ble_eq_true rfl, Nat.le_of_ble_eq_true rfl⟩) <|
  zal_c (zi_ir (by decide +kernel) rfl) <|
  zal_n
set_option maxRecDepth 100000 in
set_option maxHeartbeats 4000000 in
theorem sn_H_charmsOf (l : Launch) : zAl l 21 tb_H_charmsOf :=
  zal_c (zi_aln (j := 0) (by decide +kernel) rfl rfl) <|
  zal_c (zi_get (CN := RX0) (T := TX0) (N := 14) (index := 46) (by decide +kernel) rfl rfl (by decide) uw_X0 wf_H_46) <|
  zal_c (zi_iln (j := 2) (by decide +kernel) rfl rfl) <|
  zal_c (zi_iald (by decide +kernel) rfl) <|
  zal_c (zi_iln (j := 1) (by decide +kernel) rfl rfl) <|
  zal_c (zi_cne (off := 7) (by decide +kernel) rfl rfl) <|
  zal_c (zi_iconst (n := 1) (by decide +kernel) rfl rfl) <|
  zal_c (zi_goto (off := 4) (by decide +kernel) rfl) <|
  zal_c (zi_iconst (n := 0) (by decide +kernel) rfl rfl) <|
  zal_c (zi_isn (j := 3) (by decide +kernel) rfl rfl (Nat.le_of_ble_eq_true rfl)) <|
  zal_c (zi_aln (j := 0) (by decide +kernel) rfl rfl) <|
  zal_c (zi_get (CN := RX0) (T := TX0) (N := 14) (index := 21) (by decide +kernel) rfl rfl (by decide) uw_X0 wf_H_21) <|
  zal_c (zi_iln (j := 1) (by decide +kernel) rfl rfl) <|
  zal_c (zi_iald (by decide +kernel) rfl) <|
  zal_c (zi_aln (j := 0) (by decide +kernel) rfl rfl) <|
  zal_c (zi_get (CN := RX0) (T := TX0) (N := 14) (index := 25) (by decide +kernel) rfl rfl (by decide) uw_X0 wf_H_25) <|
  zal_c (zi_iln (j := 1) (by decide +kernel) rfl rfl) <|
  zal_c (zi_iald (by decide +kernel) rfl) <|
  zal_c (zi_aln (j := 0) (by decide +kernel) rfl rfl) <|
  zal_c (zi_get (CN := RX0) (T := TX0) (N := 14) (index := 40) (by decide +kernel) rfl rfl (by decide) uw_X0 wf_H_40) <|
  zal_c (zi_iln (j := 2) (by decide +kernel) rfl rfl) <|
  zal_c (zi_iald (by decide +kernel) rfl) <|
  zal_c (zi_iln (j := 3) (by decide +kernel) rfl rfl) <|
  zal_c (zi_aln (j := 0) (by decide +kernel) rfl rfl) <|
  zal_c (zi_get (CN := RX0) (T := TX0) (N := 14) (index := 15) (by decide +kernel) rfl rfl (by decide) uw_X0 wf_H_15) <|
  zal_c (zi_cs (index := 65) (by decide +kernel) rfl mk_K_charms wm_H_65 wq_K_charms ⟨rfl, rfl⟩ ⟨Nat.le_of_ble_eq_true rfl, Nat.le_of_ble_eq_true rfl⟩) <|
  zal_c (zi_ir (by decide +kernel) rfl) <|
  zal_n
set_option maxRecDepth 100000 in
set_option maxHeartbeats 4000000 in
theorem sn_H_doesOf (l : Launch) : zAl l 22 tb_H_doesOf :=
  zal_c (zi_aln (j := 0) (by decide +kernel) rfl rfl) <|
  zal_c (zi_get (CN := RX0) (T := TX0) (N := 14) (index := 21) (by decide +kernel) rfl rfl (by decide) uw_X0 wf_H_21) <|
  zal_c (zi_iln (j := 1) (by decide +kernel) rfl rfl) <|
  zal_c (zi_iald (by decide +kernel) rfl) <|
  zal_c (zi_aln (j := 0) (by decide +kernel) rfl rfl) <|
  zal_c (zi_get (CN := RX0) (T := TX0) (N := 14) (index := 25) (by decide +kernel) rfl rfl (by decide) uw_X0 wf_H_25) <|
  zal_c (zi_iln (j := 1) (by decide +kernel) rfl rfl) <|
  zal_c (zi_iald (by decide +kernel) rfl) <|
  zal_c (zi_aln (j := 0) (by decide +kernel) rfl rfl) <|
  zal_c (zi_get (CN := RX0) (T := TX0) (N := 14) (index := 40) (by decide +kernel) rfl rfl (by decide) uw_X0 wf_H_40) <|
  zal_c (zi_iln (j := 2) (by decide +kernel) rfl rfl) <|
  zal_c (zi_iald (by decide +kernel) rfl) <|
  zal_c (zi_aln (j := 0) (by decide +kernel) rfl rfl) <|
  zal_c (zi_get (CN := RX0) (T := TX0) (N := 14) (index := 15) (by decide +kernel) rfl rfl (by decide) uw_X0 wf_H_15) <|
  zal_c (zi_cs (index := 71) (by decide +kernel) rfl mk_K_does wm_H_71 wq_K_does ⟨rfl, rfl⟩ ⟨Nat.le_of_ble_eq_true rfl, Nat.le_of_ble_eq_true rfl⟩) <|
  zal_c (zi_ir (by decide +kernel) rfl) <|
  zal_n
set_option maxRecDepth 100000 in
set_option maxHeartbeats 4000000 in
theorem sn_H_thawsOf (l : Launch) : zAl l 23 tb_H_thawsOf :=
  zal_c (zi_aln (j := 0) (by decide +kernel) rfl rfl) <|
  zal_c (zi_get (CN := RX0) (T := TX0) (N := 14) (index := 21) (by decide +kernel) rfl rfl (by decide) uw_X0 wf_H_21) <|
  zal_c (zi_iln (j := 1) (by decide +kernel) rfl rfl) <|
  zal_c (zi_iald (by decide +kernel) rfl) <|
  zal_c (zi_aln (j := 0) (by decide +kernel) rfl rfl) <|
  zal_c (zi_get (CN := RX0) (T := TX0) (N := 14) (index := 40) (by decide +kernel) rfl rfl (by decide) uw_X0 wf_H_40) <|
  zal_c (zi_iln (j := 2) (by decide +kernel) rfl rfl) <|
  zal_c (zi_iald (by decide +kernel) rfl) <|
  zal_c (zi_cs (index := 75) (by decide +kernel) rfl mk_K_thaws wm_H_75 wq_K_thaws ⟨rfl, rfl⟩ ⟨Nat.le_of_ble_eq_true rfl, Nat.le_of_ble_eq_true rfl⟩) <|
  zal_c (zi_ir (by decide +kernel) rfl) <|
  zal_n
set_option maxRecDepth 100000 in
set_option maxHeartbeats 4000000 in
theorem sn_H_chillsOf (l : Launch) : zAl l 24 tb_H_chillsOf :=
  zal_c (zi_aln (j := 0) (by decide +kernel) rfl rfl) <|
  zal_c (zi_get (CN := RX0) (T := TX0) (N := 14) (index := 21) (by decide +kernel) rfl rfl (by decide) uw_X0 wf_H_21) <|
  zal_c (zi_iln (j := 1) (by decide +kernel) rfl rfl) <|
  zal_c (zi_iald (by decide +kernel) rfl) <|
  zal_c (zi_aln (j := 0) (by decide +kernel) rfl rfl) <|
  zal_c (zi_get (CN := RX0) (T := TX0) (N := 14) (index := 15) (by decide +kernel) rfl rfl (by decide) uw_X0 wf_H_15) <|
  zal_c (zi_cs (index := 79) (by decide +kernel) rfl mk_K_chills wm_H_79 wq_K_chills ⟨rfl, rfl⟩ ⟨Nat.le_of_ble_eq_true rfl, Nat.le_of_ble_eq_true rfl⟩) <|
  zal_c (zi_ir (by decide +kernel) rfl) <|
  zal_n
set_option maxRecDepth 100000 in
set_option maxHeartbeats 4000000 in
theorem sn_H_goSundays (l : Launch) : zAl l 25 tb_H_goSundays :=
  zal_c (zi_iconst (n := 0) (by decide +kernel) rfl rfl) <|
  zal_c (zi_isn (j := 2) (by decide +kernel) rfl rfl (Nat.le_of_ble_eq_true rfl)) <|
  zal_c (zi_iln (j := 2) (by decide +kernel) rfl rfl) <|
  zal_c (zi_iln (j := 1) (by decide +kernel) rfl rfl) <|
  zal_c (zi_cge (off := 13) (by decide +kernel) rfl rfl) <|
  zal_c (zi_aln (j := 0) (by decide +kernel) rfl rfl) <|
  zal_c (zi_cv (index := 82) (qc := (RX0, TX0, 14)) (by decide +kernel) rfl mk_H_goOneSunday rfl wm_H_82 wq_H_goOneSunday ww_H_goOneSunday ⟨rfl, rfl⟩ ⟨Nat.le_of_ble_eq_true rfl, Nat.le_of_ble_eq_true rfl⟩) <|
  zal_c (zi_inc (n := 1) (by decide +kernel) rfl rfl) <|
  zal_c (zi_goto (off := -12) (by decide +kernel) rfl) <|
  zal_c (zi_vr (by decide +kernel) rfl) <|
  zal_n
set_option maxRecDepth 100000 in
set_option maxHeartbeats 4000000 in
theorem sn_H_goOneSunday (l : Launch) : zAl l 26 tb_H_goOneSunday :=
  zal_c (zi_aln (j := 0) (by decide +kernel) rfl rfl) <|
  zal_c (zi_iconst (n := 0) (by decide +kernel) rfl rfl) <|
  zal_c (zi_puti (CN := RX0) (T := TX0) (N := 14) (index := 52) (ty0 := tyX0) (by decide +kernel) rfl rfl (by decide) uw_X0 wf_H_52 tyX0_ok nmX0 rfl (by decide +kernel)) <|
  zal_c (zi_aln (j := 0) (by decide +kernel) rfl rfl) <|
  zal_c (zi_cv (index := 85) (qc := (RX0, TX0, 14)) (by decide +kernel) rfl mk_H_firstCouple rfl wm_H_85 wq_H_firstCouple ww_H_firstCouple ⟨rfl, rfl⟩ ⟨Nat.le_of_ble_eq_true rfl, Nat.le_of_ble_eq_true rfl⟩) <|
  zal_c (zi_isn (j := 1) (by decide +kernel) rfl rfl (Nat.le_of_ble_eq_true rfl)) <|
  zal_c (zi_iconst (n := 0) (by decide +kernel) rfl rfl) <|
  zal_c (zi_isn (j := 2) (by decide +kernel) rfl rfl (Nat.le_of_ble_eq_true rfl)) <|
  zal_c (zi_iln (j := 2) (by decide +kernel) rfl rfl) <|
  zal_c (zi_aln (j := 0) (by decide +kernel) rfl rfl) <|
  zal_c (zi_get (CN := RX0) (T := TX0) (N := 14) (index := 37) (by decide +kernel) rfl rfl (by decide) uw_X0 wf_H_37) <|
  zal_c (zi_cge (off := 32) (by decide +kernel) rfl rfl) <|
  zal_c (zi_aln (j := 0) (by decide +kernel) rfl rfl) <|
  zal_c (zi_iln (j := 1) (by decide +kernel) rfl rfl) <|
  zal_c (zi_cv (index := 89) (qc := (RX0, TX0, 14)) (by decide +kernel) rfl mk_H_receive rfl wm_H_89 wq_H_receive ww_H_receive ⟨rfl, rfl⟩ ⟨Nat.le_of_ble_eq_true rfl, Nat.le_of_ble_eq_true rfl⟩) <|
  zal_c (zi_iln (j := 1) (by decide +kernel) rfl rfl) <|
  zal_c (zi_iconst (n := 1) (by decide +kernel) rfl rfl) <|
  zal_c (zi_iadd (by decide +kernel) rfl) <|
  zal_c (zi_aln (j := 0) (by decide +kernel) rfl rfl) <|
  zal_c (zi_get (CN := RX0) (T := TX0) (N := 14) (index := 37) (by decide +kernel) rfl rfl (by decide) uw_X0 wf_H_37) <|
  zal_c (zi_cge (off := 9) (by decide +kernel) rfl rfl) <|
  zal_c (zi_iln (j := 1) (by decide +kernel) rfl rfl) <|
  zal_c (zi_iconst (n := 1) (by decide +kernel) rfl rfl) <|
  zal_c (zi_iadd (by decide +kernel) rfl) <|
  zal_c (zi_goto (off := 4) (by decide +kernel) rfl) <|
  zal_c (zi_iconst (n := 0) (by decide +kernel) rfl rfl) <|
  zal_c (zi_isn (j := 1) (by decide +kernel) rfl rfl (Nat.le_of_ble_eq_true rfl)) <|
  zal_c (zi_inc (n := 1) (by decide +kernel) rfl rfl) <|
  zal_c (zi_goto (off := -34) (by decide +kernel) rfl) <|
  zal_c (zi_iconst (n := 0) (by decide +kernel) rfl rfl) <|
  zal_c (zi_isn (j := 2) (by decide +kernel) rfl rfl (Nat.le_of_ble_eq_true rfl)) <|
  zal_c (zi_iln (j := 2) (by decide +kernel) rfl rfl) <|
  zal_c (zi_aln (j := 0) (by decide +kernel) rfl rfl) <|
  zal_c (zi_get (CN := RX0) (T := TX0) (N := 14) (index := 18) (by decide +kernel) rfl rfl (by decide) uw_X0 wf_H_18) <|
  zal_c (zi_cge (off := 61) (by decide +kernel) rfl rfl) <|
  zal_c (zi_aln (j := 0) (by decide +kernel) rfl rfl) <|
  zal_c (zi_iln (j := 2) (by decide +kernel) rfl rfl) <|
  zal_c (zi_cv (index := 93) (qc := (RX0, TX0, 14)) (by decide +kernel) rfl mk_H_isFree rfl wm_H_93 wq_H_isFree ww_H_isFree ⟨rfl, rfl⟩ ⟨Nat.le_of_ble_eq_true rfl, Nat.le_of_ble_eq_true rfl⟩) <|
  zal_c (zi_ifeq (off := 47) (by decide +kernel) rfl rfl) <|
  zal_c (zi_aln (j := 0) (by decide +kernel) rfl rfl) <|
  zal_c (zi_get (CN := RX0) (T := TX0) (N := 14) (index := 31) (by decide +kernel) rfl rfl (by decide) uw_X0 wf_H_31) <|
  zal_c (zi_iln (j := 2) (by decide +kernel) rfl rfl) <|
  zal_c (zi_aln (j := 0) (by decide +kernel) rfl rfl) <|
  zal_c (zi_get (CN := RX0) (T := TX0) (N := 14) (index := 31) (by decide +kernel) rfl rfl (by decide) uw_X0 wf_H_31) <|
  zal_c (zi_iln (j := 2) (by decide +kernel) rfl rfl) <|
  zal_c (zi_iald (by decide +kernel) rfl) <|
  zal_c (zi_iconst (n := 1) (by decide +kernel) rfl rfl) <|
  zal_c (zi_iadd (by decide +kernel) rfl) <|
  zal_c (zi_sipush (n := 9999) (by decide +kernel) rfl rfl) <|
  zal_c (zi_min (index := 97) (by decide +kernel) rfl wm_H_97 wt_min_s wt_i wt_min_c ⟨Nat.le_of_ble_eq_true rfl, Nat.le_of_ble_eq_true rfl⟩) <|
  zal_c (zi_iast (by decide +kernel) rfl) <|
  zal_c (zi_aln (j := 0) (by decide +kernel) rfl rfl) <|
  zal_c (zi_get (CN := RX0) (T := TX0) (N := 14) (index := 25) (by decide +kernel) rfl rfl (by decide) uw_X0 wf_H_25) <|
  zal_c (zi_iln (j := 2) (by decide +kernel) rfl rfl) <|
  zal_c (zi_aln (j := 0) (by decide +kernel) rfl rfl) <|
  zal_c (zi_get (CN := RX0) (T := TX0) (N := 14) (index := 25) (by decide +kernel) rfl rfl (by decide) uw_X0 wf_H_25) <|
  zal_c (zi_iln (j := 2) (by decide +kernel) rfl rfl) <|
  zal_c (zi_iald (by decide +kernel) rfl) <|
  zal_c (zi_aln (j := 0) (by decide +kernel) rfl rfl) <|
  zal_c (zi_iln (j := 2) (by decide +kernel) rfl rfl) <|
  zal_c (zi_cv (index := 102) (qc := (RX0, TX0, 14)) (by decide +kernel) rfl mk_H_chillsOf rfl wm_H_102 wq_H_chillsOf ww_H_chillsOf ⟨rfl, rfl⟩ ⟨Nat.le_of_ble_eq_true rfl, Nat.le_of_ble_eq_true rfl⟩) <|
  zal_c (zi_isub (by decide +kernel) rfl) <|
  zal_c (zi_iconst (n := 0) (by decide +kernel) rfl rfl) <|
  zal_c (zi_bipush (n := 99) (by decide +kernel) rfl rfl) <|
  zal_c (zi_cs (index := 106) (by decide +kernel) rfl mk_H_hold wm_H_106 wq_H_hold ⟨rfl, rfl⟩ ⟨Nat.le_of_ble_eq_true rfl, Nat.le_of_ble_eq_true rfl⟩) <|
  zal_c (zi_iast (by decide +kernel) rfl) <|
  zal_c (zi_inc (n := 1) (by decide +kernel) rfl rfl) <|
  zal_c (zi_goto (off := -63) (by decide +kernel) rfl) <|
  zal_c (zi_aln (j := 0) (by decide +kernel) rfl rfl) <|
  zal_c (zi_dup (by decide +kernel) rfl) <|
  zal_c (zi_get (CN := RX0) (T := TX0) (N := 14) (index := 9) (by decide +kernel) rfl rfl (by decide) uw_X0 wf_H_9) <|
  zal_c (zi_iconst (n := 1) (by decide +kernel) rfl rfl) <|
  zal_c (zi_iadd (by decide +kernel) rfl) <|
  zal_c (zi_puti (CN := RX0) (T := TX0) (N := 14) (index := 9) (ty0 := tyX0) (by decide +kernel) rfl rfl (by decide) uw_X0 wf_H_9 tyX0_ok nmX0 rfl (by decide +kernel)) <|
  zal_c (zi_vr (by decide +kernel) rfl) <|
  zal_n
set_option maxRecDepth 100000 in
set_option maxHeartbeats 4000000 in
theorem sn_H_receive (l : Launch) : zAl l 27 tb_H_receive :=
  zal_c (zi_aln (j := 0) (by decide +kernel) rfl rfl) <|
  zal_c (zi_iln (j := 1) (by decide +kernel) rfl rfl) <|
  zal_c (zi_cv (index := 110) (qc := (RX0, TX0, 14)) (by decide +kernel) rfl mk_H_chosenBy rfl wm_H_110 wq_H_chosenBy ww_H_chosenBy ⟨rfl, rfl⟩ ⟨Nat.le_of_ble_eq_true rfl, Nat.le_of_ble_eq_true rfl⟩) <|
  zal_c (zi_isn (j := 2) (by decide +kernel) rfl rfl (Nat.le_of_ble_eq_true rfl)) <|
  zal_c (zi_aln (j := 0) (by decide +kernel) rfl rfl) <|
  zal_c (zi_get (CN := RX0) (T := TX0) (N := 14) (index := 49) (by decide +kernel) rfl rfl (by decide) uw_X0 wf_H_49) <|
  zal_c (zi_iln (j := 1) (by decide +kernel) rfl rfl) <|
  zal_c (zi_iln (j := 2) (by decide +kernel) rfl rfl) <|
  zal_c (zi_iast (by decide +kernel) rfl) <|
  zal_c (zi_iln (j := 2) (by decide +kernel) rfl rfl) <|
  zal_c (zi_iconst (n := -1) (by decide +kernel) rfl rfl) <|
  zal_c (zi_cne (off := 27) (by decide +kernel) rfl rfl) <|
  zal_c (zi_aln (j := 0) (by decide +kernel) rfl rfl) <|
  zal_c (zi_get (CN := RX0) (T := TX0) (N := 14) (index := 43) (by decide +kernel) rfl rfl (by decide) uw_X0 wf_H_43) <|
  zal_c (zi_iln (j := 1) (by decide +kernel) rfl rfl) <|
  zal_c (zi_aln (j := 0) (by decide +kernel) rfl rfl) <|
  zal_c (zi_get (CN := RX0) (T := TX0) (N := 14) (index := 43) (by decide +kernel) rfl rfl (by decide) uw_X0 wf_H_43) <|
  zal_c (zi_iln (j := 1) (by decide +kernel) rfl rfl) <|
  zal_c (zi_iald (by decide +kernel) rfl) <|
  zal_c (zi_iconst (n := 1) (by decide +kernel) rfl rfl) <|
  zal_c (zi_isub (by decide +kernel) rfl) <|
  zal_c (zi_sipush (n := -999) (by decide +kernel) rfl rfl) <|
  zal_c (zi_sipush (n := 999) (by decide +kernel) rfl rfl) <|
  zal_c (zi_cs (index := 106) (by decide +kernel) rfl mk_H_hold wm_H_106 wq_H_hold ⟨rfl, rfl⟩ ⟨Nat.le_of_ble_eq_true rfl, Nat.le_of_ble_eq_true rfl⟩) <|
  zal_c (zi_iast (by decide +kernel) rfl) <|
  zal_c (zi_vr (by decide +kernel) rfl) <|
  zal_c (zi_aln (j := 0) (by decide +kernel) rfl rfl) <|
  zal_c (zi_dup (by decide +kernel) rfl) <|
  zal_c (zi_get (CN := RX0) (T := TX0) (N := 14) (index := 52) (by decide +kernel) rfl rfl (by decide) uw_X0 wf_H_52) <|
  zal_c (zi_iconst (n := 1) (by decide +kernel) rfl rfl) <|
  zal_c (zi_iln (j := 2) (by decide +kernel) rfl rfl) <|
  zal_c (zi_ishl (by decide +kernel) rfl) <|
  zal_c (zi_ior (by decide +kernel) rfl) <|
  zal_c (zi_puti (CN := RX0) (T := TX0) (N := 14) (index := 52) (ty0 := tyX0) (by decide +kernel) rfl rfl (by decide) uw_X0 wf_H_52 tyX0_ok nmX0 rfl (by decide +kernel)) <|
  zal_c (zi_aln (j := 0) (by decide +kernel) rfl rfl) <|
  zal_c (zi_get (CN := RX0) (T := TX0) (N := 14) (index := 43) (by decide +kernel) rfl rfl (by decide) uw_X0 wf_H_43) <|
  zal_c (zi_iln (j := 1) (by decide +kernel) rfl rfl) <|
  zal_c (zi_aln (j := 0) (by decide +kernel) rfl rfl) <|
  zal_c (zi_get (CN := RX0) (T := TX0) (N := 14) (index := 43) (by decide +kernel) rfl rfl (by decide) uw_X0 wf_H_43) <|
  zal_c (zi_iln (j := 1) (by decide +kernel) rfl rfl) <|
  zal_c (zi_iald (by decide +kernel) rfl) <|
  zal_c (zi_aln (j := 0) (by decide +kernel) rfl rfl) <|
  zal_c (zi_iln (j := 2) (by decide +kernel) rfl rfl) <|
  zal_c (zi_iln (j := 1) (by decide +kernel) rfl rfl) <|
  zal_c (zi_cv (index := 113) (qc := (RX0, TX0, 14)) (by decide +kernel) rfl mk_H_doesOf rfl wm_H_113 wq_H_doesOf ww_H_doesOf ⟨rfl, rfl⟩ ⟨Nat.le_of_ble_eq_true rfl, Nat.le_of_ble_eq_true rfl⟩) <|
  zal_c (zi_iadd (by decide +kernel) rfl) <|
  zal_c (zi_sipush (n := -999) (by decide +kernel) rfl rfl) <|
  zal_c (zi_sipush (n := 999) (by decide +kernel) rfl rfl) <|
  zal_c (zi_cs (index := 106) (by decide +kernel) rfl mk_H_hold wm_H_106 wq_H_hold ⟨rfl, rfl⟩ ⟨Nat.le_of_ble_eq_true rfl, Nat.le_of_ble_eq_true rfl⟩) <|
  zal_c (zi_iast (by decide +kernel) rfl) <|
  zal_c (zi_aln (j := 0) (by decide +kernel) rfl rfl) <|
  zal_c (zi_get (CN := RX0) (T := TX0) (N := 14) (index := 46) (by decide +kernel) rfl rfl (by decide) uw_X0 wf_H_46) <|
  zal_c (zi_iln (j := 1) (by decide +kernel) rfl rfl) <|
  zal_c (zi_iln (j := 2) (by decide +kernel) rfl rfl) <|
  zal_c (zi_iast (by decide +kernel) rfl) <|
  zal_c (zi_aln (j := 0) (by decide +kernel) rfl rfl) <|
  zal_c (zi_get (CN := RX0) (T := TX0) (N := 14) (index := 34) (by decide +kernel) rfl rfl (by decide) uw_X0 wf_H_34) <|
  zal_c (zi_iln (j := 2) (by decide +kernel) rfl rfl) <|
  zal_c (zi_aln (j := 0) (by decide +kernel) rfl rfl) <|
  zal_c (zi_get (CN := RX0) (T := TX0) (N := 14) (index := 34) (by decide +kernel) rfl rfl (by decide) uw_X0 wf_H_34) <|
  zal_c (zi_iln (j := 2) (by decide +kernel) rfl rfl) <|
  zal_c (zi_iald (by decide +kernel) rfl) <|
  zal_c (zi_iconst (n := 1) (by decide +kernel) rfl rfl) <|
  zal_c (zi_iadd (by decide +kernel) rfl) <|
  zal_c (zi_sipush (n := 9999) (by decide +kernel) rfl rfl) <|
  zal_c (zi_min (index := 97) (by decide +kernel) rfl wm_H_97 wt_min_s wt_i wt_min_c ⟨Nat.le_of_ble_eq_true rfl, Nat.le_of_ble_eq_true rfl⟩) <|
  zal_c (zi_iast (by decide +kernel) rfl) <|
  zal_c (zi_aln (j := 0) (by decide +kernel) rfl rfl) <|
  zal_c (zi_get (CN := RX0) (T := TX0) (N := 14) (index := 25) (by decide +kernel) rfl rfl (by decide) uw_X0 wf_H_25) <|
  zal_c (zi_iln (j := 2) (by decide +kernel) rfl rfl) <|
  zal_c (zi_aln (j := 0) (by decide +kernel) rfl rfl) <|
  zal_c (zi_get (CN := RX0) (T := TX0) (N := 14) (index := 25) (by decide +kernel) rfl rfl (by decide) uw_X0 wf_H_25) <|
  zal_c (zi_iln (j := 2) (by decide +kernel) rfl rfl) <|
  zal_c (zi_iald (by decide +kernel) rfl) <|
  zal_c (zi_aln (j := 0) (by decide +kernel) rfl rfl) <|
  zal_c (zi_iln (j := 2) (by decide +kernel) rfl rfl) <|
  zal_c (zi_iln (j := 1) (by decide +kernel) rfl rfl) <|
  zal_c (zi_cv (index := 116) (qc := (RX0, TX0, 14)) (by decide +kernel) rfl mk_H_thawsOf rfl wm_H_116 wq_H_thawsOf ww_H_thawsOf ⟨rfl, rfl⟩ ⟨Nat.le_of_ble_eq_true rfl, Nat.le_of_ble_eq_true rfl⟩) <|
  zal_c (zi_iadd (by decide +kernel) rfl) <|
  zal_c (zi_iconst (n := 0) (by decide +kernel) rfl rfl) <|
  zal_c (zi_bipush (n := 99) (by decide +kernel) rfl rfl) <|
  zal_c (zi_cs (index := 106) (by decide +kernel) rfl mk_H_hold wm_H_106 wq_H_hold ⟨rfl, rfl⟩ ⟨Nat.le_of_ble_eq_true rfl, Nat.le_of_ble_eq_true rfl⟩) <|
  zal_c (zi_iast (by decide +kernel) rfl) <|
  zal_c (zi_vr (by decide +kernel) rfl) <|
  zal_n
set_option maxRecDepth 100000 in
set_option maxHeartbeats 4000000 in
theorem sn_H_chosenBy (l : Launch) : zAl l 28 tb_H_chosenBy :=
  zal_c (zi_iconst (n := -1) (by decide +kernel) rfl rfl) <|
  zal_c (zi_isn (j := 2) (by decide +kernel) rfl rfl (Nat.le_of_ble_eq_true rfl)) <|
  zal_c (zi_iconst (n := 0) (by decide +kernel) rfl rfl) <|
  zal_c (zi_isn (j := 3) (by decide +kernel) rfl rfl (Nat.le_of_ble_eq_true rfl)) <|
  zal_c (zi_iconst (n := 0) (by decide +kernel) rfl rfl) <|
  zal_c (zi_is (by decide +kernel) rfl (Nat.le_of_ble_eq_true rfl)) <|
  zal_c (zi_il (by decide +kernel) rfl) <|
  zal_c (zi_aln (j := 0) (by decide +kernel) rfl rfl) <|
  zal_c (zi_get (CN := RX0) (T := TX0) (N := 14) (index := 18) (by decide +kernel) rfl rfl (by decide) uw_X0 wf_H_18) <|
  zal_c (zi_cge (off := 54) (by decide +kernel) rfl rfl) <|
  zal_c (zi_aln (j := 0) (by decide +kernel) rfl rfl) <|
  zal_c (zi_il (by decide +kernel) rfl) <|
  zal_c (zi_cv (index := 93) (qc := (RX0, TX0, 14)) (by decide +kernel) rfl mk_H_isFree rfl wm_H_93 wq_H_isFree ww_H_isFree ⟨rfl, rfl⟩ ⟨Nat.le_of_ble_eq_true rfl, Nat.le_of_ble_eq_true rfl⟩) <|
  zal_c (zi_ifeq (off := 39) (by decide +kernel) rfl rfl) <|
  zal_c (zi_aln (j := 0) (by decide +kernel) rfl rfl) <|
  zal_c (zi_get (CN := RX0) (T := TX0) (N := 14) (index := 28) (by decide +kernel) rfl rfl (by decide) uw_X0 wf_H_28) <|
  zal_c (zi_il (by decide +kernel) rfl) <|
  zal_c (zi_iald (by decide +kernel) rfl) <|
  zal_c (zi_ifne (off := 29) (by decide +kernel) rfl rfl) <|
  zal_c (zi_aln (j := 0) (by decide +kernel) rfl rfl) <|
  zal_c (zi_il (by decide +kernel) rfl) <|
  zal_c (zi_iln (j := 1) (by decide +kernel) rfl rfl) <|
  zal_c (zi_cv (index := 119) (qc := (RX0, TX0, 14)) (by decide +kernel) rfl mk_H_charmsOf rfl wm_H_119 wq_H_charmsOf ww_H_charmsOf ⟨rfl, rfl⟩ ⟨Nat.le_of_ble_eq_true rfl, Nat.le_of_ble_eq_true rfl⟩) <|
  zal_c (zi_is (by decide +kernel) rfl (Nat.le_of_ble_eq_true rfl)) <|
  zal_c (zi_iln (j := 2) (by decide +kernel) rfl rfl) <|
  zal_c (zi_iconst (n := -1) (by decide +kernel) rfl rfl) <|
  zal_c (zi_ceq (off := 9) (by decide +kernel) rfl rfl) <|
  zal_c (zi_il (by decide +kernel) rfl) <|
  zal_c (zi_iln (j := 3) (by decide +kernel) rfl rfl) <|
  zal_c (zi_cle (off := 9) (by decide +kernel) rfl rfl) <|
  zal_c (zi_il (by decide +kernel) rfl) <|
  zal_c (zi_isn (j := 2) (by decide +kernel) rfl rfl (Nat.le_of_ble_eq_true rfl)) <|
  zal_c (zi_il (by decide +kernel) rfl) <|
  zal_c (zi_isn (j := 3) (by decide +kernel) rfl rfl (Nat.le_of_ble_eq_true rfl)) <|
  zal_c (zi_inc (n := 1) (by decide +kernel) rfl rfl) <|
  zal_c (zi_goto (off := -57) (by decide +kernel) rfl) <|
  zal_c (zi_iln (j := 2) (by decide +kernel) rfl rfl) <|
  zal_c (zi_ir (by decide +kernel) rfl) <|
  zal_n
set_option maxRecDepth 100000 in
set_option maxHeartbeats 4000000 in
theorem sn_H_isFree (l : Launch) : zAl l 29 tb_H_isFree :=
  zal_c (zi_aln (j := 0) (by decide +kernel) rfl rfl) <|
  zal_c (zi_get (CN := RX0) (T := TX0) (N := 14) (index := 52) (by decide +kernel) rfl rfl (by decide) uw_X0 wf_H_52) <|
  zal_c (zi_iconst (n := 1) (by decide +kernel) rfl rfl) <|
  zal_c (zi_iln (j := 1) (by decide +kernel) rfl rfl) <|
  zal_c (zi_ishl (by decide +kernel) rfl) <|
  zal_c (zi_iand (by decide +kernel) rfl) <|
  zal_c (zi_ifne (off := 7) (by decide +kernel) rfl rfl) <|
  zal_c (zi_iconst (n := 1) (by decide +kernel) rfl rfl) <|
  zal_c (zi_goto (off := 4) (by decide +kernel) rfl) <|
  zal_c (zi_iconst (n := 0) (by decide +kernel) rfl rfl) <|
  zal_c (zi_zr (by decide +kernel) rfl) <|
  zal_n
set_option maxRecDepth 100000 in
set_option maxHeartbeats 4000000 in
theorem sn_H_sum (l : Launch) : zAl l 30 tb_H_sum :=
  zal_c (zi_iconst (n := 0) (by decide +kernel) rfl rfl) <|
  zal_c (zi_isn (j := 2) (by decide +kernel) rfl rfl (Nat.le_of_ble_eq_true rfl)) <|
  zal_c (zi_iconst (n := 0) (by decide +kernel) rfl rfl) <|
  zal_c (zi_isn (j := 3) (by decide +kernel) rfl rfl (Nat.le_of_ble_eq_true rfl)) <|
  zal_c (zi_iln (j := 3) (by decide +kernel) rfl rfl) <|
  zal_c (zi_iln (j := 1) (by decide +kernel) rfl rfl) <|
  zal_c (zi_cge (off := 21) (by decide +kernel) rfl rfl) <|
  zal_c (zi_iln (j := 3) (by decide +kernel) rfl rfl) <|
  zal_c (zi_aln (j := 0) (by decide +kernel) rfl rfl) <|
  zal_c (zi_alen (by decide +kernel) rfl) <|
  zal_c (zi_cge (off := 15) (by decide +kernel) rfl rfl) <|
  zal_c (zi_iln (j := 2) (by decide +kernel) rfl rfl) <|
  zal_c (zi_aln (j := 0) (by decide +kernel) rfl rfl) <|
  zal_c (zi_iln (j := 3) (by decide +kernel) rfl rfl) <|
  zal_c (zi_iald (by decide +kernel) rfl) <|
  zal_c (zi_iadd (by decide +kernel) rfl) <|
  zal_c (zi_isn (j := 2) (by decide +kernel) rfl rfl (Nat.le_of_ble_eq_true rfl)) <|
  zal_c (zi_inc (n := 1) (by decide +kernel) rfl rfl) <|
  zal_c (zi_goto (off := -20) (by decide +kernel) rfl) <|
  zal_c (zi_iln (j := 2) (by decide +kernel) rfl rfl) <|
  zal_c (zi_ir (by decide +kernel) rfl) <|
  zal_n
set_option maxRecDepth 100000 in
set_option maxHeartbeats 4000000 in
theorem sn_H_hold (l : Launch) : zAl l 31 tb_H_hold :=
  zal_c (zi_iln (j := 1) (by decide +kernel) rfl rfl) <|
  zal_c (zi_iln (j := 0) (by decide +kernel) rfl rfl) <|
  zal_c (zi_iln (j := 2) (by decide +kernel) rfl rfl) <|
  zal_c (zi_min (index := 97) (by decide +kernel) rfl wm_H_97 wt_min_s wt_i wt_min_c ⟨Nat.le_of_ble_eq_true rfl, Nat.le_of_ble_eq_true rfl⟩) <|
  zal_c (zi_max (index := 122) (by decide +kernel) rfl wm_H_122 wt_max_s wt_i wt_max_c ⟨Nat.le_of_ble_eq_true rfl, Nat.le_of_ble_eq_true rfl⟩) <|
  zal_c (zi_ir (by decide +kernel) rfl) <|
  zal_n
set_option maxRecDepth 100000 in
set_option maxHeartbeats 4000000 in
theorem sn_T_init (l : Launch) : zAl l 32 tb_T_init :=
  zal_c (zi_aln (j := 0) (by decide +kernel) rfl rfl) <|
  zal_c (zi_obj (index := 3) (by decide +kernel) rfl wm_T_3 wo_i wo_c ⟨Nat.le_of_ble_eq_true rfl, Nat.le_of_ble_eq_true rfl⟩) <|
  zal_c (zi_aln (j := 0) (by decide +kernel) rfl rfl) <|
  zal_c (zi_bipush (n := 120) (by decide +kernel) rfl rfl) <|
  zal_c (zi_newi (by decide +kernel) rfl wa_int ⟨Nat.le_of_ble_eq_true rfl, Nat.le_of_ble_eq_true rfl⟩) <|
  zal_c (zi_puta (CN := RX3) (T := TX3) (N := 6) (index := 9) (ty0 := tyX3) (by decide +kernel) rfl rfl (by decide) uw_X3 wf_T_9 tyX3_ok nmX3 rfl rfl (ty := .array .int) (by decide +kernel) (fun _ => rfl) (fun _ => rfl) rfl) <|
  zal_c (zi_aln (j := 0) (by decide +kernel) rfl rfl) <|
  zal_c (zi_iconst (n := 0) (by decide +kernel) rfl rfl) <|
  zal_c (zi_puti (CN := RX3) (T := TX3) (N := 6) (index := 15) (ty0 := tyX3) (by decide +kernel) rfl rfl (by decide) uw_X3 wf_T_15 tyX3_ok nmX3 rfl (by decide +kernel)) <|
  zal_c (zi_aln (j := 0) (by decide +kernel) rfl rfl) <|
  zal_c (zi_iconst (n := 0) (by decide +kernel) rfl rfl) <|
  zal_c (zi_puti (CN := RX3) (T := TX3) (N := 6) (index := 19) (ty0 := tyX3) (by decide +kernel) rfl rfl (by decide) uw_X3 wf_T_19 tyX3_ok nmX3 rfl (by decide +kernel)) <|
  zal_c (zi_aln (j := 0) (by decide +kernel) rfl rfl) <|
  zal_c (zi_iconst (n := 0) (by decide +kernel) rfl rfl) <|
  zal_c (zi_puti (CN := RX3) (T := TX3) (N := 6) (index := 22) (ty0 := tyX3) (by decide +kernel) rfl rfl (by decide) uw_X3 wf_T_22 tyX3_ok nmX3 rfl (by decide +kernel)) <|
  zal_c (zi_aln (j := 0) (by decide +kernel) rfl rfl) <|
  zal_c (zi_iconst (n := 0) (by decide +kernel) rfl rfl) <|
  zal_c (zi_puti (CN := RX3) (T := TX3) (N := 6) (index := 25) (ty0 := tyX3) (by decide +kernel) rfl rfl (by decide) uw_X3 wf_T_25 tyX3_ok nmX3 rfl (by decide +kernel)) <|
  zal_c (zi_aln (j := 0) (by decide +kernel) rfl rfl) <|
  zal_c (zi_iconst (n := 0) (by decide +kernel) rfl rfl) <|
  zal_c (zi_puti (CN := RX3) (T := TX3) (N := 6) (index := 28) (ty0 := tyX3) (by decide +kernel) rfl rfl (by decide) uw_X3 wf_T_28 tyX3_ok nmX3 rfl (by decide +kernel)) <|
  zal_c (zi_vr (by decide +kernel) rfl) <|
  zal_n
set_option maxRecDepth 100000 in
set_option maxHeartbeats 4000000 in
theorem sn_T_tellTo (l : Launch) : zAl l 33 tb_T_tellTo :=
  zal_c (zi_aln (j := 0) (by decide +kernel) rfl rfl) <|
  zal_c (zi_iconst (n := 0) (by decide +kernel) rfl rfl) <|
  zal_c (zi_puti (CN := RX3) (T := TX3) (N := 6) (index := 25) (ty0 := tyX3) (by decide +kernel) rfl rfl (by decide) uw_X3 wf_T_25 tyX3_ok nmX3 rfl (by decide +kernel)) <|
  zal_c (zi_iconst (n := 1) (by decide +kernel) rfl rfl) <|
  zal_c (zi_isn (j := 2) (by decide +kernel) rfl rfl (Nat.le_of_ble_eq_true rfl)) <|
  zal_c (zi_iln (j := 2) (by decide +kernel) rfl rfl) <|
  zal_c (zi_bipush (n := 120) (by decide +kernel) rfl rfl) <|
  zal_c (zi_cgt (off := 52) (by decide +kernel) rfl rfl) <|
  zal_c (zi_aln (j := 0) (by decide +kernel) rfl rfl) <|
  zal_c (zi_cv (index := 31) (qc := (RX3, TX3, 6)) (by decide +kernel) rfl mk_T_advance rfl wm_T_31 wq_T_advance ww_T_advance ⟨rfl, rfl⟩ ⟨Nat.le_of_ble_eq_true rfl, Nat.le_of_ble_eq_true rfl⟩) <|
  zal_c (zi_aln (j := 0) (by decide +kernel) rfl rfl) <|
  zal_c (zi_aln (j := 1) (by decide +kernel) rfl rfl) <|
  zal_c (zi_cv (index := 34) (qc := (RX3, TX3, 6)) (by decide +kernel) rfl mk_T_tellItem rfl wm_T_34 wq_T_tellItem ww_T_tellItem ⟨rfl, rfl⟩ ⟨Nat.le_of_ble_eq_true rfl, Nat.le_of_ble_eq_true rfl⟩) <|
  zal_c (zi_ifne (off := 10) (by decide +kernel) rfl rfl) <|
  zal_c (zi_iconst (n := -1) (by decide +kernel) rfl rfl) <|
  zal_c (zi_aln (j := 0) (by decide +kernel) rfl rfl) <|
  zal_c (zi_get (CN := RX3) (T := TX3) (N := 6) (index := 22) (by decide +kernel) rfl rfl (by decide) uw_X3 wf_T_22) <|
  zal_c (zi_isub (by decide +kernel) rfl) <|
  zal_c (zi_ir (by decide +kernel) rfl) <|
  zal_c (zi_aln (j := 0) (by decide +kernel) rfl rfl) <|
  zal_c (zi_get (CN := RX3) (T := TX3) (N := 6) (index := 19) (by decide +kernel) rfl rfl (by decide) uw_X3 wf_T_19) <|
  zal_c (zi_ifne (off := 5) (by decide +kernel) rfl rfl) <|
  zal_c (zi_iln (j := 2) (by decide +kernel) rfl rfl) <|
  zal_c (zi_ir (by decide +kernel) rfl) <|
  zal_c (zi_aln (j := 0) (by decide +kernel) rfl rfl) <|
  zal_c (zi_get (CN := RX3) (T := TX3) (N := 6) (index := 19) (by decide +kernel) rfl rfl (by decide) uw_X3 wf_T_19) <|
  zal_c (zi_iconst (n := 3) (by decide +kernel) rfl rfl) <|
  zal_c (zi_ceq (off := 10) (by decide +kernel) rfl rfl) <|
  zal_c (zi_iconst (n := -1) (by decide +kernel) rfl rfl) <|
  zal_c (zi_aln (j := 0) (by decide +kernel) rfl rfl) <|
  zal_c (zi_get (CN := RX3) (T := TX3) (N := 6) (index := 22) (by decide +kernel) rfl rfl (by decide) uw_X3 wf_T_22) <|
  zal_c (zi_isub (by decide +kernel) rfl) <|
  zal_c (zi_ir (by decide +kernel) rfl) <|
  zal_c (zi_inc (n := 1) (by decide +kernel) rfl rfl) <|
  zal_c (zi_goto (off := -52) (by decide +kernel) rfl) <|
  zal_c (zi_iconst (n := -1) (by decide +kernel) rfl rfl) <|
  zal_c (zi_aln (j := 0) (by decide +kernel) rfl rfl) <|
  zal_c (zi_get (CN := RX3) (T := TX3) (N := 6) (index := 22) (by decide +kernel) rfl rfl (by decide) uw_X3 wf_T_22) <|
  zal_c (zi_isub (by decide +kernel) rfl) <|
  zal_c (zi_ir (by decide +kernel) rfl) <|
  zal_n
set_option maxRecDepth 100000 in
set_option maxHeartbeats 4000000 in
theorem sn_T_tellItem (l : Launch) : zAl l 34 tb_T_tellItem :=
  zal_c (zi_iconst (n := 0) (by decide +kernel) rfl rfl) <|
  zal_c (zi_isn (j := 2) (by decide +kernel) rfl rfl (Nat.le_of_ble_eq_true rfl)) <|
  zal_c (zi_iln (j := 2) (by decide +kernel) rfl rfl) <|
  zal_c (zi_bipush (n := 6) (by decide +kernel) rfl rfl) <|
  zal_c (zi_cge (off := 27) (by decide +kernel) rfl rfl) <|
  zal_c (zi_aln (j := 0) (by decide +kernel) rfl rfl) <|
  zal_c (zi_iln (j := 2) (by decide +kernel) rfl rfl) <|
  zal_c (zi_cs (index := 40) (by decide +kernel) rfl mk_K_nameOf wm_T_40 wq_K_nameOf ⟨rfl, rfl⟩ ⟨Nat.le_of_ble_eq_true rfl, Nat.le_of_ble_eq_true rfl⟩) <|
  zal_c (zi_cv (index := 44) (qc := (RX3, TX3, 6)) (by decide +kernel) rfl mk_T_isWord rfl wm_T_44 wq_T_isWord ww_T_isWord ⟨rfl, rfl⟩ ⟨Nat.le_of_ble_eq_true rfl, Nat.le_of_ble_eq_true rfl⟩) <|
  zal_c (zi_ifeq (off := 10) (by decide +kernel) rfl rfl) <|
  zal_c (zi_aln (j := 0) (by decide +kernel) rfl rfl) <|
  zal_c (zi_aln (j := 1) (by decide +kernel) rfl rfl) <|
  zal_c (zi_iln (j := 2) (by decide +kernel) rfl rfl) <|
  zal_c (zi_cv (index := 48) (qc := (RX3, TX3, 6)) (by decide +kernel) rfl mk_T_tellInlaw rfl wm_T_48 wq_T_tellInlaw ww_T_tellInlaw ⟨rfl, rfl⟩ ⟨Nat.le_of_ble_eq_true rfl, Nat.le_of_ble_eq_true rfl⟩) <|
  zal_c (zi_zr (by decide +kernel) rfl) <|
  zal_c (zi_inc (n := 1) (by decide +kernel) rfl rfl) <|
  zal_c (zi_goto (off := -27) (by decide +kernel) rfl) <|
  zal_c (zi_aln (j := 0) (by decide +kernel) rfl rfl) <|
  zal_c (zi_ldcs (i := 6) (by decide +kernel) rfl (by decide) rfl) <|
  zal_c (zi_cv (index := 44) (qc := (RX3, TX3, 6)) (by decide +kernel) rfl mk_T_isWord rfl wm_T_44 wq_T_isWord ww_T_isWord ⟨rfl, rfl⟩ ⟨Nat.le_of_ble_eq_true rfl, Nat.le_of_ble_eq_true rfl⟩) <|
  zal_c (zi_ifeq (off := 9) (by decide +kernel) rfl rfl) <|
  zal_c (zi_aln (j := 0) (by decide +kernel) rfl rfl) <|
  zal_c (zi_aln (j := 1) (by decide +kernel) rfl rfl) <|
  zal_c (zi_cv (index := 54) (qc := (RX3, TX3, 6)) (by decide +kernel) rfl mk_T_tellCouple rfl wm_T_54 wq_T_tellCouple ww_T_tellCouple ⟨rfl, rfl⟩ ⟨Nat.le_of_ble_eq_true rfl, Nat.le_of_ble_eq_true rfl⟩) <|
  zal_c (zi_zr (by decide +kernel) rfl) <|
  zal_c (zi_aln (j := 0) (by decide +kernel) rfl rfl) <|
  zal_c (zi_ldcs (i := 7) (by decide +kernel) rfl (by decide) rfl) <|
  zal_c (zi_cv (index := 44) (qc := (RX3, TX3, 6)) (by decide +kernel) rfl mk_T_isWord rfl wm_T_44 wq_T_isWord ww_T_isWord ⟨rfl, rfl⟩ ⟨Nat.le_of_ble_eq_true rfl, Nat.le_of_ble_eq_true rfl⟩) <|
  zal_c (zi_ifeq (off := 9) (by decide +kernel) rfl rfl) <|
  zal_c (zi_aln (j := 0) (by decide +kernel) rfl rfl) <|
  zal_c (zi_aln (j := 1) (by decide +kernel) rfl rfl) <|
  zal_c (zi_cv (index := 59) (qc := (RX3, TX3, 6)) (by decide +kernel) rfl mk_T_tellFire rfl wm_T_59 wq_T_tellFire ww_T_tellFire ⟨rfl, rfl⟩ ⟨Nat.le_of_ble_eq_true rfl, Nat.le_of_ble_eq_true rfl⟩) <|
  zal_c (zi_zr (by decide +kernel) rfl) <|
  zal_c (zi_aln (j := 0) (by decide +kernel) rfl rfl) <|
  zal_c (zi_ldcs (i := 8) (by decide +kernel) rfl (by decide) rfl) <|
  zal_c (zi_cv (index := 44) (qc := (RX3, TX3, 6)) (by decide +kernel) rfl mk_T_isWord rfl wm_T_44 wq_T_isWord ww_T_isWord ⟨rfl, rfl⟩ ⟨Nat.le_of_ble_eq_true rfl, Nat.le_of_ble_eq_true rfl⟩) <|
  zal_c (zi_ifeq (off := 15) (by decide +kernel) rfl rfl) <|
  zal_c (zi_aln (j := 0) (by decide +kernel) rfl rfl) <|
  zal_c (zi_aln (j := 1) (by decide +kernel) rfl rfl) <|
  zal_c (zi_cv (index := 64) (qc := (RX3, TX3, 6)) (by decide +kernel) rfl mk_T_tellSit rfl wm_T_64 wq_T_tellSit ww_T_tellSit ⟨rfl, rfl⟩ ⟨Nat.le_of_ble_eq_true rfl, Nat.le_of_ble_eq_true rfl⟩) <|
  zal_c (zi_ifeq (off := 7) (by decide +kernel) rfl rfl) <|
  zal_c (zi_iconst (n := 1) (by decide +kernel) rfl rfl) <|
  zal_c (zi_goto (off := 4) (by decide +kernel) rfl) <|
  zal_c (zi_iconst (n := 0) (by decide +kernel) rfl rfl) <|
  zal_c (zi_zr (by decide +kernel) rfl) <|
  zal_n
set_option maxRecDepth 100000 in
set_option maxHeartbeats 4000000 in
theorem sn_T_tellInlaw (l : Launch) : zAl l 35 tb_T_tellInlaw :=
  zal_c (zi_aln (j := 1) (by decide +kernel) rfl rfl) <|
  zal_c (zi_iln (j := 2) (by decide +kernel) rfl rfl) <|
  zal_c (zi_cv (index := 67) (qc := (RX0, TX0, 14)) (by decide +kernel) rfl mk_H_addInlaw rfl wm_T_67 wq_H_addInlaw ww_H_addInlaw ⟨rfl, rfl⟩ ⟨Nat.le_of_ble_eq_true rfl, Nat.le_of_ble_eq_true rfl⟩) <|
  zal_c (zi_isn (j := 3) (by decide +kernel) rfl rfl (Nat.le_of_ble_eq_true rfl)) <|
  zal_c (zi_iln (j := 3) (by decide +kernel) rfl rfl) <|
  zal_c (zi_iconst (n := -1) (by decide +kernel) rfl rfl) <|
  zal_c (zi_cne (off := 5) (by decide +kernel) rfl rfl) <|
  zal_c (zi_iconst (n := 0) (by decide +kernel) rfl rfl) <|
  zal_c (zi_zr (by decide +kernel) rfl) <|
  zal_c (zi_aln (j := 0) (by decide +kernel) rfl rfl) <|
  zal_c (zi_cv (index := 31) (qc := (RX3, TX3, 6)) (by decide +kernel) rfl mk_T_advance rfl wm_T_31 wq_T_advance ww_T_advance ⟨rfl, rfl⟩ ⟨Nat.le_of_ble_eq_true rfl, Nat.le_of_ble_eq_true rfl⟩) <|
  zal_c (zi_aln (j := 0) (by decide +kernel) rfl rfl) <|
  zal_c (zi_ldcs (i := 9) (by decide +kernel) rfl (by decide) rfl) <|
  zal_c (zi_cv (index := 44) (qc := (RX3, TX3, 6)) (by decide +kernel) rfl mk_T_isWord rfl wm_T_44 wq_T_isWord ww_T_isWord ⟨rfl, rfl⟩ ⟨Nat.le_of_ble_eq_true rfl, Nat.le_of_ble_eq_true rfl⟩) <|
  zal_c (zi_ifeq (off := 32) (by decide +kernel) rfl rfl) <|
  zal_c (zi_aln (j := 0) (by decide +kernel) rfl rfl) <|
  zal_c (zi_cv (index := 31) (qc := (RX3, TX3, 6)) (by decide +kernel) rfl mk_T_advance rfl wm_T_31 wq_T_advance ww_T_advance ⟨rfl, rfl⟩ ⟨Nat.le_of_ble_eq_true rfl, Nat.le_of_ble_eq_true rfl⟩) <|
  zal_c (zi_aln (j := 0) (by decide +kernel) rfl rfl) <|
  zal_c (zi_bipush (n := 99) (by decide +kernel) rfl rfl) <|
  zal_c (zi_cv (index := 75) (qc := (RX3, TX3, 6)) (by decide +kernel) rfl mk_T_isNumberTo rfl wm_T_75 wq_T_isNumberTo ww_T_isNumberTo ⟨rfl, rfl⟩ ⟨Nat.le_of_ble_eq_true rfl, Nat.le_of_ble_eq_true rfl⟩) <|
  zal_c (zi_ifne (off := 5) (by decide +kernel) rfl rfl) <|
  zal_c (zi_iconst (n := 0) (by decide +kernel) rfl rfl) <|
  zal_c (zi_zr (by decide +kernel) rfl) <|
  zal_c (zi_aln (j := 1) (by decide +kernel) rfl rfl) <|
  zal_c (zi_get (CN := RX0) (T := TX0) (N := 14) (index := 79) (by decide +kernel) rfl rfl (by decide) uw_X0 wf_T_79) <|
  zal_c (zi_iln (j := 3) (by decide +kernel) rfl rfl) <|
  zal_c (zi_aln (j := 0) (by decide +kernel) rfl rfl) <|
  zal_c (zi_get (CN := RX3) (T := TX3) (N := 6) (index := 28) (by decide +kernel) rfl rfl (by decide) uw_X3 wf_T_28) <|
  zal_c (zi_iast (by decide +kernel) rfl) <|
  zal_c (zi_aln (j := 0) (by decide +kernel) rfl rfl) <|
  zal_c (zi_cv (index := 31) (qc := (RX3, TX3, 6)) (by decide +kernel) rfl mk_T_advance rfl wm_T_31 wq_T_advance ww_T_advance ⟨rfl, rfl⟩ ⟨Nat.le_of_ble_eq_true rfl, Nat.le_of_ble_eq_true rfl⟩) <|
  zal_c (zi_aln (j := 0) (by decide +kernel) rfl rfl) <|
  zal_c (zi_ldcs (i := 10) (by decide +kernel) rfl (by decide) rfl) <|
  zal_c (zi_cv (index := 44) (qc := (RX3, TX3, 6)) (by decide +kernel) rfl mk_T_isWord rfl wm_T_44 wq_T_isWord ww_T_isWord ⟨rfl, rfl⟩ ⟨Nat.le_of_ble_eq_true rfl, Nat.le_of_ble_eq_true rfl⟩) <|
  zal_c (zi_ifeq (off := 14) (by decide +kernel) rfl rfl) <|
  zal_c (zi_aln (j := 1) (by decide +kernel) rfl rfl) <|
  zal_c (zi_get (CN := RX0) (T := TX0) (N := 14) (index := 84) (by decide +kernel) rfl rfl (by decide) uw_X0 wf_T_84) <|
  zal_c (zi_iln (j := 3) (by decide +kernel) rfl rfl) <|
  zal_c (zi_iconst (n := 1) (by decide +kernel) rfl rfl) <|
  zal_c (zi_iast (by decide +kernel) rfl) <|
  zal_c (zi_aln (j := 0) (by decide +kernel) rfl rfl) <|
  zal_c (zi_cv (index := 31) (qc := (RX3, TX3, 6)) (by decide +kernel) rfl mk_T_advance rfl wm_T_31 wq_T_advance ww_T_advance ⟨rfl, rfl⟩ ⟨Nat.le_of_ble_eq_true rfl, Nat.le_of_ble_eq_true rfl⟩) <|
  zal_c (zi_iconst (n := 1) (by decide +kernel) rfl rfl) <|
  zal_c (zi_zr (by decide +kernel) rfl) <|
  zal_n
set_option maxRecDepth 100000 in
set_option maxHeartbeats 4000000 in
theorem sn_T_tellCouple (l : Launch) : zAl l 36 tb_T_tellCouple :=
  zal_c (zi_aln (j := 1) (by decide +kernel) rfl rfl) <|
  zal_c (zi_iconst (n := 0) (by decide +kernel) rfl rfl) <|
  zal_c (zi_cv (index := 87) (qc := (RX0, TX0, 14)) (by decide +kernel) rfl mk_H_addCouple rfl wm_T_87 wq_H_addCouple ww_H_addCouple ⟨rfl, rfl⟩ ⟨Nat.le_of_ble_eq_true rfl, Nat.le_of_ble_eq_true rfl⟩) <|
  zal_c (zi_isn (j := 2) (by decide +kernel) rfl rfl (Nat.le_of_ble_eq_true rfl)) <|
  zal_c (zi_iln (j := 2) (by decide +kernel) rfl rfl) <|
  zal_c (zi_iconst (n := -1) (by decide +kernel) rfl rfl) <|
  zal_c (zi_cne (off := 5) (by decide +kernel) rfl rfl) <|
  zal_c (zi_iconst (n := 0) (by decide +kernel) rfl rfl) <|
  zal_c (zi_zr (by decide +kernel) rfl) <|
  zal_c (zi_aln (j := 0) (by decide +kernel) rfl rfl) <|
  zal_c (zi_cv (index := 31) (qc := (RX3, TX3, 6)) (by decide +kernel) rfl mk_T_advance rfl wm_T_31 wq_T_advance ww_T_advance ⟨rfl, rfl⟩ ⟨Nat.le_of_ble_eq_true rfl, Nat.le_of_ble_eq_true rfl⟩) <|
  zal_c (zi_aln (j := 0) (by decide +kernel) rfl rfl) <|
  zal_c (zi_bipush (n := 9) (by decide +kernel) rfl rfl) <|
  zal_c (zi_cv (index := 75) (qc := (RX3, TX3, 6)) (by decide +kernel) rfl mk_T_isNumberTo rfl wm_T_75 wq_T_isNumberTo ww_T_isNumberTo ⟨rfl, rfl⟩ ⟨Nat.le_of_ble_eq_true rfl, Nat.le_of_ble_eq_true rfl⟩) <|
  zal_c (zi_ifne (off := 5) (by decide +kernel) rfl rfl) <|
  zal_c (zi_iconst (n := 0) (by decide +kernel) rfl rfl) <|
  zal_c (zi_zr (by decide +kernel) rfl) <|
  zal_c (zi_aln (j := 1) (by decide +kernel) rfl rfl) <|
  zal_c (zi_get (CN := RX0) (T := TX0) (N := 14) (index := 90) (by decide +kernel) rfl rfl (by decide) uw_X0 wf_T_90) <|
  zal_c (zi_iln (j := 2) (by decide +kernel) rfl rfl) <|
  zal_c (zi_aln (j := 0) (by decide +kernel) rfl rfl) <|
  zal_c (zi_get (CN := RX3) (T := TX3) (N := 6) (index := 28) (by decide +kernel) rfl rfl (by decide) uw_X3 wf_T_28) <|
  zal_c (zi_iast (by decide +kernel) rfl) <|
  zal_c (zi_aln (j := 0) (by decide +kernel) rfl rfl) <|
  zal_c (zi_cv (index := 31) (qc := (RX3, TX3, 6)) (by decide +kernel) rfl mk_T_advance rfl wm_T_31 wq_T_advance ww_T_advance ⟨rfl, rfl⟩ ⟨Nat.le_of_ble_eq_true rfl, Nat.le_of_ble_eq_true rfl⟩) <|
  zal_c (zi_aln (j := 0) (by decide +kernel) rfl rfl) <|
  zal_c (zi_ldcs (i := 11) (by decide +kernel) rfl (by decide) rfl) <|
  zal_c (zi_cv (index := 44) (qc := (RX3, TX3, 6)) (by decide +kernel) rfl mk_T_isWord rfl wm_T_44 wq_T_isWord ww_T_isWord ⟨rfl, rfl⟩ ⟨Nat.le_of_ble_eq_true rfl, Nat.le_of_ble_eq_true rfl⟩) <|
  zal_c (zi_ifeq (off := 36) (by decide +kernel) rfl rfl) <|
  zal_c (zi_aln (j := 0) (by decide +kernel) rfl rfl) <|
  zal_c (zi_cv (index := 31) (qc := (RX3, TX3, 6)) (by decide +kernel) rfl mk_T_advance rfl wm_T_31 wq_T_advance ww_T_advance ⟨rfl, rfl⟩ ⟨Nat.le_of_ble_eq_true rfl, Nat.le_of_ble_eq_true rfl⟩) <|
  zal_c (zi_aln (j := 0) (by decide +kernel) rfl rfl) <|
  zal_c (zi_aln (j := 1) (by decide +kernel) rfl rfl) <|
  zal_c (zi_get (CN := RX0) (T := TX0) (N := 14) (index := 95) (by decide +kernel) rfl rfl (by decide) uw_X0 wf_T_95) <|
  zal_c (zi_iconst (n := 1) (by decide +kernel) rfl rfl) <|
  zal_c (zi_isub (by decide +kernel) rfl) <|
  zal_c (zi_cv (index := 75) (qc := (RX3, TX3, 6)) (by decide +kernel) rfl mk_T_isNumberTo rfl wm_T_75 wq_T_isNumberTo ww_T_isNumberTo ⟨rfl, rfl⟩ ⟨Nat.le_of_ble_eq_true rfl, Nat.le_of_ble_eq_true rfl⟩) <|
  zal_c (zi_ifne (off := 5) (by decide +kernel) rfl rfl) <|
  zal_c (zi_iconst (n := 0) (by decide +kernel) rfl rfl) <|
  zal_c (zi_zr (by decide +kernel) rfl) <|
  zal_c (zi_aln (j := 1) (by decide +kernel) rfl rfl) <|
  zal_c (zi_get (CN := RX0) (T := TX0) (N := 14) (index := 98) (by decide +kernel) rfl rfl (by decide) uw_X0 wf_T_98) <|
  zal_c (zi_iln (j := 2) (by decide +kernel) rfl rfl) <|
  zal_c (zi_aln (j := 0) (by decide +kernel) rfl rfl) <|
  zal_c (zi_get (CN := RX3) (T := TX3) (N := 6) (index := 28) (by decide +kernel) rfl rfl (by decide) uw_X3 wf_T_28) <|
  zal_c (zi_iast (by decide +kernel) rfl) <|
  zal_c (zi_aln (j := 0) (by decide +kernel) rfl rfl) <|
  zal_c (zi_cv (index := 31) (qc := (RX3, TX3, 6)) (by decide +kernel) rfl mk_T_advance rfl wm_T_31 wq_T_advance ww_T_advance ⟨rfl, rfl⟩ ⟨Nat.le_of_ble_eq_true rfl, Nat.le_of_ble_eq_true rfl⟩) <|
  zal_c (zi_iconst (n := 1) (by decide +kernel) rfl rfl) <|
  zal_c (zi_zr (by decide +kernel) rfl) <|
  zal_n
set_option maxRecDepth 100000 in
set_option maxHeartbeats 4000000 in
theorem sn_T_tellFire (l : Launch) : zAl l 37 tb_T_tellFire :=
  zal_c (zi_aln (j := 0) (by decide +kernel) rfl rfl) <|
  zal_c (zi_cv (index := 31) (qc := (RX3, TX3, 6)) (by decide +kernel) rfl mk_T_advance rfl wm_T_31 wq_T_advance ww_T_advance ⟨rfl, rfl⟩ ⟨Nat.le_of_ble_eq_true rfl, Nat.le_of_ble_eq_true rfl⟩) <|
  zal_c (zi_aln (j := 0) (by decide +kernel) rfl rfl) <|
  zal_c (zi_bipush (n := 20) (by decide +kernel) rfl rfl) <|
  zal_c (zi_cv (index := 75) (qc := (RX3, TX3, 6)) (by decide +kernel) rfl mk_T_isNumberTo rfl wm_T_75 wq_T_isNumberTo ww_T_isNumberTo ⟨rfl, rfl⟩ ⟨Nat.le_of_ble_eq_true rfl, Nat.le_of_ble_eq_true rfl⟩) <|
  zal_c (zi_ifne (off := 5) (by decide +kernel) rfl rfl) <|
  zal_c (zi_iconst (n := 0) (by decide +kernel) rfl rfl) <|
  zal_c (zi_zr (by decide +kernel) rfl) <|
  zal_c (zi_aln (j := 1) (by decide +kernel) rfl rfl) <|
  zal_c (zi_aln (j := 0) (by decide +kernel) rfl rfl) <|
  zal_c (zi_get (CN := RX3) (T := TX3) (N := 6) (index := 28) (by decide +kernel) rfl rfl (by decide) uw_X3 wf_T_28) <|
  zal_c (zi_puti (CN := RX0) (T := TX0) (N := 14) (index := 101) (ty0 := tyX0) (by decide +kernel) rfl rfl (by decide) uw_X0 wf_T_101 tyX0_ok nmX0 rfl (by decide +kernel)) <|
  zal_c (zi_aln (j := 0) (by decide +kernel) rfl rfl) <|
  zal_c (zi_cv (index := 31) (qc := (RX3, TX3, 6)) (by decide +kernel) rfl mk_T_advance rfl wm_T_31 wq_T_advance ww_T_advance ⟨rfl, rfl⟩ ⟨Nat.le_of_ble_eq_true rfl, Nat.le_of_ble_eq_true rfl⟩) <|
  zal_c (zi_iconst (n := 1) (by decide +kernel) rfl rfl) <|
  zal_c (zi_zr (by decide +kernel) rfl) <|
  zal_n
set_option maxRecDepth 100000 in
set_option maxHeartbeats 4000000 in
theorem sn_T_tellSit (l : Launch) : zAl l 38 tb_T_tellSit :=
  zal_c (zi_aln (j := 0) (by decide +kernel) rfl rfl) <|
  zal_c (zi_cv (index := 31) (qc := (RX3, TX3, 6)) (by decide +kernel) rfl mk_T_advance rfl wm_T_31 wq_T_advance ww_T_advance ⟨rfl, rfl⟩ ⟨Nat.le_of_ble_eq_true rfl, Nat.le_of_ble_eq_true rfl⟩) <|
  zal_c (zi_aln (j := 0) (by decide +kernel) rfl rfl) <|
  zal_c (zi_aln (j := 1) (by decide +kernel) rfl rfl) <|
  zal_c (zi_get (CN := RX0) (T := TX0) (N := 14) (index := 95) (by decide +kernel) rfl rfl (by decide) uw_X0 wf_T_95) <|
  zal_c (zi_iconst (n := 1) (by decide +kernel) rfl rfl) <|
  zal_c (zi_isub (by decide +kernel) rfl) <|
  zal_c (zi_cv (index := 75) (qc := (RX3, TX3, 6)) (by decide +kernel) rfl mk_T_isNumberTo rfl wm_T_75 wq_T_isNumberTo ww_T_isNumberTo ⟨rfl, rfl⟩ ⟨Nat.le_of_ble_eq_true rfl, Nat.le_of_ble_eq_true rfl⟩) <|
  zal_c (zi_ifne (off := 5) (by decide +kernel) rfl rfl) <|
  zal_c (zi_iconst (n := 0) (by decide +kernel) rfl rfl) <|
  zal_c (zi_zr (by decide +kernel) rfl) <|
  zal_c (zi_aln (j := 1) (by decide +kernel) rfl rfl) <|
  zal_c (zi_get (CN := RX0) (T := TX0) (N := 14) (index := 84) (by decide +kernel) rfl rfl (by decide) uw_X0 wf_T_84) <|
  zal_c (zi_aln (j := 0) (by decide +kernel) rfl rfl) <|
  zal_c (zi_get (CN := RX3) (T := TX3) (N := 6) (index := 28) (by decide +kernel) rfl rfl (by decide) uw_X3 wf_T_28) <|
  zal_c (zi_iconst (n := 1) (by decide +kernel) rfl rfl) <|
  zal_c (zi_iast (by decide +kernel) rfl) <|
  zal_c (zi_aln (j := 0) (by decide +kernel) rfl rfl) <|
  zal_c (zi_cv (index := 31) (qc := (RX3, TX3, 6)) (by decide +kernel) rfl mk_T_advance rfl wm_T_31 wq_T_advance ww_T_advance ⟨rfl, rfl⟩ ⟨Nat.le_of_ble_eq_true rfl, Nat.le_of_ble_eq_true rfl⟩) <|
  zal_c (zi_iconst (n := 1) (by decide +kernel) rfl rfl) <|
  zal_c (zi_zr (by decide +kernel) rfl) <|
  zal_n
set_option maxRecDepth 100000 in
set_option maxHeartbeats 4000000 in
theorem sn_T_advance (l : Launch) : zAl l 39 tb_T_advance :=
  zal_c (zi_aln (j := 0) (by decide +kernel) rfl rfl) <|
  zal_c (zi_get (CN := RX3) (T := TX3) (N := 6) (index := 25) (by decide +kernel) rfl rfl (by decide) uw_X3 wf_T_25) <|
  zal_c (zi_aln (j := 0) (by decide +kernel) rfl rfl) <|
  zal_c (zi_get (CN := RX3) (T := TX3) (N := 6) (index := 15) (by decide +kernel) rfl rfl (by decide) uw_X3 wf_T_15) <|
  zal_c (zi_cge (off := 30) (by decide +kernel) rfl rfl) <|
  zal_c (zi_aln (j := 0) (by decide +kernel) rfl rfl) <|
  zal_c (zi_get (CN := RX3) (T := TX3) (N := 6) (index := 9) (by decide +kernel) rfl rfl (by decide) uw_X3 wf_T_9) <|
  zal_c (zi_aln (j := 0) (by decide +kernel) rfl rfl) <|
  zal_c (zi_get (CN := RX3) (T := TX3) (N := 6) (index := 25) (by decide +kernel) rfl rfl (by decide) uw_X3 wf_T_25) <|
  zal_c (zi_iald (by decide +kernel) rfl) <|
  zal_c (zi_bipush (n := 32) (by decide +kernel) rfl rfl) <|
  zal_c (zi_cne (off := 16) (by decide +kernel) rfl rfl) <|
  zal_c (zi_aln (j := 0) (by decide +kernel) rfl rfl) <|
  zal_c (zi_dup (by decide +kernel) rfl) <|
  zal_c (zi_get (CN := RX3) (T := TX3) (N := 6) (index := 25) (by decide +kernel) rfl rfl (by decide) uw_X3 wf_T_25) <|
  zal_c (zi_iconst (n := 1) (by decide +kernel) rfl rfl) <|
  zal_c (zi_iadd (by decide +kernel) rfl) <|
  zal_c (zi_puti (CN := RX3) (T := TX3) (N := 6) (index := 25) (ty0 := tyX3) (by decide +kernel) rfl rfl (by decide) uw_X3 wf_T_25 tyX3_ok nmX3 rfl (by decide +kernel)) <|
  zal_c (zi_goto (off := -35) (by decide +kernel) rfl) <|
  zal_c (zi_aln (j := 0) (by decide +kernel) rfl rfl) <|
  zal_c (zi_aln (j := 0) (by decide +kernel) rfl rfl) <|
  zal_c (zi_get (CN := RX3) (T := TX3) (N := 6) (index := 25) (by decide +kernel) rfl rfl (by decide) uw_X3 wf_T_25) <|
  zal_c (zi_puti (CN := RX3) (T := TX3) (N := 6) (index := 22) (ty0 := tyX3) (by decide +kernel) rfl rfl (by decide) uw_X3 wf_T_22 tyX3_ok nmX3 rfl (by decide +kernel)) <|
  zal_c (zi_aln (j := 0) (by decide +kernel) rfl rfl) <|
  zal_c (zi_get (CN := RX3) (T := TX3) (N := 6) (index := 22) (by decide +kernel) rfl rfl (by decide) uw_X3 wf_T_22) <|
  zal_c (zi_aln (j := 0) (by decide +kernel) rfl rfl) <|
  zal_c (zi_get (CN := RX3) (T := TX3) (N := 6) (index := 15) (by decide +kernel) rfl rfl (by decide) uw_X3 wf_T_15) <|
  zal_c (zi_clt (off := 11) (by decide +kernel) rfl rfl) <|
  zal_c (zi_aln (j := 0) (by decide +kernel) rfl rfl) <|
  zal_c (zi_iconst (n := 0) (by decide +kernel) rfl rfl) <|
  zal_c (zi_puti (CN := RX3) (T := TX3) (N := 6) (index := 19) (ty0 := tyX3) (by decide +kernel) rfl rfl (by decide) uw_X3 wf_T_19 tyX3_ok nmX3 rfl (by decide +kernel)) <|
  zal_c (zi_goto (off := 90) (by decide +kernel) rfl) <|
  zal_c (zi_aln (j := 0) (by decide +kernel) rfl rfl) <|
  zal_c (zi_get (CN := RX3) (T := TX3) (N := 6) (index := 9) (by decide +kernel) rfl rfl (by decide) uw_X3 wf_T_9) <|
  zal_c (zi_aln (j := 0) (by decide +kernel) rfl rfl) <|
  zal_c (zi_get (CN := RX3) (T := TX3) (N := 6) (index := 22) (by decide +kernel) rfl rfl (by decide) uw_X3 wf_T_22) <|
  zal_c (zi_iald (by decide +kernel) rfl) <|
  zal_c (zi_cs (index := 103) (by decide +kernel) rfl mk_T_isLetter wm_T_103 wq_T_isLetter ⟨rfl, rfl⟩ ⟨Nat.le_of_ble_eq_true rfl, Nat.le_of_ble_eq_true rfl⟩) <|
  zal_c (zi_ifeq (off := 15) (by decide +kernel) rfl rfl) <|
  zal_c (zi_aln (j := 0) (by decide +kernel) rfl rfl) <|
  zal_c (zi_iconst (n := 1) (by decide +kernel) rfl rfl) <|
  zal_c (zi_puti (CN := RX3) (T := TX3) (N := 6) (index := 19) (ty0 := tyX3) (by decide +kernel) rfl rfl (by decide) uw_X3 wf_T_19 tyX3_ok nmX3 rfl (by decide +kernel)) <|
  zal_c (zi_aln (j := 0) (by decide +kernel) rfl rfl) <|
  zal_c (zi_cv (index := 106) (qc := (RX3, TX3, 6)) (by decide +kernel) rfl mk_T_takeWord rfl wm_T_106 wq_T_takeWord ww_T_takeWord ⟨rfl, rfl⟩ ⟨Nat.le_of_ble_eq_true rfl, Nat.le_of_ble_eq_true rfl⟩) <|
  zal_c (zi_goto (off := 63) (by decide +kernel) rfl) <|
  zal_c (zi_aln (j := 0) (by decide +kernel) rfl rfl) <|
  zal_c (zi_get (CN := RX3) (T := TX3) (N := 6) (index := 9) (by decide +kernel) rfl rfl (by decide) uw_X3 wf_T_9) <|
  zal_c (zi_aln (j := 0) (by decide +kernel) rfl rfl) <|
  zal_c (zi_get (CN := RX3) (T := TX3) (N := 6) (index := 22) (by decide +kernel) rfl rfl (by decide) uw_X3 wf_T_22) <|
  zal_c (zi_iald (by decide +kernel) rfl) <|
  zal_c (zi_cs (index := 109) (by decide +kernel) rfl mk_T_isDigit wm_T_109 wq_T_isDigit ⟨rfl, rfl⟩ ⟨Nat.le_of_ble_eq_true rfl, Nat.le_of_ble_eq_true rfl⟩) <|
  zal_c (zi_ifeq (off := 15) (by decide +kernel) rfl rfl) <|
  zal_c (zi_aln (j := 0) (by decide +kernel) rfl rfl) <|
  zal_c (zi_iconst (n := 2) (by decide +kernel) rfl rfl) <|
  zal_c (zi_puti (CN := RX3) (T := TX3) (N := 6) (index := 19) (ty0 := tyX3) (by decide +kernel) rfl rfl (by decide) uw_X3 wf_T_19 tyX3_ok nmX3 rfl (by decide +kernel)) <|
  zal_c (zi_aln (j := 0) (by decide +kernel) rfl rfl) <|
  zal_c (zi_cv (index := 112) (qc := (RX3, TX3, 6)) (by decide +kernel) rfl mk_T_takeNumber rfl wm_T_112 wq_T_takeNumber ww_T_takeNumber ⟨rfl, rfl⟩ ⟨Nat.le_of_ble_eq_true rfl, Nat.le_of_ble_eq_true rfl⟩) <|
  zal_c (zi_goto (off := 36) (by decide +kernel) rfl) <|
  zal_c (zi_aln (j := 0) (by decide +kernel) rfl rfl) <|
  zal_c (zi_aln (j := 0) (by decide +kernel) rfl rfl) <|
  zal_c (zi_get (CN := RX3) (T := TX3) (N := 6) (index := 9) (by decide +kernel) rfl rfl (by decide) uw_X3 wf_T_9) <|
  zal_c (zi_aln (j := 0) (by decide +kernel) rfl rfl) <|
  zal_c (zi_get (CN := RX3) (T := TX3) (N := 6) (index := 22) (by decide +kernel) rfl rfl (by decide) uw_X3 wf_T_22) <|
  zal_c (zi_iald (by decide +kernel) rfl) <|
  zal_c (zi_bipush (n := 59) (by decide +kernel) rfl rfl) <|
  zal_c (zi_cne (off := 7) (by decide +kernel) rfl rfl) <|
  zal_c (zi_iconst (n := 3) (by decide +kernel) rfl rfl) <|
  zal_c (zi_goto (off := 4) (by decide +kernel) rfl) <|
  zal_c (zi_iconst (n := 4) (by decide +kernel) rfl rfl) <|
  zal_c (zi_puti (CN := RX3) (T := TX3) (N := 6) (index := 19) (ty0 := tyX3) (by decide +kernel) rfl rfl (by decide) uw_X3 wf_T_19 tyX3_ok nmX3 rfl (by decide +kernel)) <|
  zal_c (zi_aln (j := 0) (by decide +kernel) rfl rfl) <|
  zal_c (zi_dup (by decide +kernel) rfl) <|
  zal_c (zi_get (CN := RX3) (T := TX3) (N := 6) (index := 25) (by decide +kernel) rfl rfl (by decide) uw_X3 wf_T_25) <|
  zal_c (zi_iconst (n := 1) (by decide +kernel) rfl rfl) <|
  zal_c (zi_iadd (by decide +kernel) rfl) <|
  zal_c (zi_puti (CN := RX3) (T := TX3) (N := 6) (index := 25) (ty0 := tyX3) (by decide +kernel) rfl rfl (by decide) uw_X3 wf_T_25 tyX3_ok nmX3 rfl (by decide +kernel)) <|
  zal_c (zi_vr (by decide +kernel) rfl) <|
  zal_n
set_option maxRecDepth 100000 in
set_option maxHeartbeats 4000000 in
theorem sn_T_takeWord (l : Launch) : zAl l 40 tb_T_takeWord :=
  zal_c (zi_aln (j := 0) (by decide +kernel) rfl rfl) <|
  zal_c (zi_get (CN := RX3) (T := TX3) (N := 6) (index := 25) (by decide +kernel) rfl rfl (by decide) uw_X3 wf_T_25) <|
  zal_c (zi_aln (j := 0) (by decide +kernel) rfl rfl) <|
  zal_c (zi_get (CN := RX3) (T := TX3) (N := 6) (index := 15) (by decide +kernel) rfl rfl (by decide) uw_X3 wf_T_15) <|
  zal_c (zi_cge (off := 31) (by decide +kernel) rfl rfl) <|
  zal_c (zi_aln (j := 0) (by decide +kernel) rfl rfl) <|
  zal_c (zi_get (CN := RX3) (T := TX3) (N := 6) (index := 9) (by decide +kernel) rfl rfl (by decide) uw_X3 wf_T_9) <|
  zal_c (zi_aln (j := 0) (by decide +kernel) rfl rfl) <|
  zal_c (zi_get (CN := RX3) (T := TX3) (N := 6) (index := 25) (by decide +kernel) rfl rfl (by decide) uw_X3 wf_T_25) <|
  zal_c (zi_iald (by decide +kernel) rfl) <|
  zal_c (zi_cs (index := 103) (by decide +kernel) rfl mk_T_isLetter wm_T_103 wq_T_isLetter ⟨rfl, rfl⟩ ⟨Nat.le_of_ble_eq_true rfl, Nat.le_of_ble_eq_true rfl⟩) <|
  zal_c (zi_ifeq (off := 16) (by decide +kernel) rfl rfl) <|
  zal_c (zi_aln (j := 0) (by decide +kernel) rfl rfl) <|
  zal_c (zi_dup (by decide +kernel) rfl) <|
  zal_c (zi_get (CN := RX3) (T := TX3) (N := 6) (index := 25) (by decide +kernel) rfl rfl (by decide) uw_X3 wf_T_25) <|
  zal_c (zi_iconst (n := 1) (by decide +kernel) rfl rfl) <|
  zal_c (zi_iadd (by decide +kernel) rfl) <|
  zal_c (zi_puti (CN := RX3) (T := TX3) (N := 6) (index := 25) (ty0 := tyX3) (by decide +kernel) rfl rfl (by decide) uw_X3 wf_T_25 tyX3_ok nmX3 rfl (by decide +kernel)) <|
  zal_c (zi_goto (off := -36) (by decide +kernel) rfl) <|
  zal_c (zi_vr (by decide +kernel) rfl) <|
  zal_n
set_option maxRecDepth 100000 in
set_option maxHeartbeats 4000000 in
theorem sn_T_takeNumber (l : Launch) : zAl l 41 tb_T_takeNumber :=
  zal_c (zi_aln (j := 0) (by decide +kernel) rfl rfl) <|
  zal_c (zi_iconst (n := 0) (by decide +kernel) rfl rfl) <|
  zal_c (zi_puti (CN := RX3) (T := TX3) (N := 6) (index := 28) (ty0 := tyX3) (by decide +kernel) rfl rfl (by decide) uw_X3 wf_T_28 tyX3_ok nmX3 rfl (by decide +kernel)) <|
  zal_c (zi_aln (j := 0) (by decide +kernel) rfl rfl) <|
  zal_c (zi_get (CN := RX3) (T := TX3) (N := 6) (index := 25) (by decide +kernel) rfl rfl (by decide) uw_X3 wf_T_25) <|
  zal_c (zi_aln (j := 0) (by decide +kernel) rfl rfl) <|
  zal_c (zi_get (CN := RX3) (T := TX3) (N := 6) (index := 15) (by decide +kernel) rfl rfl (by decide) uw_X3 wf_T_15) <|
  zal_c (zi_cge (off := 61) (by decide +kernel) rfl rfl) <|
  zal_c (zi_aln (j := 0) (by decide +kernel) rfl rfl) <|
  zal_c (zi_get (CN := RX3) (T := TX3) (N := 6) (index := 9) (by decide +kernel) rfl rfl (by decide) uw_X3 wf_T_9) <|
  zal_c (zi_aln (j := 0) (by decide +kernel) rfl rfl) <|
  zal_c (zi_get (CN := RX3) (T := TX3) (N := 6) (index := 25) (by decide +kernel) rfl rfl (by decide) uw_X3 wf_T_25) <|
  zal_c (zi_iald (by decide +kernel) rfl) <|
  zal_c (zi_cs (index := 109) (by decide +kernel) rfl mk_T_isDigit wm_T_109 wq_T_isDigit ⟨rfl, rfl⟩ ⟨Nat.le_of_ble_eq_true rfl, Nat.le_of_ble_eq_true rfl⟩) <|
  zal_c (zi_ifeq (off := 46) (by decide +kernel) rfl rfl) <|
  zal_c (zi_aln (j := 0) (by decide +kernel) rfl rfl) <|
  zal_c (zi_bipush (n := 10) (by decide +kernel) rfl rfl) <|
  zal_c (zi_aln (j := 0) (by decide +kernel) rfl rfl) <|
  zal_c (zi_get (CN := RX3) (T := TX3) (N := 6) (index := 28) (by decide +kernel) rfl rfl (by decide) uw_X3 wf_T_28) <|
  zal_c (zi_imul (by decide +kernel) rfl) <|
  zal_c (zi_aln (j := 0) (by decide +kernel) rfl rfl) <|
  zal_c (zi_get (CN := RX3) (T := TX3) (N := 6) (index := 9) (by decide +kernel) rfl rfl (by decide) uw_X3 wf_T_9) <|
  zal_c (zi_aln (j := 0) (by decide +kernel) rfl rfl) <|
  zal_c (zi_get (CN := RX3) (T := TX3) (N := 6) (index := 25) (by decide +kernel) rfl rfl (by decide) uw_X3 wf_T_25) <|
  zal_c (zi_iald (by decide +kernel) rfl) <|
  zal_c (zi_iadd (by decide +kernel) rfl) <|
  zal_c (zi_bipush (n := 48) (by decide +kernel) rfl rfl) <|
  zal_c (zi_isub (by decide +kernel) rfl) <|
  zal_c (zi_sipush (n := 1000) (by decide +kernel) rfl rfl) <|
  zal_c (zi_min (index := 115) (by decide +kernel) rfl wm_T_115 wt_min_s wt_i wt_min_c ⟨Nat.le_of_ble_eq_true rfl, Nat.le_of_ble_eq_true rfl⟩) <|
  zal_c (zi_puti (CN := RX3) (T := TX3) (N := 6) (index := 28) (ty0 := tyX3) (by decide +kernel) rfl rfl (by decide) uw_X3 wf_T_28 tyX3_ok nmX3 rfl (by decide +kernel)) <|
  zal_c (zi_aln (j := 0) (by decide +kernel) rfl rfl) <|
  zal_c (zi_dup (by decide +kernel) rfl) <|
  zal_c (zi_get (CN := RX3) (T := TX3) (N := 6) (index := 25) (by decide +kernel) rfl rfl (by decide) uw_X3 wf_T_25) <|
  zal_c (zi_iconst (n := 1) (by decide +kernel) rfl rfl) <|
  zal_c (zi_iadd (by decide +kernel) rfl) <|
  zal_c (zi_puti (CN := RX3) (T := TX3) (N := 6) (index := 25) (ty0 := tyX3) (by decide +kernel) rfl rfl (by decide) uw_X3 wf_T_25 tyX3_ok nmX3 rfl (by decide +kernel)) <|
  zal_c (zi_goto (off := -66) (by decide +kernel) rfl) <|
  zal_c (zi_vr (by decide +kernel) rfl) <|
  zal_n
set_option maxRecDepth 100000 in
set_option maxHeartbeats 4000000 in
theorem sn_T_isWord (l : Launch) : zAl l 42 tb_T_isWord :=
  zal_c (zi_aln (j := 0) (by decide +kernel) rfl rfl) <|
  zal_c (zi_get (CN := RX3) (T := TX3) (N := 6) (index := 19) (by decide +kernel) rfl rfl (by decide) uw_X3 wf_T_19) <|
  zal_c (zi_iconst (n := 1) (by decide +kernel) rfl rfl) <|
  zal_c (zi_cne (off := 19) (by decide +kernel) rfl rfl) <|
  zal_c (zi_aln (j := 0) (by decide +kernel) rfl rfl) <|
  zal_c (zi_get (CN := RX3) (T := TX3) (N := 6) (index := 25) (by decide +kernel) rfl rfl (by decide) uw_X3 wf_T_25) <|
  zal_c (zi_aln (j := 0) (by decide +kernel) rfl rfl) <|
  zal_c (zi_get (CN := RX3) (T := TX3) (N := 6) (index := 22) (by decide +kernel) rfl rfl (by decide) uw_X3 wf_T_22) <|
  zal_c (zi_isub (by decide +kernel) rfl) <|
  zal_c (zi_aln (j := 1) (by decide +kernel) rfl rfl) <|
  zal_c (zi_slen (index := 121) (by decide +kernel) rfl wm_T_121 ⟨Nat.le_of_ble_eq_true rfl, Nat.le_of_ble_eq_true rfl⟩) <|
  zal_c (zi_ceq (off := 5) (by decide +kernel) rfl rfl) <|
  zal_c (zi_iconst (n := 0) (by decide +kernel) rfl rfl) <|
  zal_c (zi_zr (by decide +kernel) rfl) <|
  zal_c (zi_iconst (n := 0) (by decide +kernel) rfl rfl) <|
  zal_c (zi_isn (j := 2) (by decide +kernel) rfl rfl (Nat.le_of_ble_eq_true rfl)) <|
  zal_c (zi_iln (j := 2) (by decide +kernel) rfl rfl) <|
  zal_c (zi_aln (j := 1) (by decide +kernel) rfl rfl) <|
  zal_c (zi_slen (index := 121) (by decide +kernel) rfl wm_T_121 ⟨Nat.le_of_ble_eq_true rfl, Nat.le_of_ble_eq_true rfl⟩) <|
  zal_c (zi_cge (off := 30) (by decide +kernel) rfl rfl) <|
  zal_c (zi_aln (j := 0) (by decide +kernel) rfl rfl) <|
  zal_c (zi_get (CN := RX3) (T := TX3) (N := 6) (index := 9) (by decide +kernel) rfl rfl (by decide) uw_X3 wf_T_9) <|
  zal_c (zi_aln (j := 0) (by decide +kernel) rfl rfl) <|
  zal_c (zi_get (CN := RX3) (T := TX3) (N := 6) (index := 22) (by decide +kernel) rfl rfl (by decide) uw_X3 wf_T_22) <|
  zal_c (zi_iln (j := 2) (by decide +kernel) rfl rfl) <|
  zal_c (zi_iadd (by decide +kernel) rfl) <|
  zal_c (zi_iald (by decide +kernel) rfl) <|
  zal_c (zi_aln (j := 1) (by decide +kernel) rfl rfl) <|
  zal_c (zi_iln (j := 2) (by decide +kernel) rfl rfl) <|
  zal_c (zi_sch (index := 126) (by decide +kernel) rfl wm_T_126 ⟨Nat.le_of_ble_eq_true rfl, Nat.le_of_ble_eq_true rfl⟩) <|
  zal_c (zi_ceq (off := 5) (by decide +kernel) rfl rfl) <|
  zal_c (zi_iconst (n := 0) (by decide +kernel) rfl rfl) <|
  zal_c (zi_zr (by decide +kernel) rfl) <|
  zal_c (zi_inc (n := 1) (by decide +kernel) rfl rfl) <|
  zal_c (zi_goto (off := -32) (by decide +kernel) rfl) <|
  zal_c (zi_iconst (n := 1) (by decide +kernel) rfl rfl) <|
  zal_c (zi_zr (by decide +kernel) rfl) <|
  zal_n
set_option maxRecDepth 100000 in
set_option maxHeartbeats 4000000 in
theorem sn_T_isNumberTo (l : Launch) : zAl l 43 tb_T_isNumberTo :=
  zal_c (zi_aln (j := 0) (by decide +kernel) rfl rfl) <|
  zal_c (zi_get (CN := RX3) (T := TX3) (N := 6) (index := 19) (by decide +kernel) rfl rfl (by decide) uw_X3 wf_T_19) <|
  zal_c (zi_iconst (n := 2) (by decide +kernel) rfl rfl) <|
  zal_c (zi_cne (off := 15) (by decide +kernel) rfl rfl) <|
  zal_c (zi_aln (j := 0) (by decide +kernel) rfl rfl) <|
  zal_c (zi_get (CN := RX3) (T := TX3) (N := 6) (index := 28) (by decide +kernel) rfl rfl (by decide) uw_X3 wf_T_28) <|
  zal_c (zi_iln (j := 1) (by decide +kernel) rfl rfl) <|
  zal_c (zi_cgt (off := 7) (by decide +kernel) rfl rfl) <|
  zal_c (zi_iconst (n := 1) (by decide +kernel) rfl rfl) <|
  zal_c (zi_goto (off := 4) (by decide +kernel) rfl) <|
  zal_c (zi_iconst (n := 0) (by decide +kernel) rfl rfl) <|
  zal_c (zi_zr (by decide +kernel) rfl) <|
  zal_n
set_option maxRecDepth 100000 in
set_option maxHeartbeats 4000000 in
theorem sn_T_isLetter (l : Launch) : zAl l 44 tb_T_isLetter :=
  zal_c (zi_iln (j := 0) (by decide +kernel) rfl rfl) <|
  zal_c (zi_bipush (n := 97) (by decide +kernel) rfl rfl) <|
  zal_c (zi_clt (off := 13) (by decide +kernel) rfl rfl) <|
  zal_c (zi_iln (j := 0) (by decide +kernel) rfl rfl) <|
  zal_c (zi_bipush (n := 122) (by decide +kernel) rfl rfl) <|
  zal_c (zi_cgt (off := 7) (by decide +kernel) rfl rfl) <|
  zal_c (zi_iconst (n := 1) (by decide +kernel) rfl rfl) <|
  zal_c (zi_goto (off := 4) (by decide +kernel) rfl) <|
  zal_c (zi_iconst (n := 0) (by decide +kernel) rfl rfl) <|
  zal_c (zi_zr (by decide +kernel) rfl) <|
  zal_n
set_option maxRecDepth 100000 in
set_option maxHeartbeats 4000000 in
theorem sn_T_isDigit (l : Launch) : zAl l 45 tb_T_isDigit :=
  zal_c (zi_iln (j := 0) (by decide +kernel) rfl rfl) <|
  zal_c (zi_bipush (n := 48) (by decide +kernel) rfl rfl) <|
  zal_c (zi_clt (off := 13) (by decide +kernel) rfl rfl) <|
  zal_c (zi_iln (j := 0) (by decide +kernel) rfl rfl) <|
  zal_c (zi_bipush (n := 57) (by decide +kernel) rfl rfl) <|
  zal_c (zi_cgt (off := 7) (by decide +kernel) rfl rfl) <|
  zal_c (zi_iconst (n := 1) (by decide +kernel) rfl rfl) <|
  zal_c (zi_goto (off := 4) (by decide +kernel) rfl) <|
  zal_c (zi_iconst (n := 0) (by decide +kernel) rfl rfl) <|
  zal_c (zi_zr (by decide +kernel) rfl) <|
  zal_n
set_option maxRecDepth 100000 in
set_option maxHeartbeats 4000000 in
theorem sn_X_init (l : Launch) : zAl l 46 tb_X_init :=
  zal_c (zi_aln (j := 0) (by decide +kernel) rfl rfl) <|
  zal_c (zi_obj (index := 1) (by decide +kernel) rfl wm_X_1 wo_i wo_c ⟨Nat.le_of_ble_eq_true rfl, Nat.le_of_ble_eq_true rfl⟩) <|
  zal_c (zi_aln (j := 0) (by decide +kernel) rfl rfl) <|
  zal_c (zi_new (CN := RX0) (T := TX0) (index := 7) (ty0 := tyX0) (by decide +kernel) rfl rfl uw_X0 tyX0_ok wk_X_7 wi_X0 wn_X0 (by decide +kernel) (fun _ => rfl) ⟨Nat.le_of_ble_eq_true rfl, Nat.le_of_ble_eq_true rfl⟩) <|
  zal_c (zi_dup (by decide +kernel) rfl) <|
  zal_c (zi_ci (index := 9) (by decide +kernel) rfl mk_H_init rfl rfl wm_X_9 wq_H_init ⟨rfl, rfl⟩ ⟨Nat.le_of_ble_eq_true rfl, Nat.le_of_ble_eq_true rfl⟩ ⟨Nat.le_of_ble_eq_true rfl, Nat.le_of_ble_eq_true rfl⟩) <|
  zal_c (zi_puta (CN := RX4) (T := TX4) (N := 7) (index := 10) (ty0 := tyX4) (by decide +kernel) rfl rfl (by decide) uw_X4 wf_X_10 tyX4_ok nmX4 rfl rfl (ty := .object "PooledInlaws$Hall") (by decide +kernel) (fun _ => rfl) (fun _ => rfl) rfl) <|
  zal_c (zi_aln (j := 0) (by decide +kernel) rfl rfl) <|
  zal_c (zi_new (CN := RX0) (T := TX0) (index := 7) (ty0 := tyX0) (by decide +kernel) rfl rfl uw_X0 tyX0_ok wk_X_7 wi_X0 wn_X0 (by decide +kernel) (fun _ => rfl) ⟨Nat.le_of_ble_eq_true rfl, Nat.le_of_ble_eq_true rfl⟩) <|
  zal_c (zi_dup (by decide +kernel) rfl) <|
  zal_c (zi_ci (index := 9) (by decide +kernel) rfl mk_H_init rfl rfl wm_X_9 wq_H_init ⟨rfl, rfl⟩ ⟨Nat.le_of_ble_eq_true rfl, Nat.le_of_ble_eq_true rfl⟩ ⟨Nat.le_of_ble_eq_true rfl, Nat.le_of_ble_eq_true rfl⟩) <|
  zal_c (zi_puta (CN := RX4) (T := TX4) (N := 7) (index := 16) (ty0 := tyX4) (by decide +kernel) rfl rfl (by decide) uw_X4 wf_X_16 tyX4_ok nmX4 rfl rfl (ty := .object "PooledInlaws$Hall") (by decide +kernel) (fun _ => rfl) (fun _ => rfl) rfl) <|
  zal_c (zi_aln (j := 0) (by decide +kernel) rfl rfl) <|
  zal_c (zi_new (CN := RX0) (T := TX0) (index := 7) (ty0 := tyX0) (by decide +kernel) rfl rfl uw_X0 tyX0_ok wk_X_7 wi_X0 wn_X0 (by decide +kernel) (fun _ => rfl) ⟨Nat.le_of_ble_eq_true rfl, Nat.le_of_ble_eq_true rfl⟩) <|
  zal_c (zi_dup (by decide +kernel) rfl) <|
  zal_c (zi_ci (index := 9) (by decide +kernel) rfl mk_H_init rfl rfl wm_X_9 wq_H_init ⟨rfl, rfl⟩ ⟨Nat.le_of_ble_eq_true rfl, Nat.le_of_ble_eq_true rfl⟩ ⟨Nat.le_of_ble_eq_true rfl, Nat.le_of_ble_eq_true rfl⟩) <|
  zal_c (zi_puta (CN := RX4) (T := TX4) (N := 7) (index := 19) (ty0 := tyX4) (by decide +kernel) rfl rfl (by decide) uw_X4 wf_X_19 tyX4_ok nmX4 rfl rfl (ty := .object "PooledInlaws$Hall") (by decide +kernel) (fun _ => rfl) (fun _ => rfl) rfl) <|
  zal_c (zi_aln (j := 0) (by decide +kernel) rfl rfl) <|
  zal_c (zi_iconst (n := 0) (by decide +kernel) rfl rfl) <|
  zal_c (zi_putz (CN := RX4) (T := TX4) (N := 7) (index := 22) (ty0 := tyX4) (by decide +kernel) rfl rfl (by decide) uw_X4 wf_X_22 tyX4_ok nmX4 rfl (by decide +kernel)) <|
  zal_c (zi_aln (j := 0) (by decide +kernel) rfl rfl) <|
  zal_c (zi_new (CN := RX3) (T := TX3) (index := 26) (ty0 := tyX3) (by decide +kernel) rfl rfl uw_X3 tyX3_ok wk_X_26 wi_X3 wn_X3 (by decide +kernel) (fun _ => rfl) ⟨Nat.le_of_ble_eq_true rfl, Nat.le_of_ble_eq_true rfl⟩) <|
  zal_c (zi_dup (by decide +kernel) rfl) <|
  zal_c (zi_ci (index := 28) (by decide +kernel) rfl mk_T_init rfl rfl wm_X_28 wq_T_init ⟨rfl, rfl⟩ ⟨Nat.le_of_ble_eq_true rfl, Nat.le_of_ble_eq_true rfl⟩ ⟨Nat.le_of_ble_eq_true rfl, Nat.le_of_ble_eq_true rfl⟩) <|
  zal_c (zi_puta (CN := RX4) (T := TX4) (N := 7) (index := 29) (ty0 := tyX4) (by decide +kernel) rfl rfl (by decide) uw_X4 wf_X_29 tyX4_ok nmX4 rfl rfl (ty := .object "PooledInlaws$Tape") (by decide +kernel) (fun _ => rfl) (fun _ => rfl) rfl) <|
  zal_c (zi_aln (j := 0) (by decide +kernel) rfl rfl) <|
  zal_c (zi_iconst (n := 4) (by decide +kernel) rfl rfl) <|
  zal_c (zi_newq (index := 33) (by decide +kernel) rfl wk_X_33 ⟨Nat.le_of_ble_eq_true rfl, Nat.le_of_ble_eq_true rfl⟩) <|
  zal_c (zi_puta (CN := RX4) (T := TX4) (N := 7) (index := 35) (ty0 := tyX4) (by decide +kernel) rfl rfl (by decide) uw_X4 wf_X_35 tyX4_ok nmX4 rfl rfl (ty := .array (.object "PooledInlaws$Sheet")) (by decide +kernel) (fun _ => rfl) (fun _ => rfl) rfl) <|
  zal_c (zi_iconst (n := 0) (by decide +kernel) rfl rfl) <|
  zal_c (zi_isn (j := 1) (by decide +kernel) rfl rfl (Nat.le_of_ble_eq_true rfl)) <|
  zal_c (zi_iln (j := 1) (by decide +kernel) rfl rfl) <|
  zal_c (zi_iconst (n := 4) (by decide +kernel) rfl rfl) <|
  zal_c (zi_cge (off := 22) (by decide +kernel) rfl rfl) <|
  zal_c (zi_aln (j := 0) (by decide +kernel) rfl rfl) <|
  zal_c (zi_get (CN := RX4) (T := TX4) (N := 7) (index := 35) (by decide +kernel) rfl rfl (by decide) uw_X4 wf_X_35) <|
  zal_c (zi_iln (j := 1) (by decide +kernel) rfl rfl) <|
  zal_c (zi_new (CN := RX2) (T := TX2) (index := 33) (ty0 := tyX2) (by decide +kernel) rfl rfl uw_X2 tyX2_ok wk_X_33 wi_X2 wn_X2 (by decide +kernel) (fun _ => rfl) ⟨Nat.le_of_ble_eq_true rfl, Nat.le_of_ble_eq_true rfl⟩) <|
  zal_c (zi_dup (by decide +kernel) rfl) <|
  zal_c (zi_ci (index := 39) (by decide +kernel) rfl mk_S_init rfl rfl wm_X_39 wq_S_init ⟨rfl, rfl⟩ ⟨Nat.le_of_ble_eq_true rfl, Nat.le_of_ble_eq_true rfl⟩ ⟨Nat.le_of_ble_eq_true rfl, Nat.le_of_ble_eq_true rfl⟩) <|
  zal_c (zi_aast (by decide +kernel) rfl) <|
  zal_c (zi_inc (n := 1) (by decide +kernel) rfl rfl) <|
  zal_c (zi_goto (off := -21) (by decide +kernel) rfl) <|
  zal_c (zi_aln (j := 0) (by decide +kernel) rfl rfl) <|
  zal_c (zi_bipush (n := 7) (by decide +kernel) rfl rfl) <|
  zal_c (zi_newi (by decide +kernel) rfl wa_int ⟨Nat.le_of_ble_eq_true rfl, Nat.le_of_ble_eq_true rfl⟩) <|
  zal_c (zi_puta (CN := RX4) (T := TX4) (N := 7) (index := 40) (ty0 := tyX4) (by decide +kernel) rfl rfl (by decide) uw_X4 wf_X_40 tyX4_ok nmX4 rfl rfl (ty := .array .int) (by decide +kernel) (fun _ => rfl) (fun _ => rfl) rfl) <|
  zal_c (zi_vr (by decide +kernel) rfl) <|
  zal_n
set_option maxRecDepth 100000 in
set_option maxHeartbeats 4000000 in
theorem sn_X_fire (l : Launch) : zAl l 47 tb_X_fire :=
  zal_c (zi_iln (j := 1) (by decide +kernel) rfl rfl) <|
  zal_c (zi_iconst (n := 0) (by decide +kernel) rfl rfl) <|
  zal_c (zi_bipush (n := 20) (by decide +kernel) rfl rfl) <|
  zal_c (zi_cs (index := 44) (by decide +kernel) rfl mk_X_isOutside wm_X_44 wq_X_isOutside ⟨rfl, rfl⟩ ⟨Nat.le_of_ble_eq_true rfl, Nat.le_of_ble_eq_true rfl⟩) <|
  zal_c (zi_ifeq (off := 10) (by decide +kernel) rfl rfl) <|
  zal_c (zi_aln (j := 0) (by decide +kernel) rfl rfl) <|
  zal_c (zi_ldc (n := 48) (by decide +kernel) rfl wc_X_48) <|
  zal_c (zi_cv (index := 49) (qc := (RX4, TX4, 7)) (by decide +kernel) rfl mk_X_tell rfl wm_X_49 wq_X_tell ww_X_tell ⟨rfl, rfl⟩ ⟨Nat.le_of_ble_eq_true rfl, Nat.le_of_ble_eq_true rfl⟩) <|
  zal_c (zi_ir (by decide +kernel) rfl) <|
  zal_c (zi_aln (j := 0) (by decide +kernel) rfl rfl) <|
  zal_c (zi_get (CN := RX4) (T := TX4) (N := 7) (index := 10) (by decide +kernel) rfl rfl (by decide) uw_X4 wf_X_10) <|
  zal_c (zi_get (CN := RX0) (T := TX0) (N := 14) (index := 53) (by decide +kernel) rfl rfl (by decide) uw_X0 wf_X_53) <|
  zal_c (zi_isn (j := 2) (by decide +kernel) rfl rfl (Nat.le_of_ble_eq_true rfl)) <|
  zal_c (zi_aln (j := 0) (by decide +kernel) rfl rfl) <|
  zal_c (zi_get (CN := RX4) (T := TX4) (N := 7) (index := 10) (by decide +kernel) rfl rfl (by decide) uw_X4 wf_X_10) <|
  zal_c (zi_iln (j := 1) (by decide +kernel) rfl rfl) <|
  zal_c (zi_puti (CN := RX0) (T := TX0) (N := 14) (index := 53) (ty0 := tyX0) (by decide +kernel) rfl rfl (by decide) uw_X0 wf_X_53 tyX0_ok nmX0 rfl (by decide +kernel)) <|
  zal_c (zi_iln (j := 2) (by decide +kernel) rfl rfl) <|
  zal_c (zi_ir (by decide +kernel) rfl) <|
  zal_n
set_option maxRecDepth 100000 in
set_option maxHeartbeats 4000000 in
theorem sn_X_now (l : Launch) : zAl l 48 tb_X_now :=
  zal_c (zi_iln (j := 1) (by decide +kernel) rfl rfl) <|
  zal_c (zi_sw (dflt := 91) (lo := 0) (hi := 5) (offs := #[39, 47, 55, 63, 71, 83]) (len := 39) 0 (by decide +kernel) rfl rfl (by decide) rfl (zsw_of (by decide +kernel))) <|
  zal_c (zi_aln (j := 0) (by decide +kernel) rfl rfl) <|
  zal_c (zi_get (CN := RX4) (T := TX4) (N := 7) (index := 10) (by decide +kernel) rfl rfl (by decide) uw_X4 wf_X_10) <|
  zal_c (zi_get (CN := RX0) (T := TX0) (N := 14) (index := 57) (by decide +kernel) rfl rfl (by decide) uw_X0 wf_X_57) <|
  zal_c (zi_ir (by decide +kernel) rfl) <|
  zal_c (zi_aln (j := 0) (by decide +kernel) rfl rfl) <|
  zal_c (zi_get (CN := RX4) (T := TX4) (N := 7) (index := 10) (by decide +kernel) rfl rfl (by decide) uw_X4 wf_X_10) <|
  zal_c (zi_get (CN := RX0) (T := TX0) (N := 14) (index := 53) (by decide +kernel) rfl rfl (by decide) uw_X0 wf_X_53) <|
  zal_c (zi_ir (by decide +kernel) rfl) <|
  zal_c (zi_aln (j := 0) (by decide +kernel) rfl rfl) <|
  zal_c (zi_get (CN := RX4) (T := TX4) (N := 7) (index := 10) (by decide +kernel) rfl rfl (by decide) uw_X4 wf_X_10) <|
  zal_c (zi_cv (index := 60) (qc := (RX0, TX0, 14)) (by decide +kernel) rfl mk_H_firstCouple rfl wm_X_60 wq_H_firstCouple ww_H_firstCouple ⟨rfl, rfl⟩ ⟨Nat.le_of_ble_eq_true rfl, Nat.le_of_ble_eq_true rfl⟩) <|
  zal_c (zi_ir (by decide +kernel) rfl) <|
  zal_c (zi_aln (j := 0) (by decide +kernel) rfl rfl) <|
  zal_c (zi_get (CN := RX4) (T := TX4) (N := 7) (index := 10) (by decide +kernel) rfl rfl (by decide) uw_X4 wf_X_10) <|
  zal_c (zi_cv (index := 64) (qc := (RX0, TX0, 14)) (by decide +kernel) rfl mk_H_satOnes rfl wm_X_64 wq_H_satOnes ww_H_satOnes ⟨rfl, rfl⟩ ⟨Nat.le_of_ble_eq_true rfl, Nat.le_of_ble_eq_true rfl⟩) <|
  zal_c (zi_ir (by decide +kernel) rfl) <|
  zal_c (zi_sipush (n := 10000) (by decide +kernel) rfl rfl) <|
  zal_c (zi_aln (j := 0) (by decide +kernel) rfl rfl) <|
  zal_c (zi_get (CN := RX4) (T := TX4) (N := 7) (index := 10) (by decide +kernel) rfl rfl (by decide) uw_X4 wf_X_10) <|
  zal_c (zi_cv (index := 67) (qc := (RX0, TX0, 14)) (by decide +kernel) rfl mk_H_wellOfAll rfl wm_X_67 wq_H_wellOfAll ww_H_wellOfAll ⟨rfl, rfl⟩ ⟨Nat.le_of_ble_eq_true rfl, Nat.le_of_ble_eq_true rfl⟩) <|
  zal_c (zi_iadd (by decide +kernel) rfl) <|
  zal_c (zi_ir (by decide +kernel) rfl) <|
  zal_c (zi_aln (j := 0) (by decide +kernel) rfl rfl) <|
  zal_c (zi_get (CN := RX4) (T := TX4) (N := 7) (index := 10) (by decide +kernel) rfl rfl (by decide) uw_X4 wf_X_10) <|
  zal_c (zi_cv (index := 70) (qc := (RX0, TX0, 14)) (by decide +kernel) rfl mk_H_warmOfAll rfl wm_X_70 wq_H_warmOfAll ww_H_warmOfAll ⟨rfl, rfl⟩ ⟨Nat.le_of_ble_eq_true rfl, Nat.le_of_ble_eq_true rfl⟩) <|
  zal_c (zi_ir (by decide +kernel) rfl) <|
  zal_c (zi_aln (j := 0) (by decide +kernel) rfl rfl) <|
  zal_c (zi_ldc (n := 48) (by decide +kernel) rfl wc_X_48) <|
  zal_c (zi_cv (index := 49) (qc := (RX4, TX4, 7)) (by decide +kernel) rfl mk_X_tell rfl wm_X_49 wq_X_tell ww_X_tell ⟨rfl, rfl⟩ ⟨Nat.le_of_ble_eq_true rfl, Nat.le_of_ble_eq_true rfl⟩) <|
  zal_c (zi_ir (by decide +kernel) rfl) <|
  zal_n
set_option maxRecDepth 100000 in
set_option maxHeartbeats 4000000 in
theorem sn_X_inlaw (l : Launch) : zAl l 49 tb_X_inlaw :=
  zal_c (zi_iln (j := 1) (by decide +kernel) rfl rfl) <|
  zal_c (zi_cs (index := 73) (by decide +kernel) rfl mk_X_isNoKind wm_X_73 wq_X_isNoKind ⟨rfl, rfl⟩ ⟨Nat.le_of_ble_eq_true rfl, Nat.le_of_ble_eq_true rfl⟩) <|
  zal_c (zi_ifeq (off := 10) (by decide +kernel) rfl rfl) <|
  zal_c (zi_aln (j := 0) (by decide +kernel) rfl rfl) <|
  zal_c (zi_ldc (n := 48) (by decide +kernel) rfl wc_X_48) <|
  zal_c (zi_cv (index := 49) (qc := (RX4, TX4, 7)) (by decide +kernel) rfl mk_X_tell rfl wm_X_49 wq_X_tell ww_X_tell ⟨rfl, rfl⟩ ⟨Nat.le_of_ble_eq_true rfl, Nat.le_of_ble_eq_true rfl⟩) <|
  zal_c (zi_ir (by decide +kernel) rfl) <|
  zal_c (zi_aln (j := 0) (by decide +kernel) rfl rfl) <|
  zal_c (zi_get (CN := RX4) (T := TX4) (N := 7) (index := 10) (by decide +kernel) rfl rfl (by decide) uw_X4 wf_X_10) <|
  zal_c (zi_get (CN := RX0) (T := TX0) (N := 14) (index := 77) (by decide +kernel) rfl rfl (by decide) uw_X0 wf_X_77) <|
  zal_c (zi_bipush (n := 8) (by decide +kernel) rfl rfl) <|
  zal_c (zi_clt (off := 10) (by decide +kernel) rfl rfl) <|
  zal_c (zi_aln (j := 0) (by decide +kernel) rfl rfl) <|
  zal_c (zi_ldc (n := 80) (by decide +kernel) rfl wc_X_80) <|
  zal_c (zi_cv (index := 49) (qc := (RX4, TX4, 7)) (by decide +kernel) rfl mk_X_tell rfl wm_X_49 wq_X_tell ww_X_tell ⟨rfl, rfl⟩ ⟨Nat.le_of_ble_eq_true rfl, Nat.le_of_ble_eq_true rfl⟩) <|
  zal_c (zi_ir (by decide +kernel) rfl) <|
  zal_c (zi_aln (j := 0) (by decide +kernel) rfl rfl) <|
  zal_c (zi_get (CN := RX4) (T := TX4) (N := 7) (index := 10) (by decide +kernel) rfl rfl (by decide) uw_X4 wf_X_10) <|
  zal_c (zi_iln (j := 1) (by decide +kernel) rfl rfl) <|
  zal_c (zi_cv (index := 81) (qc := (RX0, TX0, 14)) (by decide +kernel) rfl mk_H_addInlaw rfl wm_X_81 wq_H_addInlaw ww_H_addInlaw ⟨rfl, rfl⟩ ⟨Nat.le_of_ble_eq_true rfl, Nat.le_of_ble_eq_true rfl⟩) <|
  zal_c (zi_ir (by decide +kernel) rfl) <|
  zal_n
set_option maxRecDepth 100000 in
set_option maxHeartbeats 4000000 in
theorem sn_X_of (l : Launch) : zAl l 50 tb_X_of :=
  zal_c (zi_aln (j := 0) (by decide +kernel) rfl rfl) <|
  zal_c (zi_iln (j := 1) (by decide +kernel) rfl rfl) <|
  zal_c (zi_cv (index := 84) (qc := (RX4, TX4, 7)) (by decide +kernel) rfl mk_X_isNoInlaw rfl wm_X_84 wq_X_isNoInlaw ww_X_isNoInlaw ⟨rfl, rfl⟩ ⟨Nat.le_of_ble_eq_true rfl, Nat.le_of_ble_eq_true rfl⟩) <|
  zal_c (zi_ifeq (off := 10) (by decide +kernel) rfl rfl) <|
  zal_c (zi_aln (j := 0) (by decide +kernel) rfl rfl) <|
  zal_c (zi_ldc (n := 48) (by decide +kernel) rfl wc_X_48) <|
  zal_c (zi_cv (index := 49) (qc := (RX4, TX4, 7)) (by decide +kernel) rfl mk_X_tell rfl wm_X_49 wq_X_tell ww_X_tell ⟨rfl, rfl⟩ ⟨Nat.le_of_ble_eq_true rfl, Nat.le_of_ble_eq_true rfl⟩) <|
  zal_c (zi_ir (by decide +kernel) rfl) <|
  zal_c (zi_iln (j := 2) (by decide +kernel) rfl rfl) <|
  zal_c (zi_sw (dflt := 99) (lo := 0) (hi := 5) (offs := #[40, 50, 60, 70, 80, 90]) (len := 40) 0 (by decide +kernel) rfl rfl (by decide) rfl (zsw_of (by decide +kernel))) <|
  zal_c (zi_aln (j := 0) (by decide +kernel) rfl rfl) <|
  zal_c (zi_get (CN := RX4) (T := TX4) (N := 7) (index := 10) (by decide +kernel) rfl rfl (by decide) uw_X4 wf_X_10) <|
  zal_c (zi_get (CN := RX0) (T := TX0) (N := 14) (index := 87) (by decide +kernel) rfl rfl (by decide) uw_X0 wf_X_87) <|
  zal_c (zi_iln (j := 1) (by decide +kernel) rfl rfl) <|
  zal_c (zi_iald (by decide +kernel) rfl) <|
  zal_c (zi_ir (by decide +kernel) rfl) <|
  zal_c (zi_aln (j := 0) (by decide +kernel) rfl rfl) <|
  zal_c (zi_get (CN := RX4) (T := TX4) (N := 7) (index := 10) (by decide +kernel) rfl rfl (by decide) uw_X4 wf_X_10) <|
  zal_c (zi_get (CN := RX0) (T := TX0) (N := 14) (index := 90) (by decide +kernel) rfl rfl (by decide) uw_X0 wf_X_90) <|
  zal_c (zi_iln (j := 1) (by decide +kernel) rfl rfl) <|
  zal_c (zi_iald (by decide +kernel) rfl) <|
  zal_c (zi_ir (by decide +kernel) rfl) <|
  zal_c (zi_aln (j := 0) (by decide +kernel) rfl rfl) <|
  zal_c (zi_get (CN := RX4) (T := TX4) (N := 7) (index := 10) (by decide +kernel) rfl rfl (by decide) uw_X4 wf_X_10) <|
  zal_c (zi_get (CN := RX0) (T := TX0) (N := 14) (index := 93) (by decide +kernel) rfl rfl (by decide) uw_X0 wf_X_93) <|
  zal_c (zi_iln (j := 1) (by decide +kernel) rfl rfl) <|
  zal_c (zi_iald (by decide +kernel) rfl) <|
  zal_c (zi_ir (by decide +kernel) rfl) <|
  zal_c (zi_aln (j := 0) (by decide +kernel) rfl rfl) <|
  zal_c (zi_get (CN := RX4) (T := TX4) (N := 7) (index := 10) (by decide +kernel) rfl rfl (by decide) uw_X4 wf_X_10) <|
  zal_c (zi_get (CN := RX0) (T := TX0) (N := 14) (index := 96) (by decide +kernel) rfl rfl (by decide) uw_X0 wf_X_96) <|
  zal_c (zi_iln (j := 1) (by decide +kernel) rfl rfl) <|
  zal_c (zi_iald (by decide +kernel) rfl) <|
  zal_c (zi_ir (by decide +kernel) rfl) <|
  zal_c (zi_aln (j := 0) (by decide +kernel) rfl rfl) <|
  zal_c (zi_get (CN := RX4) (T := TX4) (N := 7) (index := 10) (by decide +kernel) rfl rfl (by decide) uw_X4 wf_X_10) <|
  zal_c (zi_get (CN := RX0) (T := TX0) (N := 14) (index := 99) (by decide +kernel) rfl rfl (by decide) uw_X0 wf_X_99) <|
  zal_c (zi_iln (j := 1) (by decide +kernel) rfl rfl) <|
  zal_c (zi_iald (by decide +kernel) rfl) <|
  zal_c (zi_ir (by decide +kernel) rfl) <|
  zal_c (zi_aln (j := 0) (by decide +kernel) rfl rfl) <|
  zal_c (zi_get (CN := RX4) (T := TX4) (N := 7) (index := 10) (by decide +kernel) rfl rfl (by decide) uw_X4 wf_X_10) <|
  zal_c (zi_iln (j := 1) (by decide +kernel) rfl rfl) <|
  zal_c (zi_cv (index := 102) (qc := (RX0, TX0, 14)) (by decide +kernel) rfl mk_H_chillsOf rfl wm_X_102 wq_H_chillsOf ww_H_chillsOf ⟨rfl, rfl⟩ ⟨Nat.le_of_ble_eq_true rfl, Nat.le_of_ble_eq_true rfl⟩) <|
  zal_c (zi_ir (by decide +kernel) rfl) <|
  zal_c (zi_aln (j := 0) (by decide +kernel) rfl rfl) <|
  zal_c (zi_ldc (n := 48) (by decide +kernel) rfl wc_X_48) <|
  zal_c (zi_cv (index := 49) (qc := (RX4, TX4, 7)) (by decide +kernel) rfl mk_X_tell rfl wm_X_49 wq_X_tell ww_X_tell ⟨rfl, rfl⟩ ⟨Nat.le_of_ble_eq_true rfl, Nat.le_of_ble_eq_true rfl⟩) <|
  zal_c (zi_ir (by decide +kernel) rfl) <|
  zal_n
set_option maxRecDepth 100000 in
set_option maxHeartbeats 4000000 in
theorem sn_X_with (l : Launch) : zAl l 51 tb_X_with :=
  zal_c (zi_aln (j := 0) (by decide +kernel) rfl rfl) <|
  zal_c (zi_iln (j := 1) (by decide +kernel) rfl rfl) <|
  zal_c (zi_cv (index := 84) (qc := (RX4, TX4, 7)) (by decide +kernel) rfl mk_X_isNoInlaw rfl wm_X_84 wq_X_isNoInlaw ww_X_isNoInlaw ⟨rfl, rfl⟩ ⟨Nat.le_of_ble_eq_true rfl, Nat.le_of_ble_eq_true rfl⟩) <|
  zal_c (zi_ifne (off := 11) (by decide +kernel) rfl rfl) <|
  zal_c (zi_aln (j := 0) (by decide +kernel) rfl rfl) <|
  zal_c (zi_iln (j := 2) (by decide +kernel) rfl rfl) <|
  zal_c (zi_cv (index := 105) (qc := (RX4, TX4, 7)) (by decide +kernel) rfl mk_X_isNoCouple rfl wm_X_105 wq_X_isNoCouple ww_X_isNoCouple ⟨rfl, rfl⟩ ⟨Nat.le_of_ble_eq_true rfl, Nat.le_of_ble_eq_true rfl⟩) <|
  zal_c (zi_ifeq (off := 10) (by decide +kernel) rfl rfl) <|
  zal_c (zi_aln (j := 0) (by decide +kernel) rfl rfl) <|
  zal_c (zi_ldc (n := 48) (by decide +kernel) rfl wc_X_48) <|
  zal_c (zi_cv (index := 49) (qc := (RX4, TX4, 7)) (by decide +kernel) rfl mk_X_tell rfl wm_X_49 wq_X_tell ww_X_tell ⟨rfl, rfl⟩ ⟨Nat.le_of_ble_eq_true rfl, Nat.le_of_ble_eq_true rfl⟩) <|
  zal_c (zi_ir (by decide +kernel) rfl) <|
  zal_c (zi_iln (j := 3) (by decide +kernel) rfl rfl) <|
  zal_c (zi_sw (dflt := 64) (lo := 0) (hi := 2) (offs := #[28, 38, 51]) (len := 28) 0 (by decide +kernel) rfl rfl (by decide) rfl (zsw_of (by decide +kernel))) <|
  zal_c (zi_aln (j := 0) (by decide +kernel) rfl rfl) <|
  zal_c (zi_get (CN := RX4) (T := TX4) (N := 7) (index := 10) (by decide +kernel) rfl rfl (by decide) uw_X4 wf_X_10) <|
  zal_c (zi_iln (j := 1) (by decide +kernel) rfl rfl) <|
  zal_c (zi_iln (j := 2) (by decide +kernel) rfl rfl) <|
  zal_c (zi_cv (index := 108) (qc := (RX0, TX0, 14)) (by decide +kernel) rfl mk_H_charmsOf rfl wm_X_108 wq_H_charmsOf ww_H_charmsOf ⟨rfl, rfl⟩ ⟨Nat.le_of_ble_eq_true rfl, Nat.le_of_ble_eq_true rfl⟩) <|
  zal_c (zi_ir (by decide +kernel) rfl) <|
  zal_c (zi_bipush (n := 100) (by decide +kernel) rfl rfl) <|
  zal_c (zi_aln (j := 0) (by decide +kernel) rfl rfl) <|
  zal_c (zi_get (CN := RX4) (T := TX4) (N := 7) (index := 10) (by decide +kernel) rfl rfl (by decide) uw_X4 wf_X_10) <|
  zal_c (zi_iln (j := 1) (by decide +kernel) rfl rfl) <|
  zal_c (zi_iln (j := 2) (by decide +kernel) rfl rfl) <|
  zal_c (zi_cv (index := 112) (qc := (RX0, TX0, 14)) (by decide +kernel) rfl mk_H_doesOf rfl wm_X_112 wq_H_doesOf ww_H_doesOf ⟨rfl, rfl⟩ ⟨Nat.le_of_ble_eq_true rfl, Nat.le_of_ble_eq_true rfl⟩) <|
  zal_c (zi_iadd (by decide +kernel) rfl) <|
  zal_c (zi_ir (by decide +kernel) rfl) <|
  zal_c (zi_bipush (n := 100) (by decide +kernel) rfl rfl) <|
  zal_c (zi_aln (j := 0) (by decide +kernel) rfl rfl) <|
  zal_c (zi_get (CN := RX4) (T := TX4) (N := 7) (index := 10) (by decide +kernel) rfl rfl (by decide) uw_X4 wf_X_10) <|
  zal_c (zi_iln (j := 1) (by decide +kernel) rfl rfl) <|
  zal_c (zi_iln (j := 2) (by decide +kernel) rfl rfl) <|
  zal_c (zi_cv (index := 115) (qc := (RX0, TX0, 14)) (by decide +kernel) rfl mk_H_thawsOf rfl wm_X_115 wq_H_thawsOf ww_H_thawsOf ⟨rfl, rfl⟩ ⟨Nat.le_of_ble_eq_true rfl, Nat.le_of_ble_eq_true rfl⟩) <|
  zal_c (zi_iadd (by decide +kernel) rfl) <|
  zal_c (zi_ir (by decide +kernel) rfl) <|
  zal_c (zi_aln (j := 0) (by decide +kernel) rfl rfl) <|
  zal_c (zi_ldc (n := 48) (by decide +kernel) rfl wc_X_48) <|
  zal_c (zi_cv (index := 49) (qc := (RX4, TX4, 7)) (by decide +kernel) rfl mk_X_tell rfl wm_X_49 wq_X_tell ww_X_tell ⟨rfl, rfl⟩ ⟨Nat.le_of_ble_eq_true rfl, Nat.le_of_ble_eq_true rfl⟩) <|
  zal_c (zi_ir (by decide +kernel) rfl) <|
  zal_n
end
