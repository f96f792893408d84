/-! THE SMALL MACHINE: methods as tables of predicate transformers over a heap of cells by their places (a reference is a place in the list); soundness against the machine stands in a later part -/
abbrev zH : Type := List va_E
abbrev zL : Type := List (Option Value)
abbrev zQ : Type := Option Value → zH → Prop
abbrev zC : Type := Nat → List Value → zH → zQ → Prop
abbrev zP : Type := Nat → zL → List Value → Nat × Nat → zH → Prop
abbrev zO : Type := zP → zC → zQ → zL → List Value → Nat × Nat → zH → Prop
def zm_g {α : Type} : List α → Nat → Option α
  | [], _ => none
  | a :: _, 0 => some a
  | _ :: l, n + 1 => zm_g l n
theorem zm_g_eq {α : Type} : ∀ (l : List α) (k : Nat), zm_g l k = l[k]?
  | [], _ => by simp [zm_g]
  | _ :: _, 0 => rfl
  | _ :: l, n + 1 => by rw [List.getElem?_cons_succ]; exact zm_g_eq l n
/-- a store at place i: a long that stands just below it is gone -/
def zm_x : zL → Nat → zL
  | [], _ => []
  | a :: l, 0 => a :: l
  | a :: l, 1 => (match a with | some (.long _) => none | some (.double _) => none | b => b) :: l
  | a :: l, n + 2 => a :: zm_x l (n + 1)
def zm_st (L : zL) (i : Nat) (v : Value) : zL := (zm_x L i).set i (some v)
def zm_st2 (L : zL) (i : Nat) (v : Value) : zL := ((zm_x L i).set i (some v)).set (i + 1) none
/-- the arguments of a call: n values off the stack, and the rest -/
def zm_sp : Nat → List Value → List Value → Option (List Value × List Value)
  | 0, acc, st => some (acc, st)
  | n + 1, acc, v :: st => zm_sp n (v :: acc) st
  | _ + 1, _, [] => none
def zm_cat : List Value → Nat
  | [] => 0
  | v :: l => v.category + zm_cat l
def zm_pu (r : Option Value) (st : List Value) : List Value := match r with
  | none => st
  | some v => v :: st
/-- a method's locals at its entry -/
def zm_en : List Value → Nat → zL
  | [], n => List.replicate n none
  | v :: vs, n => match v with
    | .long x => some (.long x) :: none :: zm_en vs (n - 2)
    | .double x => some (.double x) :: none :: zm_en vs (n - 2)
    | w => some w :: zm_en vs (n - 1)
-- constants and locals
def zo_c (v : Value) (nx : Nat) : zO := fun P _ _ L st u h => P nx L (v :: st) u h
def zo_il (i nx : Nat) : zO := fun P _ _ L st u h => match zm_g L i with
  | some (some (.int x)) => P nx L (.int x :: st) u h
  | _ => False
def zo_ll (i nx : Nat) : zO := fun P _ _ L st u h => match zm_g L i with
  | some (some (.long x)) => P nx L (.long x :: st) u h
  | _ => False
def zo_al (i nx : Nat) : zO := fun P _ _ L st u h => match zm_g L i with
  | some (some (.ref x)) => P nx L (.ref x :: st) u h
  | _ => False
def zo_is (i nx : Nat) : zO := fun P _ _ L st u h => match st with
  | .int x :: r => P nx (zm_st L i (.int x)) r u h
  | _ => False
def zo_as (i nx : Nat) : zO := fun P _ _ L st u h => match st with
  | .ref x :: r => P nx (zm_st L i (.ref x)) r u h
  | _ => False
def zo_ls (i nx : Nat) : zO := fun P _ _ L st u h => match st with
  | .long x :: r => P nx (zm_st2 L i (.long x)) r u h
  | _ => False
def zo_inc (i : Nat) (k : Int32) (nx : Nat) : zO := fun P _ _ L st u h => match zm_g L i with
  | some (some (.int x)) => P nx (L.set i (some (.int (x + k)))) st u h
  | _ => False
-- arithmetic
def zo_iadd (nx : Nat) : zO := fun P _ _ L st u h => match st with
  | .int y :: .int x :: r => P nx L (.int (x + y) :: r) u h
  | _ => False
def zo_isub (nx : Nat) : zO := fun P _ _ L st u h => match st with
  | .int y :: .int x :: r => P nx L (.int (x - y) :: r) u h
  | _ => False
def zo_imul (nx : Nat) : zO := fun P _ _ L st u h => match st with
  | .int y :: .int x :: r => P nx L (.int (x * y) :: r) u h
  | _ => False
def zo_iand (nx : Nat) : zO := fun P _ _ L st u h => match st with
  | .int y :: .int x :: r => P nx L (.int (x &&& y) :: r) u h
  | _ => False
def zo_ior (nx : Nat) : zO := fun P _ _ L st u h => match st with
  | .int y :: .int x :: r => P nx L (.int (x ||| y) :: r) u h
  | _ => False
def zo_ishl (nx : Nat) : zO := fun P _ _ L st u h => match st with
  | .int y :: .int x :: r => P nx L (.int (x <<< (y &&& 31)) :: r) u h
  | _ => False
def zo_ishr (nx : Nat) : zO := fun P _ _ L st u h => match st with
  | .int y :: .int x :: r => P nx L (.int (x >>> (y &&& 31)) :: r) u h
  | _ => False
def zo_idiv (nx : Nat) : zO := fun P _ _ L st u h => match st with
  | .int y :: .int x :: r => ¬ y = 0 ∧ P nx L (.int (x / y) :: r) u h
  | _ => False
def zo_irem (nx : Nat) : zO := fun P _ _ L st u h => match st with
  | .int y :: .int x :: r => ¬ y = 0 ∧ P nx L (.int (x - x / y * y) :: r) u h
  | _ => False
def zo_ladd (nx : Nat) : zO := fun P _ _ L st u h => match st with
  | .long y :: .long x :: r => P nx L (.long (x + y) :: r) u h
  | _ => False
def zo_lmul (nx : Nat) : zO := fun P _ _ L st u h => match st with
  | .long y :: .long x :: r => P nx L (.long (x * y) :: r) u h
  | _ => False
def zo_land (nx : Nat) : zO := fun P _ _ L st u h => match st with
  | .long y :: .long x :: r => P nx L (.long (x &&& y) :: r) u h
  | _ => False
def zo_lor (nx : Nat) : zO := fun P _ _ L st u h => match st with
  | .long y :: .long x :: r => P nx L (.long (x ||| y) :: r) u h
  | _ => False
def zo_lshl (nx : Nat) : zO := fun P _ _ L st u h => match st with
  | .int y :: .long x :: r => P nx L (.long (x <<< (y.toInt64 &&& 63)) :: r) u h
  | _ => False
def zo_lcmp (nx : Nat) : zO := fun P _ _ L st u h => match st with
  | .long y :: .long x :: r => P nx L (.int (lg_cmp x y) :: r) u h
  | _ => False
def zo_i2l (nx : Nat) : zO := fun P _ _ L st u h => match st with
  | .int x :: r => P nx L (.long x.toInt64 :: r) u h
  | _ => False
def zo_l2i (nx : Nat) : zO := fun P _ _ L st u h => match st with
  | .long x :: r => P nx L (.int x.toInt32 :: r) u h
  | _ => False
def zo_i2b (nx : Nat) : zO := fun P _ _ L st u h => match st with
  | .int x :: r => P nx L (.int x.toInt8.toInt32 :: r) u h
  | _ => False
def zo_i2s (nx : Nat) : zO := fun P _ _ L st u h => match st with
  | .int x :: r => P nx L (.int x.toInt16.toInt32 :: r) u h
  | _ => False
-- the stack (of values of one slot)
def zo_dup (nx : Nat) : zO := fun P _ _ L st u h => match st with
  | v :: r => cond (Nat.beq v.category 1) (P nx L (v :: v :: r) u h) False
  | _ => False
def zo_dup2 (nx : Nat) : zO := fun P _ _ L st u h => match st with
  | v :: w :: r => cond (Nat.beq v.category 1) (cond (Nat.beq w.category 1) (P nx L (v :: w :: v :: w :: r) u h) False) False
  | _ => False
def zo_dupx1 (nx : Nat) : zO := fun P _ _ L st u h => match st with
  | v :: w :: r => cond (Nat.beq v.category 1) (cond (Nat.beq w.category 1) (P nx L (v :: w :: v :: r) u h) False) False
  | _ => False
def zo_pop (nx : Nat) : zO := fun P _ _ L st u h => match st with
  | v :: r => cond (Nat.beq v.category 1) (P nx L r u h) False
  | _ => False
-- branches
def zo_goto (t : Nat) : zO := fun P _ _ L st u h => P t L st u h
def zo_ifeq (t nx : Nat) : zO := fun P _ _ L st u h => match st with
  | .int x :: r => (x = 0 → P t L r u h) ∧ (¬ x = 0 → P nx L r u h)
  | _ => False
def zo_ifne (t nx : Nat) : zO := fun P _ _ L st u h => match st with
  | .int x :: r => (¬ x = 0 → P t L r u h) ∧ (x = 0 → P nx L r u h)
  | _ => False
def zo_iflt (t nx : Nat) : zO := fun P _ _ L st u h => match st with
  | .int x :: r => (x < 0 → P t L r u h) ∧ (¬ x < 0 → P nx L r u h)
  | _ => False
def zo_ifge (t nx : Nat) : zO := fun P _ _ L st u h => match st with
  | .int x :: r => (0 ≤ x → P t L r u h) ∧ (¬ 0 ≤ x → P nx L r u h)
  | _ => False
def zo_ifgt (t nx : Nat) : zO := fun P _ _ L st u h => match st with
  | .int x :: r => (0 < x → P t L r u h) ∧ (¬ 0 < x → P nx L r u h)
  | _ => False
def zo_ifle (t nx : Nat) : zO := fun P _ _ L st u h => match st with
  | .int x :: r => (x ≤ 0 → P t L r u h) ∧ (¬ x ≤ 0 → P nx L r u h)
  | _ => False
def zo_ceq (t nx : Nat) : zO := fun P _ _ L st u h => match st with
  | .int y :: .int x :: r => (x = y → P t L r u h) ∧ (¬ x = y → P nx L r u h)
  | _ => False
def zo_cne (t nx : Nat) : zO := fun P _ _ L st u h => match st with
  | .int y :: .int x :: r => (¬ x = y → P t L r u h) ∧ (x = y → P nx L r u h)
  | _ => False
def zo_clt (t nx : Nat) : zO := fun P _ _ L st u h => match st with
  | .int y :: .int x :: r => (x < y → P t L r u h) ∧ (¬ x < y → P nx L r u h)
  | _ => False
def zo_cge (t nx : Nat) : zO := fun P _ _ L st u h => match st with
  | .int y :: .int x :: r => (y ≤ x → P t L r u h) ∧ (¬ y ≤ x → P nx L r u h)
  | _ => False
def zo_cgt (t nx : Nat) : zO := fun P _ _ L st u h => match st with
  | .int y :: .int x :: r => (y < x → P t L r u h) ∧ (¬ y < x → P nx L r u h)
  | _ => False
def zo_cle (t nx : Nat) : zO := fun P _ _ L st u h => match st with
  | .int y :: .int x :: r => (x ≤ y → P t L r u h) ∧ (¬ x ≤ y → P nx L r u h)
  | _ => False
/-- a switch over lo, lo + 1, ..: a case each, then the default -/
def zm_sw (P : Nat → Prop) (x : Int32) (d : Nat) : Int32 → List Nat → Prop
  | _, [] => P d
  | k, t :: ts => (x = k → P t) ∧ (¬ x = k → zm_sw P x d (k + 1) ts)
def zo_sw (lo : Int32) (ts : List Nat) (d : Nat) : zO := fun P _ _ L st u h => match st with
  | .int x :: r => zm_sw (fun t => P t L r u h) x d lo ts
  | _ => False
-- fields: slot k of an object of kind ci
def zo_get (ci k nx : Nat) : zO := fun P _ _ L st u h => match st with
  | .ref a :: r => match zm_g h a with
    | some (.inr (c, fs)) => cond (Nat.beq c ci) (match zm_g fs k with | some v => P nx L (v :: r) u h | none => False) False
    | _ => False
  | _ => False
def zo_puti (ci k nx : Nat) : zO := fun P _ _ L st u h => match st with
  | .int x :: .ref a :: r => match zm_g h a with
    | some (.inr (c, fs)) => cond (Nat.beq c ci) (cond (Nat.ble (k + 1) fs.length) (P nx L r u (h.set a (.inr (c, fs.set k (.int x))))) False) False
    | _ => False
  | _ => False
def zo_puta (ci k nx : Nat) : zO := fun P _ _ L st u h => match st with
  | .ref x :: .ref a :: r => match zm_g h a with
    | some (.inr (c, fs)) => cond (Nat.beq c ci) (cond (Nat.ble (k + 1) fs.length) (P nx L r u (h.set a (.inr (c, fs.set k (.ref x))))) False) False
    | _ => False
  | _ => False
/-- a field of truth: 0 or 1 -/
def zo_putz (ci k nx : Nat) : zO := fun P _ _ L st u h => match st with
  | .int x :: .ref a :: r => match zm_g h a with
    | some (.inr (c, fs)) => cond (Nat.beq c ci) (cond (Nat.ble (k + 1) fs.length) ((x = 0 ∨ x = 1) ∧ P nx L r u (h.set a (.inr (c, fs.set k (.int x))))) False) False
    | _ => False
  | _ => False
-- arrays: the place is the prover's to say
def zo_iald (nx : Nat) : zO := fun P _ _ L st u h => match st with
  | .int i :: .ref a :: r => match zm_g h a with
    | some (.inl (_, n, .inl f)) => cond (Nat.ble n 1000) (∃ j : Nat, j < n ∧ i = nI j ∧ P nx L (.int (f j) :: r) u h) False
    | _ => False
  | _ => False
def zo_lald (nx : Nat) : zO := fun P _ _ L st u h => match st with
  | .int i :: .ref a :: r => match zm_g h a with
    | some (.inl (_, n, .inr (.inl f))) => cond (Nat.ble n 1000) (∃ j : Nat, j < n ∧ i = nI j ∧ P nx L (.long (f j) :: r) u h) False
    | _ => False
  | _ => False
def zo_aald (nx : Nat) : zO := fun P _ _ L st u h => match st with
  | .int i :: .ref a :: r => match zm_g h a with
    | some (.inl (_, n, .inr (.inr (.inr (.inr f))))) => cond (Nat.ble n 1000) (∃ j : Nat, j < n ∧ i = nI j ∧ ∃ b : Nat, f j = some b ∧ P nx L (.ref b :: r) u h) False
    | _ => False
  | _ => False
def zo_iast (nx : Nat) : zO := fun P _ _ L st u h => match st with
  | .int x :: .int i :: .ref a :: r => match zm_g h a with
    | some (.inl (c, n, .inl f)) => cond (Nat.ble n 1000) (∃ j : Nat, j < n ∧ i = nI j ∧ P nx L r u (h.set a (.inl (c, n, .inl (upd f j x))))) False
    | _ => False
  | _ => False
def zo_last (nx : Nat) : zO := fun P _ _ L st u h => match st with
  | .long x :: .int i :: .ref a :: r => match zm_g h a with
    | some (.inl (c, n, .inr (.inl f))) => cond (Nat.ble n 1000) (∃ j : Nat, j < n ∧ i = nI j ∧ P nx L r u (h.set a (.inl (c, n, .inr (.inl (vp_updL f j x)))))) False
    | _ => False
  | _ => False
/-- a reference into a row of objects of kind ci -/
def zo_aast (ci nx : Nat) : zO := fun P _ _ L st u h => match st with
  | .ref v :: .int i :: .ref a :: r => match zm_g h a with
    | some (.inl (c, n, .inr (.inr (.inr (.inr f))))) => match zm_g h v with
      | some (.inr (c', _)) => cond (Nat.beq c' ci) (cond (Nat.ble n 1000) (∃ j : Nat, j < n ∧ i = nI j ∧ P nx L r u (h.set a (.inl (c, n, .inr (.inr (.inr (.inr (va_up f j (some v))))))))) False) False
      | _ => False
    | _ => False
  | _ => False
def zo_alen (nx : Nat) : zO := fun P _ _ L st u h => match st with
  | .ref a :: r => match zm_g h a with
    | some (.inl (_, n, .inl _)) => P nx L (.int (nI n) :: r) u h
    | some (.inl (_, n, .inr (.inl _))) => P nx L (.int (nI n) :: r) u h
    | _ => False
  | _ => False
/-- every reference within is one of the first n places, or one of the constants' -/
def zm_okv (n : Nat) : Value → Bool
  | .ref k => Nat.ble (k + 1) n || Nat.ble 1000 k
  | _ => true
def zm_okr (n : Nat) : Option Nat → Bool
  | some k => Nat.ble (k + 1) n || Nat.ble 1000 k
  | none => true
def zm_oke (n : Nat) : va_E → Bool
  | .inr (_, fs) => fs.all (zm_okv n)
  | .inl (_, k, .inr (.inr (.inr (.inr f)))) => (List.range k).all (fun j => zm_okr n (f j))
  | _ => true
def zm_okl (n : Nat) (L : zL) : Bool := L.all (fun o => match o with | some v => zm_okv n v | none => true)
def zm_sc (h : zH) (L : zL) (st : List Value) : Bool := Nat.ble h.length 900 && (h.all (zm_oke h.length) && (zm_okl h.length L && st.all (zm_okv h.length)))
-- making: an object of kind ci with its N fields fs, arrays
/-- there is room for one more of N slots, in a method that makes mc cells of ms slots -/
def zm_al (h : zH) (L : zL) (st : List Value) (u : Nat × Nat) (k N mc ms : Nat) : Bool := zm_sc h L st && (Nat.ble (u.1 + k) mc && Nat.ble (u.2 + N) ms)
def zo_new (ci : Nat) (fs : List Value) (N mc ms nx : Nat) : zO := fun P _ _ L st u h => zm_al h L st u 1 N mc ms = true ∧ P nx L (.ref h.length :: st) (u.1 + 1, u.2 + N) (h ++ [.inr (ci, fs)])
def zo_newi (mc ms nx : Nat) : zO := fun P _ _ L st u h => match st with
  | .int n :: r => ∃ N : Nat, N ≤ 1000 ∧ n = nI N ∧ zm_al h L r u 1 N mc ms = true ∧ P nx L (.ref h.length :: r) (u.1 + 1, u.2 + N) (h ++ [.inl (0, N, .inl (fun _ => 0))])
  | _ => False
def zo_newl (mc ms nx : Nat) : zO := fun P _ _ L st u h => match st with
  | .int n :: r => ∃ N : Nat, N ≤ 1000 ∧ n = nI N ∧ zm_al h L r u 1 N mc ms = true ∧ P nx L (.ref h.length :: r) (u.1 + 1, u.2 + N) (h ++ [.inl (1, N, .inr (.inl (fun _ => 0)))])
  | _ => False
def zo_newq (mc ms nx : Nat) : zO := fun P _ _ L st u h => match st with
  | .int n :: r => ∃ N : Nat, N ≤ 1000 ∧ n = nI N ∧ zm_al h L r u 1 N mc ms = true ∧ P nx L (.ref h.length :: r) (u.1 + 1, u.2 + N) (h ++ [.inl (2, N, .inr (.inr (.inr (.inr (fun _ => none)))))])
  | _ => False
def zo_obj (nx : Nat) : zO := fun P _ _ L st u h => match st with
  | .ref _ :: r => cond (Nat.ble (zm_cat r) 8) (P nx L r u h) False
  | _ => False
-- calls: method M with n arguments; of an object of kind ci; a constructor that makes mc cells of ms slots
def zo_cs (M n nx : Nat) : zO := fun P C _ L st u h => match zm_sp n [] st with
  | some (as, r) => cond (Nat.ble (zm_cat r) 8) (C M as h (fun v h' => P nx L (zm_pu v r) u h')) False
  | none => False
def zo_cv (ci M n nx : Nat) : zO := fun P C _ L st u h => match zm_sp n [] st with
  | some (as, .ref a :: r) => match zm_g h a with
    | some (.inr (c, _)) => cond (Nat.beq c ci) (cond (Nat.ble (zm_cat r) 8) (C M (.ref a :: as) h (fun v h' => P nx L (zm_pu v r) u h')) False) False
    | _ => False
  | _ => False
def zo_ci (M n mc ms cmc cms nx : Nat) : zO := fun P C _ L st u h => match zm_sp n [] st with
  | some (as, .ref a :: r) => cond (Nat.ble (zm_cat r) 8) (zm_al h L r u mc ms cmc cms = true ∧ C M (.ref a :: as) h (fun v h' => P nx L (zm_pu v r) (u.1 + mc, u.2 + ms) h')) False
  | _ => False
-- the library's own
def zo_max (nx : Nat) : zO := fun P _ _ L st u h => match st with
  | .int y :: .int x :: r => cond (Nat.ble (zm_cat r) 8) (P nx L (.int (if x < y then y else x) :: r) u h) False
  | _ => False
def zo_min (nx : Nat) : zO := fun P _ _ L st u h => match st with
  | .int y :: .int x :: r => cond (Nat.ble (zm_cat r) 8) (P nx L (.int (if y < x then y else x) :: r) u h) False
  | _ => False
def zo_cpi (nx : Nat) : zO := fun P _ _ L st u h => match st with
  | .int n :: .int dp :: .ref b :: .int sp :: .ref a :: r => match zm_g h a with
    | some (.inl (_, n0, .inl f)) => match zm_g h b with
      | some (.inl (c1, n1, .inl g)) => cond (Nat.ble (zm_cat r) 8) (∃ N D S : Nat, n = nI N ∧ dp = nI D ∧ sp = nI S ∧ S + N ≤ n0 ∧ D + N ≤ n1 ∧ n0 ≤ 1000 ∧ n1 ≤ 1000 ∧ P nx L r u (h.set b (.inl (c1, n1, .inl (va_cpy f g S D N))))) False
      | _ => False
    | _ => False
  | _ => False
def zo_cpl (nx : Nat) : zO := fun P _ _ L st u h => match st with
  | .int n :: .int dp :: .ref b :: .int sp :: .ref a :: r => match zm_g h a with
    | some (.inl (_, n0, .inr (.inl f))) => match zm_g h b with
      | some (.inl (c1, n1, .inr (.inl g))) => cond (Nat.ble (zm_cat r) 8) (∃ N D S : Nat, n = nI N ∧ dp = nI D ∧ sp = nI S ∧ S + N ≤ n0 ∧ D + N ≤ n1 ∧ n0 ≤ 1000 ∧ n1 ≤ 1000 ∧ P nx L r u (h.set b (.inl (c1, n1, .inr (.inl (va_cpy f g S D N)))))) False
      | _ => False
    | _ => False
  | _ => False
/-- a String constant is a place from 1000 on; its length, its signs -/
def zo_slen (tx : List (List Int32)) (nx : Nat) : zO := fun P _ _ L st u h => match st with
  | .ref a :: r => cond (Nat.ble (zm_cat r) 8) (∃ i : Nat, a = 1000 + i ∧ i < tx.length ∧ P nx L (.int (nI (tx.getD i []).length) :: r) u h) False
  | _ => False
def zo_sch (tx : List (List Int32)) (nx : Nat) : zO := fun P _ _ L st u h => match st with
  | .int k :: .ref a :: r => cond (Nat.ble (zm_cat r) 8) (∃ i j : Nat, a = 1000 + i ∧ i < tx.length ∧ j < (tx.getD i []).length ∧ k = nI j ∧ P nx L (.int ((tx.getD i []).getD j 0) :: r) u h) False
  | _ => False
/-- a row of constants: place 2000 -/
def zo_tld (xs : List Int32) (nx : Nat) : zO := fun P _ _ L st u h => match st with
  | .int i :: .ref a :: r => cond (Nat.beq a 2000) (∃ j : Nat, j < xs.length ∧ i = nI j ∧ P nx L (.int (xs.getD j 0) :: r) u h) False
  | _ => False
/-- the script: place 3000 -/
def zo_scr (xs : Nat → Int32) (n nx : Nat) : zO := fun P _ _ L st u h => match st with
  | .int i :: .ref a :: r => cond (Nat.beq a 3000) (∃ j : Nat, j < n ∧ i = nI j ∧ P nx L (.int (xs j) :: r) u h) False
  | _ => False
def zo_scl (n nx : Nat) : zO := fun P _ _ L st u h => match st with
  | .ref a :: r => cond (Nat.beq a 3000) (P nx L (.int (nI n) :: r) u h) False
  | _ => False
-- ends: a method that makes at most mc cells of ms slots
def zo_ir (mc ms : Nat) : zO := fun _ _ Q _ st u h => match st with
  | [.int x] => cond (Nat.ble u.1 mc) (cond (Nat.ble u.2 ms) (Q (some (.int x)) h) False) False
  | _ => False
def zo_zr (mc ms : Nat) : zO := fun _ _ Q _ st u h => match st with
  | [.int x] => cond (Nat.ble u.1 mc) (cond (Nat.ble u.2 ms) ((x = 0 ∨ x = 1) ∧ Q (some (.int x)) h) False) False
  | _ => False
def zo_lr (mc ms : Nat) : zO := fun _ _ Q _ st u h => match st with
  | [.long x] => cond (Nat.ble u.1 mc) (cond (Nat.ble u.2 ms) (Q (some (.long x)) h) False) False
  | _ => False
def zo_ar (mc ms : Nat) : zO := fun _ _ Q _ st u h => match st with
  | [.ref x] => cond (Nat.ble u.1 mc) (cond (Nat.ble u.2 ms) (Q (some (.ref x)) h) False) False
  | _ => False
def zo_vr (mc ms : Nat) : zO := fun _ _ Q _ st u h => match st with
  | [] => cond (Nat.ble u.1 mc) (cond (Nat.ble u.2 ms) (Q none h) False) False
  | _ => False
-- a method's table
abbrev zT : Type := List (Nat × zO)
def zm_lk : zT → Nat → zO
  | [], _ => fun _ _ _ _ _ _ _ => False
  | q :: l, pc => cond (Nat.beq q.1 pc) q.2 (zm_lk l pc)
/-- n steps in one method, up to the place 'stop' -/
def zF (T : zT) (stop : Nat) (R : zP) (C : zC) (Q : zQ) : Nat → zP
  | 0 => R
  | n + 1 => fun pc L st u h => cond (Nat.beq pc stop) (R pc L st u h) (zm_lk T pc (zF T stop R C Q n) C Q L st u h)
/-- the same cells: arrays agree as far as they go -/
def zm_eA (a b : va_E) : Prop := a = b ∨ (∃ c n f g, a = .inl (c, n, .inl f) ∧ b = .inl (c, n, .inl g) ∧ ∀ j, j < n → f j = g j) ∨ (∃ c n f g, a = .inl (c, n, .inr (.inl f)) ∧ b = .inl (c, n, .inr (.inl g)) ∧ ∀ j, j < n → f j = g j)
def zm_eH : zH → zH → Prop
  | [], [] => True
  | a :: l, b :: m => zm_eA a b ∧ zm_eH l m
  | _, _ => False
theorem zm_eA_rfl (a : va_E) : zm_eA a a := Or.inl rfl
theorem zm_eH_rfl : ∀ h : zH, zm_eH h h
  | [] => trivial
  | a :: l => ⟨zm_eA_rfl a, zm_eH_rfl l⟩
/-- what the machine gives: frames of method M, calls of method M; a program is a table a method, and how many locals it has -/
def zCl (tab : Nat → zT) (nl : Nat → Nat) (SM : zC) (SF : Nat → zQ → zP) : Prop :=
  (∀ (M : Nat) (Q : zQ) (P : zP), (∀ pc L st u h, P pc L st u h → SF M Q pc L st u h) → ∀ pc L st u h, zm_lk (tab M) pc P SM Q L st u h → SF M Q pc L st u h) ∧
  (∀ (M : Nat) (as : List Value) (h : zH) (Q : zQ), Nat.ble (zm_cat as) (nl M) = true → SF M Q 0 (zm_en as (nl M)) [] (0, 0) h → SM M as h Q) ∧
  (∀ (M : Nat) (Q : zQ) (pc : Nat) (L : zL) (st : List Value) (u : Nat × Nat) (h h' : zH), zm_eH h h' → SF M Q pc L st u h' → SF M Q pc L st u h)
theorem zF_le {tab : Nat → zT} {nl : Nat → Nat} {SM : zC} {SF : Nat → zQ → zP} (hZ : zCl tab nl SM SF) (M : Nat) (stop : Nat) (Q : zQ) : ∀ (n : Nat) pc L st u h, zF (tab M) stop (SF M Q) SM Q n pc L st u h → SF M Q pc L st u h
  | 0, _, _, _, _, _, k => k
  | n + 1, pc, L, st, u, h, k => by
    unfold zF at k
    cases hp : Nat.beq pc stop with
    | true => rw [hp] at k; exact k
    | false => rw [hp] at k; exact hZ.1 M Q _ (zF_le hZ M stop Q n) pc L st u h k
/-- from a place on -/
theorem zgo {tab : Nat → zT} {nl : Nat → Nat} {SM : zC} {SF : Nat → zQ → zP} (hZ : zCl tab nl SM SF) (stop n : Nat) {M : Nat} {T : zT} (hT : tab M = T) {Q : zQ} {pc : Nat} {L : zL} {st : List Value} {u : Nat × Nat} {h : zH}
    (k : zm_lk T pc (zF T stop (SF M Q) SM Q n) SM Q L st u h) : SF M Q pc L st u h := by
  subst hT
  exact hZ.1 M Q _ (zF_le hZ M stop Q n) pc L st u h k
/-- a method, from its entry on -/
theorem zin {tab : Nat → zT} {nl : Nat → Nat} {SM : zC} {SF : Nat → zQ → zP} (hZ : zCl tab nl SM SF) (stop n : Nat) {M : Nat} {T : zT} (hT : tab M = T) {N : Nat} (hN : nl M = N) {Q : zQ} {as : List Value} (hc : Nat.ble (zm_cat as) N = true) {h : zH}
    (k : zm_lk T 0 (zF T stop (SF M Q) SM Q n) SM Q (zm_en as N) [] (0, 0) h) : SM M as h Q := by
  subst hN
  exact hZ.2.1 M as h Q hc (zgo hZ stop n hT k)
theorem zsame {tab : Nat → zT} {nl : Nat → Nat} {SM : zC} {SF : Nat → zQ → zP} (hZ : zCl tab nl SM SF) {M : Nat} {Q : zQ} {pc : Nat} {L : zL} {st : List Value} {u : Nat × Nat} {h : zH} (h' : zH) (e : zm_eH h h') (k : SF M Q pc L st u h') : SF M Q pc L st u h := hZ.2.2 M Q pc L st u h h' e k
