/-! EACH INSTRUCTION: what the small machine says of it is what the machine does -/
def zm_ln : List Nat := [5, 6, 6, 5, 6, 7, 6, 4, 3, 4, 3, 3]
def zm_ow (i : Nat) : String × Nat × String := match i with
  | 0 => ("PooledInlaws$Kinds", 23, "inlaw")
  | 1 => ("PooledInlaws$Kinds", 13, "mother")
  | 2 => ("PooledInlaws$Kinds", 15, "father")
  | 3 => ("PooledInlaws$Kinds", 17, "uncle")
  | 4 => ("PooledInlaws$Kinds", 19, "tartar")
  | 5 => ("PooledInlaws$Kinds", 21, "blesser")
  | 6 => ("PooledInlaws$Tape", 52, "couple")
  | 7 => ("PooledInlaws$Tape", 57, "fire")
  | 8 => ("PooledInlaws$Tape", 62, "sit")
  | 9 => ("PooledInlaws$Tape", 73, "warm")
  | 10 => ("PooledInlaws$Tape", 82, "sat")
  | _ => ("PooledInlaws$Tape", 93, "had")
/-- what nobody writes: the String constants, two statics of the library's, the row ABOVE -/
def zG (ad adV : Nat → Nat) (A : Nat → Prop) (U : State) (H : Heap) : Prop :=
  vk_S 12 zm_ln zm_tx (fun i => ad (1000 + i)) adV A U H ∧ va_Z "java/lang/String" "COMPACT_STRINGS" "Z" (.int 1) A U H ∧ va_Zq "jdk/internal/util/Preconditions" "SIOOBE_FORMATTER" "Ljava/util/function/BiFunction;" A U H ∧
  va_Z "PooledInlaws$Kinds" "ABOVE" "[I" (.ref (ad 2000)) A U H ∧ va_T .int (ad 2000) 6 (fun j => .int (zm_ab.getD j 0)) A U H ∧ va_AO RX2 U ∧ ∀ i, i < 12 → vk_R (zm_ow i).1 (zm_ow i).2.1 (zm_ow i).2.2 (ad (1000 + i)) U
theorem zG.kept {ad adV : Nat → Nat} {A : Nat → Prop} {U : State} {H H1 : Heap} (h : zG ad adV A U H) (hq : ∀ a : Nat, a < H.size → ¬ A a → H1[a]? = H[a]?) : zG ad adV A U H1 :=
  ⟨h.1.kept hq, h.2.1.kept hq, h.2.2.1.kept hq, h.2.2.2.1.kept hq, h.2.2.2.2.1.kept hq, h.2.2.2.2.2⟩
theorem zG.narrow {ad adV : Nat → Nat} {A B : Nat → Prop} {U : State} {H : Heap} (h : zG ad adV A U H) (hq : ∀ q, B q → A q) : zG ad adV B U H :=
  ⟨h.1.narrow hq, h.2.1.narrow hq, h.2.2.1.narrow hq, h.2.2.2.1.narrow hq, h.2.2.2.2.1.narrow hq, h.2.2.2.2.2⟩
theorem zG.warm {ad adV : Nat → Nat} {A : Nat → Prop} {s U : State} {H : Heap} (hW : s.WarmedH U.vm) (h : zG ad adV A s H) : zG ad adV A U H :=
  ⟨h.1.moved hW.alike, h.2.1.moved hW.alike, h.2.2.1.moved hW.alike, h.2.2.2.1.moved hW.alike, h.2.2.2.2.1.moved hW.alike, h.2.2.2.2.2.1.moved hW.alike, fun i hi => (h.2.2.2.2.2.2 i hi).warm hW⟩
theorem zG.same {ad adV : Nat → Nat} {A : Nat → Prop} {s U : State} {H : Heap} (hv : U.vm = s.vm) (h : zG ad adV A s H) : zG ad adV A U H := by
  have ha : s.vm.Alike U.vm := by rw [hv]; exact Vm.Alike.refl _
  exact ⟨h.1.moved ha, h.2.1.moved ha, h.2.2.1.moved ha, h.2.2.2.1.moved ha, h.2.2.2.2.1.moved ha, h.2.2.2.2.2.1.moved ha, fun i hi => (h.2.2.2.2.2.2 i hi).same hv⟩
theorem zG.ag {n : Nat} {ad ad' adV : Nat → Nat} {A : Nat → Prop} {U : State} {H : Heap} (ha : zAg n ad ad') (h : zG ad adV A U H) : zG ad' adV A U H := by
  have e1 : (fun i => ad' (1000 + i)) = fun i => ad (1000 + i) := funext fun i => ha _ (Or.inr (by omega))
  have e2 : ad' 2000 = ad 2000 := ha _ (Or.inr (by omega))
  refine ⟨by rw [e1]; exact h.1, h.2.1, h.2.2.1, by rw [e2]; exact h.2.2.2.1, by rw [e2]; exact h.2.2.2.2.1, h.2.2.2.2.2.1, fun i hi => by rw [ha _ (Or.inr (by omega))]; exact h.2.2.2.2.2.2 i hi⟩
def zty (κ : zKp) : List (ClassId × FieldType) := [(κ.1, .int), (κ.2.1, .long), (κ.2.2, .object RX2)]
/-- a method's start -/
def zPre (D : va_G) (κ : zKp) (ad adV : Nat → Nat) (h : zH) (sz : Nat) (U : State) : Prop := U.heap.size = sz ∧ va_P D vwCl (zW κ ad h) U.heap ∧ va_K D vwCl (zty κ) U ∧ va_D (fun _ => True) (zW κ ad h) ∧ zG ad adV (va_A (zW κ ad h) sz) U U.heap
/-- a method's end -/
def zPost (D : va_G) (κ : zKp) (ad : Nat → Nat) (h : zH) (sz mc : Nat) (Qp : zQ) : Array Value → State → Outcome → State → Prop := fun _ st oc t =>
  (∃ (r : Option Value) (h' : zH) (ad' : Nat → Nat), oc = .returned (r.map (zt ad')) ∧ Qp r h' ∧ zAg h.length ad ad' ∧ (mc = 0 → ad' = ad) ∧ h.length ≤ h'.length ∧ va_P D vwCl (zW κ ad' h') t.heap ∧ va_K D vwCl (zty κ) t ∧ va_D (va_A (zW κ ad h) sz) (zW κ ad' h')) ∧ va_F (va_A (zW κ ad h) sz) st t
def zCx (p : Program) (s : State) (m : MethodId) (args : Array Value) (c : Code) (own : String) (cc : ByteArray) (nL : Nat) (A : Nat → Prop) (D : va_G) (κ : zKp) (ad0 adV : Nat → Nat) : Prop :=
  CallFix p m c cc nL s args zBT own ∧ va_K D vwCl (zty κ) s ∧ (∀ q, s.heap.size ≤ q → A q) ∧ zG ad0 adV A s s.heap
def zK (p : Program) (l : Launch) (e : Env) (R : Room) (s : State) (m : MethodId) (args : Array Value) (below : List Frame) (meth : Method) (c : Code) (Q : State → Prop) (A : Nat → Prop) (D : va_G) (κ : zKp) (ad0 : Nat → Nat) (n0 nL : Nat) : zP := fun pc L st u h =>
  ∀ (ad : Nat → Nat) (H : Heap) (locs : List Loc) (ls : Array Slot), zAg n0 ad0 ad → (u.1 = 0 → ad = ad0) → (n0 ≤ h.length ∧ u.1 ≤ R.cells ∧ u.2 ≤ R.slots) → va_P D vwCl (zW κ ad h) H → va_D A (zW κ ad h) → va_S A s.heap H locs → zLs ls nL ad L →
    W p l e R s m args below meth c H locs u.1 u.2 Q (F0 m pc ls (st.map (zt ad)))
def zLe (P K : zP) : Prop := ∀ pc L st u h, P pc L st u h → K pc L st u h
theorem zm_cat_eq (ad : Nat → Nat) : ∀ (r : List Value), ((r.map (zt ad)).map fun v => v.category).sum = zm_cat r
  | [] => rfl
  | v :: r => by
    rw [List.map_cons, List.map_cons, List.sum_cons, zm_cat_eq ad r, zt_cat]
    rfl
theorem zcond {b : Bool} {X : Prop} (k : cond b X False) : b = true ∧ X := by
  cases b with
  | false => exact k.elim
  | true => exact ⟨rfl, k⟩
theorem zk_same {p : Program} {l : Launch} {e : Env} {R : Room} {s : State} {m : MethodId} {args : Array Value} {below : List Frame} {meth : Method} {c : Code} {Q : State → Prop} {A : Nat → Prop} {D : va_G} {κ : zKp} {ad0 : Nat → Nat} {n0 nL pc : Nat} {L : zL} {st : List Value} {u : Nat × Nat} {h h' : zH}
    (he : zm_eH h h') (k : zK p l e R s m args below meth c Q A D κ ad0 n0 nL pc L st u h') : zK p l e R s m args below meth c Q A D κ ad0 n0 nL pc L st u h := by
  intro ad H locs ls h1 h2 h3 h4 h5 h6 h7
  have hl := (zm_eH_get he).1
  exact k ad H locs ls h1 h2 ⟨by rw [← hl]; exact h3.1, h3.2⟩ (zP_same he h4) (zD_len hl h5) h6 h7
section ZK
variable {p : Program} {l : Launch} {e : Env} {R : Room} {s : State} {m : MethodId} {args : Array Value} {below : List Frame} {meth : Method} {c : Code} {Q : State → Prop} {A : Nat → Prop} {D : va_G} {κ : zKp} {ad0 adV : Nat → Nat} {n0 nL : Nat} {own : String} {cc : ByteArray}
variable {P : zP} {C : zC} {Qp : zQ} {pc nx : Nat} {L : zL} {st : List Value} {u : Nat × Nat} {h : zH}
theorem zk_iconst (X : zCx p s m args c own cc nL A D κ ad0 adV) (hP : zLe P (zK p l e R s m args below meth c Q A D κ ad0 n0 nL)) {n : Int} (hd : decode cc pc = .ok (.iconst n, 1)) (hn : nx = pc + 1) {v : Int32} (hv : Int32.ofInt n = v) (k : zo_c (.int v) nx P C Qp L st u h) : zK p l e R s m args below meth c Q A D κ ad0 n0 nL pc L st u h := by
  subst hn
  obtain ⟨⟨hx, hb, hml, hown, hts⟩, hK, hA, hG⟩ := X
  intro ad H locs ls h1 h2 h3 h4 h5 h6 h7
  exact lv_iconst hx hb hd hv (hP _ _ _ _ _ k ad H locs ls h1 h2 h3 h4 h5 h6 h7)
theorem zk_bipush (X : zCx p s m args c own cc nL A D κ ad0 adV) (hP : zLe P (zK p l e R s m args below meth c Q A D κ ad0 n0 nL)) {n : Int} (hd : decode cc pc = .ok (.bipush n, 2)) (hn : nx = pc + 2) {v : Int32} (hv : (Int8.ofInt n).toInt32 = v) (k : zo_c (.int v) nx P C Qp L st u h) : zK p l e R s m args below meth c Q A D κ ad0 n0 nL pc L st u h := by
  subst hn
  obtain ⟨⟨hx, hb, hml, hown, hts⟩, hK, hA, hG⟩ := X
  intro ad H locs ls h1 h2 h3 h4 h5 h6 h7
  exact lv_bipush hx hb hd hv (hP _ _ _ _ _ k ad H locs ls h1 h2 h3 h4 h5 h6 h7)
theorem zk_sipush (X : zCx p s m args c own cc nL A D κ ad0 adV) (hP : zLe P (zK p l e R s m args below meth c Q A D κ ad0 n0 nL)) {n : Int} (hd : decode cc pc = .ok (.sipush n, 3)) (hn : nx = pc + 3) {v : Int32} (hv : (Int16.ofInt n).toInt32 = v) (k : zo_c (.int v) nx P C Qp L st u h) : zK p l e R s m args below meth c Q A D κ ad0 n0 nL pc L st u h := by
  subst hn
  obtain ⟨⟨hx, hb, hml, hown, hts⟩, hK, hA, hG⟩ := X
  intro ad H locs ls h1 h2 h3 h4 h5 h6 h7
  exact lv_sipush hx hb hd hv (hP _ _ _ _ _ k ad H locs ls h1 h2 h3 h4 h5 h6 h7)
theorem zk_lconst (X : zCx p s m args c own cc nL A D κ ad0 adV) (hP : zLe P (zK p l e R s m args below meth c Q A D κ ad0 n0 nL)) {n : Fin 2} (hd : decode cc pc = .ok (.lconst n, 1)) (hn : nx = pc + 1) {v : Int64} (hv : Int64.ofNat (n : Nat) = v) (k : zo_c (.long v) nx P C Qp L st u h) : zK p l e R s m args below meth c Q A D κ ad0 n0 nL pc L st u h := by
  subst hn
  obtain ⟨⟨hx, hb, hml, hown, hts⟩, hK, hA, hG⟩ := X
  intro ad H locs ls h1 h2 h3 h4 h5 h6 h7
  exact lv_lconst hx hb hd hv (hP _ _ _ _ _ k ad H locs ls h1 h2 h3 h4 h5 h6 h7)
theorem zk_ldc (X : zCx p s m args c own cc nL A D κ ad0 adV) (hP : zLe P (zK p l e R s m args below meth c Q A D κ ad0 n0 nL)) {n : Nat} (hd : decode cc pc = .ok (.ldc n, 2)) (hn : nx = pc + 2) {v : Int32} (hw : Cond.constant own n v ∈ zBT) (k : zo_c (.int v) nx P C Qp L st u h) : zK p l e R s m args below meth c Q A D κ ad0 n0 nL pc L st u h := by
  subst hn
  obtain ⟨⟨hx, hb, hml, hown, hts⟩, hK, hA, hG⟩ := X
  intro ad H locs ls h1 h2 h3 h4 h5 h6 h7
  exact lv_ldc hx hb hown (hts _ hw) hd (hP _ _ _ _ _ k ad H locs ls h1 h2 h3 h4 h5 h6 h7)
theorem zk_ldcw (X : zCx p s m args c own cc nL A D κ ad0 adV) (hP : zLe P (zK p l e R s m args below meth c Q A D κ ad0 n0 nL)) {n : Nat} (hd : decode cc pc = .ok (.ldc_w n, 3)) (hn : nx = pc + 3) {v : Int32} (hw : Cond.constant own n v ∈ zBT) (k : zo_c (.int v) nx P C Qp L st u h) : zK p l e R s m args below meth c Q A D κ ad0 n0 nL pc L st u h := by
  subst hn
  obtain ⟨⟨hx, hb, hml, hown, hts⟩, hK, hA, hG⟩ := X
  intro ad H locs ls h1 h2 h3 h4 h5 h6 h7
  exact lv_ldcw hx hb hown (hts _ hw) hd (hP _ _ _ _ _ k ad H locs ls h1 h2 h3 h4 h5 h6 h7)
theorem zk_ldc2 (X : zCx p s m args c own cc nL A D κ ad0 adV) (hP : zLe P (zK p l e R s m args below meth c Q A D κ ad0 n0 nL)) {n : Nat} (hd : decode cc pc = .ok (.ldc2_w n, 3)) (hn : nx = pc + 3) {v : Int64} (hw : Cond.constantLong own n v ∈ zBT) (k : zo_c (.long v) nx P C Qp L st u h) : zK p l e R s m args below meth c Q A D κ ad0 n0 nL pc L st u h := by
  subst hn
  obtain ⟨⟨hx, hb, hml, hown, hts⟩, hK, hA, hG⟩ := X
  intro ad H locs ls h1 h2 h3 h4 h5 h6 h7
  exact lv_ldc2 hx hb hown (hts _ hw) hd (hP _ _ _ _ _ k ad H locs ls h1 h2 h3 h4 h5 h6 h7)
theorem zk_ldcs (X : zCx p s m args c own cc nL A D κ ad0 adV) (hP : zLe P (zK p l e R s m args below meth c Q A D κ ad0 n0 nL)) {i : Nat} (hd : decode cc pc = .ok (.ldc (zm_ow i).2.1, 2)) (hn : nx = pc + 2) (hi : i < 12) (hw : own = (zm_ow i).1) (k : zo_c (.ref (1000 + i)) nx P C Qp L st u h) : zK p l e R s m args below meth c Q A D κ ad0 n0 nL pc L st u h := by
  subst hn
  obtain ⟨⟨hx, hb, hml, hown, hts⟩, hK, hA, hG⟩ := X
  intro ad H locs ls h1 h2 h3 h4 h5 h6 h7
  subst hw
  have e1 : ad (1000 + i) = ad0 (1000 + i) := h1 _ (Or.inr (by omega))
  refine va_ldcS (tx := (zm_ow i).2.2) (q := ad (1000 + i)) hx hb hown ?_ hd (hP _ _ _ _ _ k ad H locs ls h1 h2 h3 h4 h5 h6 h7)
  rw [e1]
  exact hG.2.2.2.2.2.2 i hi
theorem zk_iln (X : zCx p s m args c own cc nL A D κ ad0 adV) (hP : zLe P (zK p l e R s m args below meth c Q A D κ ad0 n0 nL)) {i : Nat} {j : Fin 4} (hd : decode cc pc = .ok (.iload_n j, 1)) (hn : nx = pc + 1) (hi : (j : Nat) = i) (k : zo_il i nx P C Qp L st u h) : zK p l e R s m args below meth c Q A D κ ad0 n0 nL pc L st u h := by
  subst hn
  obtain ⟨⟨hx, hb, hml, hown, hts⟩, hK, hA, hG⟩ := X
  intro ad H locs ls h1 h2 h3 h4 h5 h6 h7
  unfold zo_il at k
  split at k
  · next x hg => exact lv_iload_n hx hb hd hi (h7.at hg) (hP _ _ _ _ _ k ad H locs ls h1 h2 h3 h4 h5 h6 h7)
  · exact k.elim
theorem zk_il (X : zCx p s m args c own cc nL A D κ ad0 adV) (hP : zLe P (zK p l e R s m args below meth c Q A D κ ad0 n0 nL)) {i : Nat} (hd : decode cc pc = .ok (.iload i, 2)) (hn : nx = pc + 2)  (k : zo_il i nx P C Qp L st u h) : zK p l e R s m args below meth c Q A D κ ad0 n0 nL pc L st u h := by
  subst hn
  obtain ⟨⟨hx, hb, hml, hown, hts⟩, hK, hA, hG⟩ := X
  intro ad H locs ls h1 h2 h3 h4 h5 h6 h7
  unfold zo_il at k
  split at k
  · next x hg => exact lv_iload hx hb hd (h7.at hg) (hP _ _ _ _ _ k ad H locs ls h1 h2 h3 h4 h5 h6 h7)
  · exact k.elim
theorem zk_lln (X : zCx p s m args c own cc nL A D κ ad0 adV) (hP : zLe P (zK p l e R s m args below meth c Q A D κ ad0 n0 nL)) {i : Nat} {j : Fin 4} (hd : decode cc pc = .ok (.lload_n j, 1)) (hn : nx = pc + 1) (hi : (j : Nat) = i) (k : zo_ll i nx P C Qp L st u h) : zK p l e R s m args below meth c Q A D κ ad0 n0 nL pc L st u h := by
  subst hn
  obtain ⟨⟨hx, hb, hml, hown, hts⟩, hK, hA, hG⟩ := X
  intro ad H locs ls h1 h2 h3 h4 h5 h6 h7
  unfold zo_ll at k
  split at k
  · next x hg => exact lv_lload_n hx hb hd hi (h7.at hg) (hP _ _ _ _ _ k ad H locs ls h1 h2 h3 h4 h5 h6 h7)
  · exact k.elim
theorem zk_ll (X : zCx p s m args c own cc nL A D κ ad0 adV) (hP : zLe P (zK p l e R s m args below meth c Q A D κ ad0 n0 nL)) {i : Nat} (hd : decode cc pc = .ok (.lload i, 2)) (hn : nx = pc + 2)  (k : zo_ll i nx P C Qp L st u h) : zK p l e R s m args below meth c Q A D κ ad0 n0 nL pc L st u h := by
  subst hn
  obtain ⟨⟨hx, hb, hml, hown, hts⟩, hK, hA, hG⟩ := X
  intro ad H locs ls h1 h2 h3 h4 h5 h6 h7
  unfold zo_ll at k
  split at k
  · next x hg => exact lv_lload hx hb hd (h7.at hg) (hP _ _ _ _ _ k ad H locs ls h1 h2 h3 h4 h5 h6 h7)
  · exact k.elim
theorem zk_aln (X : zCx p s m args c own cc nL A D κ ad0 adV) (hP : zLe P (zK p l e R s m args below meth c Q A D κ ad0 n0 nL)) {i : Nat} {j : Fin 4} (hd : decode cc pc = .ok (.aload_n j, 1)) (hn : nx = pc + 1) (hi : (j : Nat) = i) (k : zo_al i nx P C Qp L st u h) : zK p l e R s m args below meth c Q A D κ ad0 n0 nL pc L st u h := by
  subst hn
  obtain ⟨⟨hx, hb, hml, hown, hts⟩, hK, hA, hG⟩ := X
  intro ad H locs ls h1 h2 h3 h4 h5 h6 h7
  unfold zo_al at k
  split at k
  · next x hg => exact lv_aload_n hx hb hd hi (h7.at hg) (hP _ _ _ _ _ k ad H locs ls h1 h2 h3 h4 h5 h6 h7)
  · exact k.elim
theorem zk_al (X : zCx p s m args c own cc nL A D κ ad0 adV) (hP : zLe P (zK p l e R s m args below meth c Q A D κ ad0 n0 nL)) {i : Nat} (hd : decode cc pc = .ok (.aload i, 2)) (hn : nx = pc + 2)  (k : zo_al i nx P C Qp L st u h) : zK p l e R s m args below meth c Q A D κ ad0 n0 nL pc L st u h := by
  subst hn
  obtain ⟨⟨hx, hb, hml, hown, hts⟩, hK, hA, hG⟩ := X
  intro ad H locs ls h1 h2 h3 h4 h5 h6 h7
  unfold zo_al at k
  split at k
  · next x hg => exact lv_aload hx hb hd (h7.at hg) (hP _ _ _ _ _ k ad H locs ls h1 h2 h3 h4 h5 h6 h7)
  · exact k.elim
theorem zk_isn (X : zCx p s m args c own cc nL A D κ ad0 adV) (hP : zLe P (zK p l e R s m args below meth c Q A D κ ad0 n0 nL)) {i : Nat} {j : Fin 4} (hd : decode cc pc = .ok (.istore_n j, 1)) (hn : nx = pc + 1) (hi : (j : Nat) = i) (hl : i < nL) (k : zo_is i nx P C Qp L st u h) : zK p l e R s m args below meth c Q A D κ ad0 n0 nL pc L st u h := by
  subst hn
  obtain ⟨⟨hx, hb, hml, hown, hts⟩, hK, hA, hG⟩ := X
  intro ad H locs ls h1 h2 h3 h4 h5 h6 h7
  unfold zo_is at k
  split at k
  · exact lv_istore_n hx hb hd hi h7.2 hl rfl (fun ls' hl' => hP _ _ _ _ _ k ad H locs ls' h1 h2 h3 h4 h5 h6 (zLs.st h7.1 hl'))
  · exact k.elim
theorem zk_is (X : zCx p s m args c own cc nL A D κ ad0 adV) (hP : zLe P (zK p l e R s m args below meth c Q A D κ ad0 n0 nL)) {i : Nat} (hd : decode cc pc = .ok (.istore i, 2)) (hn : nx = pc + 2) (hl : i < nL) (k : zo_is i nx P C Qp L st u h) : zK p l e R s m args below meth c Q A D κ ad0 n0 nL pc L st u h := by
  subst hn
  obtain ⟨⟨hx, hb, hml, hown, hts⟩, hK, hA, hG⟩ := X
  intro ad H locs ls h1 h2 h3 h4 h5 h6 h7
  unfold zo_is at k
  split at k
  · exact lv_istore hx hb hd h7.2 hl rfl (fun ls' hl' => hP _ _ _ _ _ k ad H locs ls' h1 h2 h3 h4 h5 h6 (zLs.st h7.1 hl'))
  · exact k.elim
theorem zk_asn (X : zCx p s m args c own cc nL A D κ ad0 adV) (hP : zLe P (zK p l e R s m args below meth c Q A D κ ad0 n0 nL)) {i : Nat} {j : Fin 4} (hd : decode cc pc = .ok (.astore_n j, 1)) (hn : nx = pc + 1) (hi : (j : Nat) = i) (hl : i < nL) (k : zo_as i nx P C Qp L st u h) : zK p l e R s m args below meth c Q A D κ ad0 n0 nL pc L st u h := by
  subst hn
  obtain ⟨⟨hx, hb, hml, hown, hts⟩, hK, hA, hG⟩ := X
  intro ad H locs ls h1 h2 h3 h4 h5 h6 h7
  unfold zo_as at k
  split at k
  · exact lv_astore_n hx hb hd hi h7.2 hl rfl (fun ls' hl' => hP _ _ _ _ _ k ad H locs ls' h1 h2 h3 h4 h5 h6 (zLs.st h7.1 hl'))
  · exact k.elim
theorem zk_as (X : zCx p s m args c own cc nL A D κ ad0 adV) (hP : zLe P (zK p l e R s m args below meth c Q A D κ ad0 n0 nL)) {i : Nat} (hd : decode cc pc = .ok (.astore i, 2)) (hn : nx = pc + 2) (hl : i < nL) (k : zo_as i nx P C Qp L st u h) : zK p l e R s m args below meth c Q A D κ ad0 n0 nL pc L st u h := by
  subst hn
  obtain ⟨⟨hx, hb, hml, hown, hts⟩, hK, hA, hG⟩ := X
  intro ad H locs ls h1 h2 h3 h4 h5 h6 h7
  unfold zo_as at k
  split at k
  · exact lv_astore hx hb hd h7.2 hl rfl (fun ls' hl' => hP _ _ _ _ _ k ad H locs ls' h1 h2 h3 h4 h5 h6 (zLs.st h7.1 hl'))
  · exact k.elim
theorem zk_lsn (X : zCx p s m args c own cc nL A D κ ad0 adV) (hP : zLe P (zK p l e R s m args below meth c Q A D κ ad0 n0 nL)) {i : Nat} {j : Fin 4} (hd : decode cc pc = .ok (.lstore_n j, 1)) (hn : nx = pc + 1) (hi : (j : Nat) = i) (hl : i + 1 < nL) (k : zo_ls i nx P C Qp L st u h) : zK p l e R s m args below meth c Q A D κ ad0 n0 nL pc L st u h := by
  subst hn
  obtain ⟨⟨hx, hb, hml, hown, hts⟩, hK, hA, hG⟩ := X
  intro ad H locs ls h1 h2 h3 h4 h5 h6 h7
  unfold zo_ls at k
  split at k
  · exact lv_lstore_n hx hb hd hi h7.2 hl rfl (fun ls' hl' => hP _ _ _ _ _ k ad H locs ls' h1 h2 h3 h4 h5 h6 (zLs.st2 h7.1 hl'))
  · exact k.elim
theorem zk_ls (X : zCx p s m args c own cc nL A D κ ad0 adV) (hP : zLe P (zK p l e R s m args below meth c Q A D κ ad0 n0 nL)) {i : Nat} (hd : decode cc pc = .ok (.lstore i, 2)) (hn : nx = pc + 2) (hl : i + 1 < nL) (k : zo_ls i nx P C Qp L st u h) : zK p l e R s m args below meth c Q A D κ ad0 n0 nL pc L st u h := by
  subst hn
  obtain ⟨⟨hx, hb, hml, hown, hts⟩, hK, hA, hG⟩ := X
  intro ad H locs ls h1 h2 h3 h4 h5 h6 h7
  unfold zo_ls at k
  split at k
  · exact lv_lstore hx hb hd h7.2 hl rfl (fun ls' hl' => hP _ _ _ _ _ k ad H locs ls' h1 h2 h3 h4 h5 h6 (zLs.st2 h7.1 hl'))
  · exact k.elim
theorem zk_inc (X : zCx p s m args c own cc nL A D κ ad0 adV) (hP : zLe P (zK p l e R s m args below meth c Q A D κ ad0 n0 nL)) {i : Nat} {n : Int} (hd : decode cc pc = .ok (.iinc i n, 3)) (hn : nx = pc + 3) {v : Int32} (hv : Int32.ofInt n = v) (k : zo_inc i v nx P C Qp L st u h) : zK p l e R s m args below meth c Q A D κ ad0 n0 nL pc L st u h := by
  subst hn
  obtain ⟨⟨hx, hb, hml, hown, hts⟩, hK, hA, hG⟩ := X
  intro ad H locs ls h1 h2 h3 h4 h5 h6 h7
  unfold zo_inc at k
  split at k
  · next x hg =>
    obtain ⟨q, hq⟩ : ∃ q, (zA ad 0 L)[q]? = some (i, Value.int x) := by
      rw [zm_g_eq] at hg
      have h8 := zA_mem (i := 0) (ad := ad) hg
      rw [Nat.zero_add] at h8
      exact List.getElem?_of_mem h8
    exact lv_iinc (v := x + v) hx hb hd h7.2 hq (by rw [hv]) (h7.lt hg) rfl (fun ls' hl' => hP _ _ _ _ _ k ad H locs ls' h1 h2 h3 h4 h5 h6 (zLs.inc h7 hg hl'))
  · exact k.elim
theorem zk_iadd (X : zCx p s m args c own cc nL A D κ ad0 adV) (hP : zLe P (zK p l e R s m args below meth c Q A D κ ad0 n0 nL)) (hd : decode cc pc = .ok (.iadd, 1)) (hn : nx = pc + 1)  (k : zo_iadd nx P C Qp L st u h) : zK p l e R s m args below meth c Q A D κ ad0 n0 nL pc L st u h := by
  subst hn
  obtain ⟨⟨hx, hb, hml, hown, hts⟩, hK, hA, hG⟩ := X
  intro ad H locs ls h1 h2 h3 h4 h5 h6 h7
  unfold zo_iadd at k
  split at k
  · exact lv_iadd hx hb hd (hP _ _ _ _ _ k ad H locs ls h1 h2 h3 h4 h5 h6 h7)
  · exact k.elim
theorem zk_isub (X : zCx p s m args c own cc nL A D κ ad0 adV) (hP : zLe P (zK p l e R s m args below meth c Q A D κ ad0 n0 nL)) (hd : decode cc pc = .ok (.isub, 1)) (hn : nx = pc + 1)  (k : zo_isub nx P C Qp L st u h) : zK p l e R s m args below meth c Q A D κ ad0 n0 nL pc L st u h := by
  subst hn
  obtain ⟨⟨hx, hb, hml, hown, hts⟩, hK, hA, hG⟩ := X
  intro ad H locs ls h1 h2 h3 h4 h5 h6 h7
  unfold zo_isub at k
  split at k
  · exact lv_isub hx hb hd (hP _ _ _ _ _ k ad H locs ls h1 h2 h3 h4 h5 h6 h7)
  · exact k.elim
theorem zk_imul (X : zCx p s m args c own cc nL A D κ ad0 adV) (hP : zLe P (zK p l e R s m args below meth c Q A D κ ad0 n0 nL)) (hd : decode cc pc = .ok (.imul, 1)) (hn : nx = pc + 1)  (k : zo_imul nx P C Qp L st u h) : zK p l e R s m args below meth c Q A D κ ad0 n0 nL pc L st u h := by
  subst hn
  obtain ⟨⟨hx, hb, hml, hown, hts⟩, hK, hA, hG⟩ := X
  intro ad H locs ls h1 h2 h3 h4 h5 h6 h7
  unfold zo_imul at k
  split at k
  · exact lv_imul hx hb hd (hP _ _ _ _ _ k ad H locs ls h1 h2 h3 h4 h5 h6 h7)
  · exact k.elim
theorem zk_iand (X : zCx p s m args c own cc nL A D κ ad0 adV) (hP : zLe P (zK p l e R s m args below meth c Q A D κ ad0 n0 nL)) (hd : decode cc pc = .ok (.iand, 1)) (hn : nx = pc + 1)  (k : zo_iand nx P C Qp L st u h) : zK p l e R s m args below meth c Q A D κ ad0 n0 nL pc L st u h := by
  subst hn
  obtain ⟨⟨hx, hb, hml, hown, hts⟩, hK, hA, hG⟩ := X
  intro ad H locs ls h1 h2 h3 h4 h5 h6 h7
  unfold zo_iand at k
  split at k
  · exact lv_iand hx hb hd (hP _ _ _ _ _ k ad H locs ls h1 h2 h3 h4 h5 h6 h7)
  · exact k.elim
theorem zk_ior (X : zCx p s m args c own cc nL A D κ ad0 adV) (hP : zLe P (zK p l e R s m args below meth c Q A D κ ad0 n0 nL)) (hd : decode cc pc = .ok (.ior, 1)) (hn : nx = pc + 1)  (k : zo_ior nx P C Qp L st u h) : zK p l e R s m args below meth c Q A D κ ad0 n0 nL pc L st u h := by
  subst hn
  obtain ⟨⟨hx, hb, hml, hown, hts⟩, hK, hA, hG⟩ := X
  intro ad H locs ls h1 h2 h3 h4 h5 h6 h7
  unfold zo_ior at k
  split at k
  · exact lv_ior hx hb hd (hP _ _ _ _ _ k ad H locs ls h1 h2 h3 h4 h5 h6 h7)
  · exact k.elim
theorem zk_ishl (X : zCx p s m args c own cc nL A D κ ad0 adV) (hP : zLe P (zK p l e R s m args below meth c Q A D κ ad0 n0 nL)) (hd : decode cc pc = .ok (.ishl, 1)) (hn : nx = pc + 1)  (k : zo_ishl nx P C Qp L st u h) : zK p l e R s m args below meth c Q A D κ ad0 n0 nL pc L st u h := by
  subst hn
  obtain ⟨⟨hx, hb, hml, hown, hts⟩, hK, hA, hG⟩ := X
  intro ad H locs ls h1 h2 h3 h4 h5 h6 h7
  unfold zo_ishl at k
  split at k
  · exact lv_ishl hx hb hd (hP _ _ _ _ _ k ad H locs ls h1 h2 h3 h4 h5 h6 h7)
  · exact k.elim
theorem zk_ishr (X : zCx p s m args c own cc nL A D κ ad0 adV) (hP : zLe P (zK p l e R s m args below meth c Q A D κ ad0 n0 nL)) (hd : decode cc pc = .ok (.ishr, 1)) (hn : nx = pc + 1)  (k : zo_ishr nx P C Qp L st u h) : zK p l e R s m args below meth c Q A D κ ad0 n0 nL pc L st u h := by
  subst hn
  obtain ⟨⟨hx, hb, hml, hown, hts⟩, hK, hA, hG⟩ := X
  intro ad H locs ls h1 h2 h3 h4 h5 h6 h7
  unfold zo_ishr at k
  split at k
  · exact lv_ishr hx hb hd (hP _ _ _ _ _ k ad H locs ls h1 h2 h3 h4 h5 h6 h7)
  · exact k.elim
theorem zk_ladd (X : zCx p s m args c own cc nL A D κ ad0 adV) (hP : zLe P (zK p l e R s m args below meth c Q A D κ ad0 n0 nL)) (hd : decode cc pc = .ok (.ladd, 1)) (hn : nx = pc + 1)  (k : zo_ladd nx P C Qp L st u h) : zK p l e R s m args below meth c Q A D κ ad0 n0 nL pc L st u h := by
  subst hn
  obtain ⟨⟨hx, hb, hml, hown, hts⟩, hK, hA, hG⟩ := X
  intro ad H locs ls h1 h2 h3 h4 h5 h6 h7
  unfold zo_ladd at k
  split at k
  · exact lv_ladd hx hb hd (hP _ _ _ _ _ k ad H locs ls h1 h2 h3 h4 h5 h6 h7)
  · exact k.elim
theorem zk_lmul (X : zCx p s m args c own cc nL A D κ ad0 adV) (hP : zLe P (zK p l e R s m args below meth c Q A D κ ad0 n0 nL)) (hd : decode cc pc = .ok (.lmul, 1)) (hn : nx = pc + 1)  (k : zo_lmul nx P C Qp L st u h) : zK p l e R s m args below meth c Q A D κ ad0 n0 nL pc L st u h := by
  subst hn
  obtain ⟨⟨hx, hb, hml, hown, hts⟩, hK, hA, hG⟩ := X
  intro ad H locs ls h1 h2 h3 h4 h5 h6 h7
  unfold zo_lmul at k
  split at k
  · exact lv_lmul hx hb hd (hP _ _ _ _ _ k ad H locs ls h1 h2 h3 h4 h5 h6 h7)
  · exact k.elim
theorem zk_land (X : zCx p s m args c own cc nL A D κ ad0 adV) (hP : zLe P (zK p l e R s m args below meth c Q A D κ ad0 n0 nL)) (hd : decode cc pc = .ok (.land, 1)) (hn : nx = pc + 1)  (k : zo_land nx P C Qp L st u h) : zK p l e R s m args below meth c Q A D κ ad0 n0 nL pc L st u h := by
  subst hn
  obtain ⟨⟨hx, hb, hml, hown, hts⟩, hK, hA, hG⟩ := X
  intro ad H locs ls h1 h2 h3 h4 h5 h6 h7
  unfold zo_land at k
  split at k
  · exact lv_land hx hb hd (hP _ _ _ _ _ k ad H locs ls h1 h2 h3 h4 h5 h6 h7)
  · exact k.elim
theorem zk_lor (X : zCx p s m args c own cc nL A D κ ad0 adV) (hP : zLe P (zK p l e R s m args below meth c Q A D κ ad0 n0 nL)) (hd : decode cc pc = .ok (.lor, 1)) (hn : nx = pc + 1)  (k : zo_lor nx P C Qp L st u h) : zK p l e R s m args below meth c Q A D κ ad0 n0 nL pc L st u h := by
  subst hn
  obtain ⟨⟨hx, hb, hml, hown, hts⟩, hK, hA, hG⟩ := X
  intro ad H locs ls h1 h2 h3 h4 h5 h6 h7
  unfold zo_lor at k
  split at k
  · exact lv_lor hx hb hd (hP _ _ _ _ _ k ad H locs ls h1 h2 h3 h4 h5 h6 h7)
  · exact k.elim
theorem zk_lcmp (X : zCx p s m args c own cc nL A D κ ad0 adV) (hP : zLe P (zK p l e R s m args below meth c Q A D κ ad0 n0 nL)) (hd : decode cc pc = .ok (.lcmp, 1)) (hn : nx = pc + 1)  (k : zo_lcmp nx P C Qp L st u h) : zK p l e R s m args below meth c Q A D κ ad0 n0 nL pc L st u h := by
  subst hn
  obtain ⟨⟨hx, hb, hml, hown, hts⟩, hK, hA, hG⟩ := X
  intro ad H locs ls h1 h2 h3 h4 h5 h6 h7
  unfold zo_lcmp at k
  split at k
  · exact W.lcmp hx hb hd (hP _ _ _ _ _ k ad H locs ls h1 h2 h3 h4 h5 h6 h7)
  · exact k.elim
theorem zk_lshl (X : zCx p s m args c own cc nL A D κ ad0 adV) (hP : zLe P (zK p l e R s m args below meth c Q A D κ ad0 n0 nL)) (hd : decode cc pc = .ok (.lshl, 1)) (hn : nx = pc + 1)  (k : zo_lshl nx P C Qp L st u h) : zK p l e R s m args below meth c Q A D κ ad0 n0 nL pc L st u h := by
  subst hn
  obtain ⟨⟨hx, hb, hml, hown, hts⟩, hK, hA, hG⟩ := X
  intro ad H locs ls h1 h2 h3 h4 h5 h6 h7
  unfold zo_lshl at k
  split at k
  · exact lv_lshl hx hb hd rfl (hP _ _ _ _ _ k ad H locs ls h1 h2 h3 h4 h5 h6 h7)
  · exact k.elim
theorem zk_i2l (X : zCx p s m args c own cc nL A D κ ad0 adV) (hP : zLe P (zK p l e R s m args below meth c Q A D κ ad0 n0 nL)) (hd : decode cc pc = .ok (.i2l, 1)) (hn : nx = pc + 1)  (k : zo_i2l nx P C Qp L st u h) : zK p l e R s m args below meth c Q A D κ ad0 n0 nL pc L st u h := by
  subst hn
  obtain ⟨⟨hx, hb, hml, hown, hts⟩, hK, hA, hG⟩ := X
  intro ad H locs ls h1 h2 h3 h4 h5 h6 h7
  unfold zo_i2l at k
  split at k
  · exact lv_i2l hx hb hd rfl (hP _ _ _ _ _ k ad H locs ls h1 h2 h3 h4 h5 h6 h7)
  · exact k.elim
theorem zk_l2i (X : zCx p s m args c own cc nL A D κ ad0 adV) (hP : zLe P (zK p l e R s m args below meth c Q A D κ ad0 n0 nL)) (hd : decode cc pc = .ok (.l2i, 1)) (hn : nx = pc + 1)  (k : zo_l2i nx P C Qp L st u h) : zK p l e R s m args below meth c Q A D κ ad0 n0 nL pc L st u h := by
  subst hn
  obtain ⟨⟨hx, hb, hml, hown, hts⟩, hK, hA, hG⟩ := X
  intro ad H locs ls h1 h2 h3 h4 h5 h6 h7
  unfold zo_l2i at k
  split at k
  · exact lv_l2i hx hb hd rfl (hP _ _ _ _ _ k ad H locs ls h1 h2 h3 h4 h5 h6 h7)
  · exact k.elim
theorem zk_i2b (X : zCx p s m args c own cc nL A D κ ad0 adV) (hP : zLe P (zK p l e R s m args below meth c Q A D κ ad0 n0 nL)) (hd : decode cc pc = .ok (.i2b, 1)) (hn : nx = pc + 1)  (k : zo_i2b nx P C Qp L st u h) : zK p l e R s m args below meth c Q A D κ ad0 n0 nL pc L st u h := by
  subst hn
  obtain ⟨⟨hx, hb, hml, hown, hts⟩, hK, hA, hG⟩ := X
  intro ad H locs ls h1 h2 h3 h4 h5 h6 h7
  unfold zo_i2b at k
  split at k
  · exact lv_i2b hx hb hd rfl (hP _ _ _ _ _ k ad H locs ls h1 h2 h3 h4 h5 h6 h7)
  · exact k.elim
theorem zk_i2s (X : zCx p s m args c own cc nL A D κ ad0 adV) (hP : zLe P (zK p l e R s m args below meth c Q A D κ ad0 n0 nL)) (hd : decode cc pc = .ok (.i2s, 1)) (hn : nx = pc + 1)  (k : zo_i2s nx P C Qp L st u h) : zK p l e R s m args below meth c Q A D κ ad0 n0 nL pc L st u h := by
  subst hn
  obtain ⟨⟨hx, hb, hml, hown, hts⟩, hK, hA, hG⟩ := X
  intro ad H locs ls h1 h2 h3 h4 h5 h6 h7
  unfold zo_i2s at k
  split at k
  · exact lv_i2s hx hb hd rfl (hP _ _ _ _ _ k ad H locs ls h1 h2 h3 h4 h5 h6 h7)
  · exact k.elim
theorem zk_idiv (X : zCx p s m args c own cc nL A D κ ad0 adV) (hP : zLe P (zK p l e R s m args below meth c Q A D κ ad0 n0 nL)) (hd : decode cc pc = .ok (.idiv, 1)) (hn : nx = pc + 1)  (k : zo_idiv nx P C Qp L st u h) : zK p l e R s m args below meth c Q A D κ ad0 n0 nL pc L st u h := by
  subst hn
  obtain ⟨⟨hx, hb, hml, hown, hts⟩, hK, hA, hG⟩ := X
  intro ad H locs ls h1 h2 h3 h4 h5 h6 h7
  unfold zo_idiv at k
  split at k
  · exact lv_idiv hx hb hd k.1 (hP _ _ _ _ _ k.2 ad H locs ls h1 h2 h3 h4 h5 h6 h7)
  · exact k.elim
theorem zk_irem (X : zCx p s m args c own cc nL A D κ ad0 adV) (hP : zLe P (zK p l e R s m args below meth c Q A D κ ad0 n0 nL)) (hd : decode cc pc = .ok (.irem, 1)) (hn : nx = pc + 1)  (k : zo_irem nx P C Qp L st u h) : zK p l e R s m args below meth c Q A D κ ad0 n0 nL pc L st u h := by
  subst hn
  obtain ⟨⟨hx, hb, hml, hown, hts⟩, hK, hA, hG⟩ := X
  intro ad H locs ls h1 h2 h3 h4 h5 h6 h7
  unfold zo_irem at k
  split at k
  · exact lv_irem hx hb hd k.1 (hP _ _ _ _ _ k.2 ad H locs ls h1 h2 h3 h4 h5 h6 h7)
  · exact k.elim
theorem zk_dup (X : zCx p s m args c own cc nL A D κ ad0 adV) (hP : zLe P (zK p l e R s m args below meth c Q A D κ ad0 n0 nL)) (hd : decode cc pc = .ok (.dup, 1)) (hn : nx = pc + 1)  (k : zo_dup nx P C Qp L st u h) : zK p l e R s m args below meth c Q A D κ ad0 n0 nL pc L st u h := by
  subst hn
  obtain ⟨⟨hx, hb, hml, hown, hts⟩, hK, hA, hG⟩ := X
  intro ad H locs ls h1 h2 h3 h4 h5 h6 h7
  unfold zo_dup at k
  split at k
  · obtain ⟨c1, k⟩ := zcond k
    exact lv_dup hx hb hd (by rw [zt_cat]; exact Nat.eq_of_beq_eq_true c1) (hP _ _ _ _ _ k ad H locs ls h1 h2 h3 h4 h5 h6 h7)
  · exact k.elim
theorem zk_dup2 (X : zCx p s m args c own cc nL A D κ ad0 adV) (hP : zLe P (zK p l e R s m args below meth c Q A D κ ad0 n0 nL)) (hd : decode cc pc = .ok (.dup2, 1)) (hn : nx = pc + 1)  (k : zo_dup2 nx P C Qp L st u h) : zK p l e R s m args below meth c Q A D κ ad0 n0 nL pc L st u h := by
  subst hn
  obtain ⟨⟨hx, hb, hml, hown, hts⟩, hK, hA, hG⟩ := X
  intro ad H locs ls h1 h2 h3 h4 h5 h6 h7
  unfold zo_dup2 at k
  split at k
  · obtain ⟨c1, k⟩ := zcond k
    obtain ⟨c2, k⟩ := zcond k
    exact lv_dup2_11 hx hb hd (by rw [zt_cat]; exact Nat.eq_of_beq_eq_true c1) (by rw [zt_cat]; exact Nat.eq_of_beq_eq_true c2) (hP _ _ _ _ _ k ad H locs ls h1 h2 h3 h4 h5 h6 h7)
  · exact k.elim
theorem zk_pop (X : zCx p s m args c own cc nL A D κ ad0 adV) (hP : zLe P (zK p l e R s m args below meth c Q A D κ ad0 n0 nL)) (hd : decode cc pc = .ok (.pop, 1)) (hn : nx = pc + 1)  (k : zo_pop nx P C Qp L st u h) : zK p l e R s m args below meth c Q A D κ ad0 n0 nL pc L st u h := by
  subst hn
  obtain ⟨⟨hx, hb, hml, hown, hts⟩, hK, hA, hG⟩ := X
  intro ad H locs ls h1 h2 h3 h4 h5 h6 h7
  unfold zo_pop at k
  split at k
  · obtain ⟨c1, k⟩ := zcond k
    exact lv_pop hx hb hd (by rw [zt_cat]; exact Nat.eq_of_beq_eq_true c1) (hP _ _ _ _ _ k ad H locs ls h1 h2 h3 h4 h5 h6 h7)
  · exact k.elim
theorem zk_goto (X : zCx p s m args c own cc nL A D κ ad0 adV) (hP : zLe P (zK p l e R s m args below meth c Q A D κ ad0 n0 nL)) {off : Int} {t : Nat} (hd : decode cc pc = .ok (.goto off, 3)) (ht : (pc : Int) + off = (t : Int)) (k : zo_goto t P C Qp L st u h) : zK p l e R s m args below meth c Q A D κ ad0 n0 nL pc L st u h := by
  obtain ⟨⟨hx, hb, hml, hown, hts⟩, hK, hA, hG⟩ := X
  intro ad H locs ls h1 h2 h3 h4 h5 h6 h7
  exact lv_goto hx hb hd ht (hP _ _ _ _ _ k ad H locs ls h1 h2 h3 h4 h5 h6 h7)
theorem zk_ifeq (X : zCx p s m args c own cc nL A D κ ad0 adV) (hP : zLe P (zK p l e R s m args below meth c Q A D κ ad0 n0 nL)) {off : Int} {t : Nat} (hd : decode cc pc = .ok (.ifCond .eq off, 3)) (hn : nx = pc + 3) (ht : (pc : Int) + off = (t : Int)) (k : zo_ifeq t nx P C Qp L st u h) : zK p l e R s m args below meth c Q A D κ ad0 n0 nL pc L st u h := by
  subst hn
  obtain ⟨⟨hx, hb, hml, hown, hts⟩, hK, hA, hG⟩ := X
  intro ad H locs ls h1 h2 h3 h4 h5 h6 h7
  unfold zo_ifeq at k
  split at k
  · exact lv_if_eq hx hb hd ht (fun z => hP _ _ _ _ _ (k.1 z) ad H locs ls h1 h2 h3 h4 h5 h6 h7) (fun z => hP _ _ _ _ _ (k.2 z) ad H locs ls h1 h2 h3 h4 h5 h6 h7)
  · exact k.elim
theorem zk_ifne (X : zCx p s m args c own cc nL A D κ ad0 adV) (hP : zLe P (zK p l e R s m args below meth c Q A D κ ad0 n0 nL)) {off : Int} {t : Nat} (hd : decode cc pc = .ok (.ifCond .ne off, 3)) (hn : nx = pc + 3) (ht : (pc : Int) + off = (t : Int)) (k : zo_ifne t nx P C Qp L st u h) : zK p l e R s m args below meth c Q A D κ ad0 n0 nL pc L st u h := by
  subst hn
  obtain ⟨⟨hx, hb, hml, hown, hts⟩, hK, hA, hG⟩ := X
  intro ad H locs ls h1 h2 h3 h4 h5 h6 h7
  unfold zo_ifne at k
  split at k
  · exact lv_if_ne hx hb hd ht (fun z => hP _ _ _ _ _ (k.1 z) ad H locs ls h1 h2 h3 h4 h5 h6 h7) (fun z => hP _ _ _ _ _ (k.2 z) ad H locs ls h1 h2 h3 h4 h5 h6 h7)
  · exact k.elim
theorem zk_iflt (X : zCx p s m args c own cc nL A D κ ad0 adV) (hP : zLe P (zK p l e R s m args below meth c Q A D κ ad0 n0 nL)) {off : Int} {t : Nat} (hd : decode cc pc = .ok (.ifCond .lt off, 3)) (hn : nx = pc + 3) (ht : (pc : Int) + off = (t : Int)) (k : zo_iflt t nx P C Qp L st u h) : zK p l e R s m args below meth c Q A D κ ad0 n0 nL pc L st u h := by
  subst hn
  obtain ⟨⟨hx, hb, hml, hown, hts⟩, hK, hA, hG⟩ := X
  intro ad H locs ls h1 h2 h3 h4 h5 h6 h7
  unfold zo_iflt at k
  split at k
  · exact lv_if_lt hx hb hd ht (fun z => hP _ _ _ _ _ (k.1 z) ad H locs ls h1 h2 h3 h4 h5 h6 h7) (fun z => hP _ _ _ _ _ (k.2 z) ad H locs ls h1 h2 h3 h4 h5 h6 h7)
  · exact k.elim
theorem zk_ifge (X : zCx p s m args c own cc nL A D κ ad0 adV) (hP : zLe P (zK p l e R s m args below meth c Q A D κ ad0 n0 nL)) {off : Int} {t : Nat} (hd : decode cc pc = .ok (.ifCond .ge off, 3)) (hn : nx = pc + 3) (ht : (pc : Int) + off = (t : Int)) (k : zo_ifge t nx P C Qp L st u h) : zK p l e R s m args below meth c Q A D κ ad0 n0 nL pc L st u h := by
  subst hn
  obtain ⟨⟨hx, hb, hml, hown, hts⟩, hK, hA, hG⟩ := X
  intro ad H locs ls h1 h2 h3 h4 h5 h6 h7
  unfold zo_ifge at k
  split at k
  · exact lv_if_ge hx hb hd ht (fun z => hP _ _ _ _ _ (k.1 z) ad H locs ls h1 h2 h3 h4 h5 h6 h7) (fun z => hP _ _ _ _ _ (k.2 z) ad H locs ls h1 h2 h3 h4 h5 h6 h7)
  · exact k.elim
theorem zk_ifgt (X : zCx p s m args c own cc nL A D κ ad0 adV) (hP : zLe P (zK p l e R s m args below meth c Q A D κ ad0 n0 nL)) {off : Int} {t : Nat} (hd : decode cc pc = .ok (.ifCond .gt off, 3)) (hn : nx = pc + 3) (ht : (pc : Int) + off = (t : Int)) (k : zo_ifgt t nx P C Qp L st u h) : zK p l e R s m args below meth c Q A D κ ad0 n0 nL pc L st u h := by
  subst hn
  obtain ⟨⟨hx, hb, hml, hown, hts⟩, hK, hA, hG⟩ := X
  intro ad H locs ls h1 h2 h3 h4 h5 h6 h7
  unfold zo_ifgt at k
  split at k
  · exact lv_if_gt hx hb hd ht (fun z => hP _ _ _ _ _ (k.1 z) ad H locs ls h1 h2 h3 h4 h5 h6 h7) (fun z => hP _ _ _ _ _ (k.2 z) ad H locs ls h1 h2 h3 h4 h5 h6 h7)
  · exact k.elim
theorem zk_ifle (X : zCx p s m args c own cc nL A D κ ad0 adV) (hP : zLe P (zK p l e R s m args below meth c Q A D κ ad0 n0 nL)) {off : Int} {t : Nat} (hd : decode cc pc = .ok (.ifCond .le off, 3)) (hn : nx = pc + 3) (ht : (pc : Int) + off = (t : Int)) (k : zo_ifle t nx P C Qp L st u h) : zK p l e R s m args below meth c Q A D κ ad0 n0 nL pc L st u h := by
  subst hn
  obtain ⟨⟨hx, hb, hml, hown, hts⟩, hK, hA, hG⟩ := X
  intro ad H locs ls h1 h2 h3 h4 h5 h6 h7
  unfold zo_ifle at k
  split at k
  · exact lv_if_le hx hb hd ht (fun z => hP _ _ _ _ _ (k.1 z) ad H locs ls h1 h2 h3 h4 h5 h6 h7) (fun z => hP _ _ _ _ _ (k.2 z) ad H locs ls h1 h2 h3 h4 h5 h6 h7)
  · exact k.elim
theorem zk_ceq (X : zCx p s m args c own cc nL A D κ ad0 adV) (hP : zLe P (zK p l e R s m args below meth c Q A D κ ad0 n0 nL)) {off : Int} {t : Nat} (hd : decode cc pc = .ok (.if_icmp .eq off, 3)) (hn : nx = pc + 3) (ht : (pc : Int) + off = (t : Int)) (k : zo_ceq t nx P C Qp L st u h) : zK p l e R s m args below meth c Q A D κ ad0 n0 nL pc L st u h := by
  subst hn
  obtain ⟨⟨hx, hb, hml, hown, hts⟩, hK, hA, hG⟩ := X
  intro ad H locs ls h1 h2 h3 h4 h5 h6 h7
  unfold zo_ceq at k
  split at k
  · exact lv_icmp_eq hx hb hd ht (fun z => hP _ _ _ _ _ (k.1 z) ad H locs ls h1 h2 h3 h4 h5 h6 h7) (fun z => hP _ _ _ _ _ (k.2 z) ad H locs ls h1 h2 h3 h4 h5 h6 h7)
  · exact k.elim
theorem zk_cne (X : zCx p s m args c own cc nL A D κ ad0 adV) (hP : zLe P (zK p l e R s m args below meth c Q A D κ ad0 n0 nL)) {off : Int} {t : Nat} (hd : decode cc pc = .ok (.if_icmp .ne off, 3)) (hn : nx = pc + 3) (ht : (pc : Int) + off = (t : Int)) (k : zo_cne t nx P C Qp L st u h) : zK p l e R s m args below meth c Q A D κ ad0 n0 nL pc L st u h := by
  subst hn
  obtain ⟨⟨hx, hb, hml, hown, hts⟩, hK, hA, hG⟩ := X
  intro ad H locs ls h1 h2 h3 h4 h5 h6 h7
  unfold zo_cne at k
  split at k
  · exact lv_icmp_ne hx hb hd ht (fun z => hP _ _ _ _ _ (k.1 z) ad H locs ls h1 h2 h3 h4 h5 h6 h7) (fun z => hP _ _ _ _ _ (k.2 z) ad H locs ls h1 h2 h3 h4 h5 h6 h7)
  · exact k.elim
theorem zk_clt (X : zCx p s m args c own cc nL A D κ ad0 adV) (hP : zLe P (zK p l e R s m args below meth c Q A D κ ad0 n0 nL)) {off : Int} {t : Nat} (hd : decode cc pc = .ok (.if_icmp .lt off, 3)) (hn : nx = pc + 3) (ht : (pc : Int) + off = (t : Int)) (k : zo_clt t nx P C Qp L st u h) : zK p l e R s m args below meth c Q A D κ ad0 n0 nL pc L st u h := by
  subst hn
  obtain ⟨⟨hx, hb, hml, hown, hts⟩, hK, hA, hG⟩ := X
  intro ad H locs ls h1 h2 h3 h4 h5 h6 h7
  unfold zo_clt at k
  split at k
  · exact lv_icmp_lt hx hb hd ht (fun z => hP _ _ _ _ _ (k.1 z) ad H locs ls h1 h2 h3 h4 h5 h6 h7) (fun z => hP _ _ _ _ _ (k.2 z) ad H locs ls h1 h2 h3 h4 h5 h6 h7)
  · exact k.elim
theorem zk_cge (X : zCx p s m args c own cc nL A D κ ad0 adV) (hP : zLe P (zK p l e R s m args below meth c Q A D κ ad0 n0 nL)) {off : Int} {t : Nat} (hd : decode cc pc = .ok (.if_icmp .ge off, 3)) (hn : nx = pc + 3) (ht : (pc : Int) + off = (t : Int)) (k : zo_cge t nx P C Qp L st u h) : zK p l e R s m args below meth c Q A D κ ad0 n0 nL pc L st u h := by
  subst hn
  obtain ⟨⟨hx, hb, hml, hown, hts⟩, hK, hA, hG⟩ := X
  intro ad H locs ls h1 h2 h3 h4 h5 h6 h7
  unfold zo_cge at k
  split at k
  · exact lv_icmp_ge hx hb hd ht (fun z => hP _ _ _ _ _ (k.1 z) ad H locs ls h1 h2 h3 h4 h5 h6 h7) (fun z => hP _ _ _ _ _ (k.2 z) ad H locs ls h1 h2 h3 h4 h5 h6 h7)
  · exact k.elim
theorem zk_cgt (X : zCx p s m args c own cc nL A D κ ad0 adV) (hP : zLe P (zK p l e R s m args below meth c Q A D κ ad0 n0 nL)) {off : Int} {t : Nat} (hd : decode cc pc = .ok (.if_icmp .gt off, 3)) (hn : nx = pc + 3) (ht : (pc : Int) + off = (t : Int)) (k : zo_cgt t nx P C Qp L st u h) : zK p l e R s m args below meth c Q A D κ ad0 n0 nL pc L st u h := by
  subst hn
  obtain ⟨⟨hx, hb, hml, hown, hts⟩, hK, hA, hG⟩ := X
  intro ad H locs ls h1 h2 h3 h4 h5 h6 h7
  unfold zo_cgt at k
  split at k
  · exact lv_icmp_gt hx hb hd ht (fun z => hP _ _ _ _ _ (k.1 z) ad H locs ls h1 h2 h3 h4 h5 h6 h7) (fun z => hP _ _ _ _ _ (k.2 z) ad H locs ls h1 h2 h3 h4 h5 h6 h7)
  · exact k.elim
theorem zk_cle (X : zCx p s m args c own cc nL A D κ ad0 adV) (hP : zLe P (zK p l e R s m args below meth c Q A D κ ad0 n0 nL)) {off : Int} {t : Nat} (hd : decode cc pc = .ok (.if_icmp .le off, 3)) (hn : nx = pc + 3) (ht : (pc : Int) + off = (t : Int)) (k : zo_cle t nx P C Qp L st u h) : zK p l e R s m args below meth c Q A D κ ad0 n0 nL pc L st u h := by
  subst hn
  obtain ⟨⟨hx, hb, hml, hown, hts⟩, hK, hA, hG⟩ := X
  intro ad H locs ls h1 h2 h3 h4 h5 h6 h7
  unfold zo_cle at k
  split at k
  · exact lv_icmp_le hx hb hd ht (fun z => hP _ _ _ _ _ (k.1 z) ad H locs ls h1 h2 h3 h4 h5 h6 h7) (fun z => hP _ _ _ _ _ (k.2 z) ad H locs ls h1 h2 h3 h4 h5 h6 h7)
  · exact k.elim
end ZK
