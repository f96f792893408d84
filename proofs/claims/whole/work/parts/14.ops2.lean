/-! EACH INSTRUCTION, second part: switches, fields, arrays, makings, calls, ends -/
theorem zm_sw_out {F : Nat → Prop} {x : Int32} {d : Nat} : ∀ {ts : List Nat} {a : Nat}, (∀ j, j < ts.length → ¬ x = nI (a + j)) → zm_sw F x d (nI a) ts → F d
  | [], _, _, k => k
  | t :: ts, a, hx, k => by
    have h0 := hx 0 (by simp)
    rw [Nat.add_zero] at h0
    have k1 := k.2 h0
    rw [nI_1] at k1
    refine zm_sw_out (ts := ts) (a := a + 1) (fun j hj => ?_) k1
    rw [show a + 1 + j = a + (j + 1) by omega]
    exact hx (j + 1) (by simp; omega)
theorem zm_sw_in {F : Nat → Prop} {x : Int32} {d : Nat} : ∀ {ts : List Nat} {a j t : Nat}, a + j < 2 ^ 31 → x = nI (a + j) → ts[j]? = some t → zm_sw F x d (nI a) ts → F t
  | [], _, _, _, _, _, ht, _ => by simp at ht
  | t0 :: ts, a, 0, t, _, hx, ht, k => by
    simp only [List.getElem?_cons_zero, Option.some.injEq] at ht
    subst ht
    exact k.1 hx
  | t0 :: ts, a, j + 1, t, hl, hx, ht, k => by
    have k1 := k.2 (fun e => by rw [hx] at e; have := (nI_eq (by omega) (by omega)).mp e; omega)
    rw [nI_1] at k1
    exact zm_sw_in (ts := ts) (a := a + 1) (j := j) (by omega) (by rw [hx]; congr 1; omega) (by simpa using ht) k1
theorem zm_sp_eq : ∀ {n : Nat} {acc st as r : List Value}, zm_sp n acc st = some (as, r) → as.reverse ++ r = acc.reverse ++ st ∧ as.length = n + acc.length
  | 0, acc, st, as, r, h => by
    simp only [zm_sp, Option.some.injEq, Prod.mk.injEq] at h
    obtain ⟨rfl, rfl⟩ := h
    exact ⟨rfl, by omega⟩
  | n + 1, acc, v :: st, as, r, h => by
    obtain ⟨h1, h2⟩ := zm_sp_eq (n := n) (acc := v :: acc) (st := st) h
    refine ⟨by rw [h1]; simp, by rw [h2]; simp; omega⟩
  | n + 1, acc, [], as, r, h => by simp [zm_sp] at h
theorem zin_nI {j n : Nat} (hj : j < n) (hn : Nat.ble n 1000 = true) : vp_in (nI j) n ∧ (nI j).toNatClampNeg = j := by
  have := Nat.le_of_ble_eq_true hn
  exact ⟨vp_in_nI hj (by omega), nI_clamp (by omega)⟩
theorem znn {n : Nat} (h : n ≤ 1000) : ¬ nI n < 0 ∧ (nI n).toNatClampNeg = n := ⟨nI_pos (by omega), nI_clamp (by omega)⟩
section ZK2
variable {p : Program} {l : Launch} {e : Env} {R : Room} {s : State} {m : MethodId} {args : Array Value} {below : List Frame} {meth : Method} {c : Code} {Q : State → Prop} {A : Nat → Prop} {D : va_G} {κ : zKp} {ad0 adV : Nat → Nat} {n0 nL : Nat} {own : String} {cc : ByteArray}
variable {P : zP} {C : zC} {Qp : zQ} {pc nx : Nat} {L : zL} {st : List Value} {u : Nat × Nat} {h : zH}
theorem zk_sw (X : zCx p s m args c own cc nL A D κ ad0 adV) (hP : zLe P (zK p l e R s m args below meth c Q A D κ ad0 n0 nL)) {dflt lo hi : Int} {offs : Array Int} {len d : Nat} {ts : List Nat} (a : Nat) (hd : decode cc pc = .ok (.tableswitch dflt lo hi offs, len)) (hlo : lo = (a : Int)) (hhi : hi + 1 = (a + ts.length : Nat)) (hs : a + ts.length ≤ 1000) (hdf : (pc : Int) + dflt = (d : Int)) (hof : ∀ (j t : Nat), ts[j]? = some t → ∃ off, offs[j]? = some off ∧ (pc : Int) + off = (t : Int)) (k : zo_sw (nI a) ts d P C Qp L st u h) : zK p l e R s m args below meth c Q A D κ ad0 n0 nL pc L st u h := by
  obtain ⟨⟨hx, hb, hml, hown, hts⟩, hK, hA, hG⟩ := X
  intro ad H locs ls h1 h2 h3 h4 h5 h6 h7
  unfold zo_sw at k
  split at k
  · next x r =>
    by_cases hr : x.toInt < lo ∨ hi < x.toInt
    · refine lv_tableOut hx hb hd hr hdf (hP _ _ _ _ _ (zm_sw_out (fun j hj e => ?_) k) ad H locs ls h1 h2 h3 h4 h5 h6 h7)
      have e2 := nI_toInt (n := a + j) (by omega)
      rw [← e] at e2
      omega
    · have hr1 : ¬ x.toInt < lo := fun z => hr (Or.inl z)
      have hr2 : ¬ hi < x.toInt := fun z => hr (Or.inr z)
      obtain ⟨q, hq, rfl⟩ := nI_of (x := x) (by rw [Int32.lt_iff_toInt_lt]; simp; omega)
      have e2 := nI_toInt (n := q) hq
      obtain ⟨j, rfl⟩ : ∃ j, q = a + j := ⟨q - a, by omega⟩
      have hj : j < ts.length := by omega
      obtain ⟨off, g1, g2⟩ := hof j ts[j] (List.getElem?_eq_getElem hj)
      exact lv_tableIn hx hb hd hr1 hr2 (by rw [show ((nI (a + j)).toInt - lo).toNat = j by omega]; exact g1) g2 (hP _ _ _ _ _ (zm_sw_in (by omega) rfl (List.getElem?_eq_getElem hj) k) ad H locs ls h1 h2 h3 h4 h5 h6 h7)
  · exact k.elim
theorem zk_get (X : zCx p s m args c own cc nL A D κ ad0 adV) (hP : zLe P (zK p l e R s m args below meth c Q A D κ ad0 n0 nL)) {ci : Nat} {CN : String} {T : u_T} {N : Nat} {index k0 : Nat} (hd : decode cc pc = .ok (.getfield index, 3)) (hn : nx = pc + 3) (hc : vwCl[ci]? = some (CN, T, N)) (hk : k0 < N) (hin : ∀ w ∈ u_ws CN T N, w ∈ zBT) (hw : Cond.fieldLink own index (T k0).1 (T k0).2.1 (T k0).2.2.1 ∈ zBT) (k : zo_get ci k0 nx P C Qp L st u h) : zK p l e R s m args below meth c Q A D κ ad0 n0 nL pc L st u h := by
  subst hn
  obtain ⟨⟨hx, hb, hml, hown, hts⟩, hK, hA, hG⟩ := X
  intro ad H locs ls h1 h2 h3 h4 h5 h6 h7
  unfold zo_get at k
  split at k
  · next a r =>
    split at k
    · next c1 fs hg =>
      replace k := zcond k
      obtain ⟨c2, k⟩ := k
      have := Nat.eq_of_beq_eq_true c2
      subst this
      split at k
      · next v hv =>
        rw [zm_g_eq] at hv
        exact va_get (v := zt ad v) hx hb hts hin hown hK h4 a (zW_at hg) hc k0 hk (hts _ hw) (fun _ h9 => h9) (by rw [List.getElem?_map, hv]; rfl) hd (hP _ _ _ _ _ k ad H locs ls h1 h2 h3 h4 h5 h6 h7)
      · exact k.elim
    · exact k.elim
  · exact k.elim
theorem zk_puti (X : zCx p s m args c own cc nL A D κ ad0 adV) (hP : zLe P (zK p l e R s m args below meth c Q A D κ ad0 n0 nL)) {ci : Nat} {CN : String} {T : u_T} {N : Nat} {index k0 : Nat} {ty0 : Nat → FieldType} (hd : decode cc pc = .ok (.putfield index, 3)) (hn : nx = pc + 3) (hc : vwCl[ci]? = some (CN, T, N)) (hk : k0 < N) (hin : ∀ w ∈ u_ws CN T N, w ∈ zBT) (hw : Cond.fieldLink own index (T k0).1 (T k0).2.1 (T k0).2.2.1 ∈ zBT) (hty : ∀ k, k < N → parseFieldDescriptor (T k).2.2.1 = some (ty0 k)) (hnm : ∀ a, a < N → ∀ b, b < N → a ≠ b → (T a).2.1 ≠ (T b).2.1) (hfin : (T k0).2.2.2 = false) (hds : parseFieldDescriptor (T k0).2.2.1 = some .int) (k : zo_puti ci k0 nx P C Qp L st u h) : zK p l e R s m args below meth c Q A D κ ad0 n0 nL pc L st u h := by
  subst hn
  obtain ⟨⟨hx, hb, hml, hown, hts⟩, hK, hA, hG⟩ := X
  intro ad H locs ls h1 h2 h3 h4 h5 h6 h7
  unfold zo_puti at k
  split at k
  · next x a r =>
    split at k
    · next c1 fs hg =>
      replace k := zcond k
      obtain ⟨c2, k⟩ := k
      replace k := zcond k
      obtain ⟨c3, k⟩ := k
      have := Nat.eq_of_beq_eq_true c2
      subst this
      refine va_put (v := zt ad (.int x)) (ty := .int) hx hb hts hin ty0 hty hnm hown hK h4 h5 h6 a (zW_at hg) hc k0 hk (hts _ hw) (fun _ h9 => h9) hfin hds rfl rfl (by rw [List.length_map]; exact Nat.le_of_ble_eq_true c3) hd (fun H1 locs1 hP1 hD1 hS1 => ?_)
      rw [show (zt ad (.int x)) = zt ad (.int x) from rfl, ← List.map_set, show (Sum.inr (c1, (fs.set k0 (.int x)).map (zt ad)) : va_E) = ze κ ad (.inr (c1, fs.set k0 (.int x))) from rfl, ← zW_set] at hP1 hD1
      exact hP _ _ _ _ _ k ad H1 locs1 ls h1 h2 (by rw [List.length_set]; exact h3) hP1 hD1 hS1 h7
    · exact k.elim
  · exact k.elim
theorem zk_putz (X : zCx p s m args c own cc nL A D κ ad0 adV) (hP : zLe P (zK p l e R s m args below meth c Q A D κ ad0 n0 nL)) {ci : Nat} {CN : String} {T : u_T} {N : Nat} {index k0 : Nat} {ty0 : Nat → FieldType} (hd : decode cc pc = .ok (.putfield index, 3)) (hn : nx = pc + 3) (hc : vwCl[ci]? = some (CN, T, N)) (hk : k0 < N) (hin : ∀ w ∈ u_ws CN T N, w ∈ zBT) (hw : Cond.fieldLink own index (T k0).1 (T k0).2.1 (T k0).2.2.1 ∈ zBT) (hty : ∀ k, k < N → parseFieldDescriptor (T k).2.2.1 = some (ty0 k)) (hnm : ∀ a, a < N → ∀ b, b < N → a ≠ b → (T a).2.1 ≠ (T b).2.1) (hfin : (T k0).2.2.2 = false) (hds : parseFieldDescriptor (T k0).2.2.1 = some .boolean) (k : zo_putz ci k0 nx P C Qp L st u h) : zK p l e R s m args below meth c Q A D κ ad0 n0 nL pc L st u h := by
  subst hn
  obtain ⟨⟨hx, hb, hml, hown, hts⟩, hK, hA, hG⟩ := X
  intro ad H locs ls h1 h2 h3 h4 h5 h6 h7
  unfold zo_putz at k
  split at k
  · next x a r =>
    split at k
    · next c1 fs hg =>
      replace k := zcond k
      obtain ⟨c2, k⟩ := k
      replace k := zcond k
      obtain ⟨c3, k⟩ := k
      have := Nat.eq_of_beq_eq_true c2
      subst this
      refine va_put (v := zt ad (.int x)) (ty := .boolean) hx hb hts hin ty0 hty hnm hown hK h4 h5 h6 a (zW_at hg) hc k0 hk (hts _ hw) (fun _ h9 => h9) hfin hds (by rcases k.1 with rfl | rfl <;> rfl) (by rcases k.1 with rfl | rfl <;> rfl) (by rw [List.length_map]; exact Nat.le_of_ble_eq_true c3) hd (fun H1 locs1 hP1 hD1 hS1 => ?_)
      rw [show (zt ad (.int x)) = zt ad (.int x) from rfl, ← List.map_set, show (Sum.inr (c1, (fs.set k0 (.int x)).map (zt ad)) : va_E) = ze κ ad (.inr (c1, fs.set k0 (.int x))) from rfl, ← zW_set] at hP1 hD1
      exact hP _ _ _ _ _ k.2 ad H1 locs1 ls h1 h2 (by rw [List.length_set]; exact h3) hP1 hD1 hS1 h7
    · exact k.elim
  · exact k.elim
theorem zk_puta (X : zCx p s m args c own cc nL A D κ ad0 adV) (hP : zLe P (zK p l e R s m args below meth c Q A D κ ad0 n0 nL)) {ci : Nat} {CN : String} {T : u_T} {N : Nat} {index k0 : Nat} {ty0 : Nat → FieldType} (hd : decode cc pc = .ok (.putfield index, 3)) (hn : nx = pc + 3) (hc : vwCl[ci]? = some (CN, T, N)) (hk : k0 < N) (hin : ∀ w ∈ u_ws CN T N, w ∈ zBT) (hw : Cond.fieldLink own index (T k0).1 (T k0).2.1 (T k0).2.2.1 ∈ zBT) (hty : ∀ k, k < N → parseFieldDescriptor (T k).2.2.1 = some (ty0 k)) (hnm : ∀ a, a < N → ∀ b, b < N → a ≠ b → (T a).2.1 ≠ (T b).2.1) (hfin : (T k0).2.2.2 = true) (hin2 : meth.name = "<init>") (hdecl : (T k0).1 = own) {ty : FieldType} (hds : parseFieldDescriptor (T k0).2.2.1 = some ty) (hnr : ∀ a, narrow ty (.ref a) = .ref a) (hfr : ∀ a, fits ty (.ref a) = true) (k : zo_puta ci k0 nx P C Qp L st u h) : zK p l e R s m args below meth c Q A D κ ad0 n0 nL pc L st u h := by
  subst hn
  obtain ⟨⟨hx, hb, hml, hown, hts⟩, hK, hA, hG⟩ := X
  intro ad H locs ls h1 h2 h3 h4 h5 h6 h7
  unfold zo_puta at k
  split at k
  · next x a r =>
    split at k
    · next c1 fs hg =>
      replace k := zcond k
      obtain ⟨c2, k⟩ := k
      replace k := zcond k
      obtain ⟨c3, k⟩ := k
      have := Nat.eq_of_beq_eq_true c2
      subst this
      refine va_putF (v := zt ad (.ref x)) (ty := ty) hx hb hts hin ty0 hty hnm hown hK h4 h5 h6 a (zW_at hg) hc k0 hk (hts _ hw) (fun _ h9 => h9) hfin hin2 hdecl hds (hnr _) (hfr _) (by rw [List.length_map]; exact Nat.le_of_ble_eq_true c3) hd (fun H1 locs1 hP1 hD1 hS1 => ?_)
      rw [show (zt ad (.ref x)) = zt ad (.ref x) from rfl, ← List.map_set, show (Sum.inr (c1, (fs.set k0 (.ref x)).map (zt ad)) : va_E) = ze κ ad (.inr (c1, fs.set k0 (.ref x))) from rfl, ← zW_set] at hP1 hD1
      exact hP _ _ _ _ _ k ad H1 locs1 ls h1 h2 (by rw [List.length_set]; exact h3) hP1 hD1 hS1 h7
    · exact k.elim
  · exact k.elim
theorem zk_iald (X : zCx p s m args c own cc nL A D κ ad0 adV) (hP : zLe P (zK p l e R s m args below meth c Q A D κ ad0 n0 nL))  (hd : decode cc pc = .ok (.iaload, 1)) (hn : nx = pc + 1)  (k : zo_iald nx P C Qp L st u h) : zK p l e R s m args below meth c Q A D κ ad0 n0 nL pc L st u h := by
  subst hn
  obtain ⟨⟨hx, hb, hml, hown, hts⟩, hK, hA, hG⟩ := X
  intro ad H locs ls h1 h2 h3 h4 h5 h6 h7
  unfold zo_iald at k
  split at k
  · next i a r =>
    split at k
    · next c1 n f hg =>
      replace k := zcond k
      obtain ⟨c2, j, hj, rfl, k⟩ := k
      obtain ⟨g1, g2⟩ := zin_nI hj c2
      refine va_iald hx hb hK h4 a 0 (zW_at hg) rfl g1 hd ?_
      rw [g2]
      exact hP _ _ _ _ _ k ad H locs ls h1 h2 h3 h4 h5 h6 h7
    · exact k.elim
  · exact k.elim
theorem zk_lald (X : zCx p s m args c own cc nL A D κ ad0 adV) (hP : zLe P (zK p l e R s m args below meth c Q A D κ ad0 n0 nL))  (hd : decode cc pc = .ok (.laload, 1)) (hn : nx = pc + 1)  (k : zo_lald nx P C Qp L st u h) : zK p l e R s m args below meth c Q A D κ ad0 n0 nL pc L st u h := by
  subst hn
  obtain ⟨⟨hx, hb, hml, hown, hts⟩, hK, hA, hG⟩ := X
  intro ad H locs ls h1 h2 h3 h4 h5 h6 h7
  unfold zo_lald at k
  split at k
  · next i a r =>
    split at k
    · next c1 n f hg =>
      replace k := zcond k
      obtain ⟨c2, j, hj, rfl, k⟩ := k
      obtain ⟨g1, g2⟩ := zin_nI hj c2
      refine va_lald hx hb hK h4 a 1 (zW_at hg) rfl g1 hd ?_
      rw [g2]
      exact hP _ _ _ _ _ k ad H locs ls h1 h2 h3 h4 h5 h6 h7
    · exact k.elim
  · exact k.elim
theorem zk_aald (X : zCx p s m args c own cc nL A D κ ad0 adV) (hP : zLe P (zK p l e R s m args below meth c Q A D κ ad0 n0 nL))  (hd : decode cc pc = .ok (.aaload, 1)) (hn : nx = pc + 1)  (k : zo_aald nx P C Qp L st u h) : zK p l e R s m args below meth c Q A D κ ad0 n0 nL pc L st u h := by
  subst hn
  obtain ⟨⟨hx, hb, hml, hown, hts⟩, hK, hA, hG⟩ := X
  intro ad H locs ls h1 h2 h3 h4 h5 h6 h7
  unfold zo_aald at k
  split at k
  · next i a r =>
    split at k
    · next c1 n f hg =>
      replace k := zcond k
      obtain ⟨c2, j, hj, rfl, b, hb1, k⟩ := k
      obtain ⟨g1, g2⟩ := zin_nI hj c2
      refine va_aldq (C := RX2) hx hb hK h4 a 2 (zW_at hg) rfl g1 hd ?_
      rw [g2, hb1]
      exact hP _ _ _ _ _ k ad H locs ls h1 h2 h3 h4 h5 h6 h7
    · exact k.elim
  · exact k.elim
theorem zk_iast (X : zCx p s m args c own cc nL A D κ ad0 adV) (hP : zLe P (zK p l e R s m args below meth c Q A D κ ad0 n0 nL))  (hd : decode cc pc = .ok (.iastore, 1)) (hn : nx = pc + 1)  (k : zo_iast nx P C Qp L st u h) : zK p l e R s m args below meth c Q A D κ ad0 n0 nL pc L st u h := by
  subst hn
  obtain ⟨⟨hx, hb, hml, hown, hts⟩, hK, hA, hG⟩ := X
  intro ad H locs ls h1 h2 h3 h4 h5 h6 h7
  unfold zo_iast at k
  split at k
  · next x i a r =>
    split at k
    · next c1 n f hg =>
      replace k := zcond k
      obtain ⟨c2, j, hj, rfl, k⟩ := k
      obtain ⟨g1, g2⟩ := zin_nI hj c2
      refine va_iast hx hb hK h4 h5 h6 a 0 (zW_at hg) rfl g1 hd (fun H1 locs1 hP1 hD1 hS1 => ?_)
      rw [g2, show (Sum.inl (κ.1, n, .inl (upd f j x)) : va_E) = ze κ ad (.inl (c1, n, .inl (upd f j x))) from rfl, ← zW_set] at hP1 hD1
      exact hP _ _ _ _ _ k ad H1 locs1 ls h1 h2 (by rw [List.length_set]; exact h3) hP1 hD1 hS1 h7
    · exact k.elim
  · exact k.elim
theorem zk_last (X : zCx p s m args c own cc nL A D κ ad0 adV) (hP : zLe P (zK p l e R s m args below meth c Q A D κ ad0 n0 nL))  (hd : decode cc pc = .ok (.lastore, 1)) (hn : nx = pc + 1)  (k : zo_last nx P C Qp L st u h) : zK p l e R s m args below meth c Q A D κ ad0 n0 nL pc L st u h := by
  subst hn
  obtain ⟨⟨hx, hb, hml, hown, hts⟩, hK, hA, hG⟩ := X
  intro ad H locs ls h1 h2 h3 h4 h5 h6 h7
  unfold zo_last at k
  split at k
  · next x i a r =>
    split at k
    · next c1 n f hg =>
      replace k := zcond k
      obtain ⟨c2, j, hj, rfl, k⟩ := k
      obtain ⟨g1, g2⟩ := zin_nI hj c2
      refine va_last hx hb hK h4 h5 h6 a 1 (zW_at hg) rfl g1 hd (fun H1 locs1 hP1 hD1 hS1 => ?_)
      rw [g2, show (Sum.inl (κ.2.1, n, .inr (.inl (vp_updL f j x))) : va_E) = ze κ ad (.inl (c1, n, .inr (.inl (vp_updL f j x)))) from rfl, ← zW_set] at hP1 hD1
      exact hP _ _ _ _ _ k ad H1 locs1 ls h1 h2 (by rw [List.length_set]; exact h3) hP1 hD1 hS1 h7
    · exact k.elim
  · exact k.elim
theorem zk_aast (X : zCx p s m args c own cc nL A D κ ad0 adV) (hP : zLe P (zK p l e R s m args below meth c Q A D κ ad0 n0 nL))  (hd : decode cc pc = .ok (.aastore, 1)) (hn : nx = pc + 1)  (k : zo_aast 1 nx P C Qp L st u h) : zK p l e R s m args below meth c Q A D κ ad0 n0 nL pc L st u h := by
  subst hn
  obtain ⟨⟨hx, hb, hml, hown, hts⟩, hK, hA, hG⟩ := X
  intro ad H locs ls h1 h2 h3 h4 h5 h6 h7
  unfold zo_aast at k
  split at k
  · next v i a r =>
    split at k
    · next c1 n f hg =>
      split at k
      · next c3 fs hv =>
        replace k := zcond k
        obtain ⟨c4, k⟩ := k
        have := Nat.eq_of_beq_eq_true c4
        subst this
        replace k := zcond k
        obtain ⟨c2, j, hj, rfl, k⟩ := k
        obtain ⟨g1, g2⟩ := zin_nI hj c2
        refine va_astq (r := (RX2, TX2, 3)) hx hb hK h4 h5 h6 a 2 v 1 (zW_at hg) rfl (zW_at hv) rfl g1 hd (fun H1 locs1 hP1 hD1 hS1 => ?_)
        have e1 : va_up (fun j => (f j).map ad) j (some (ad v)) = fun q => (va_up f j (some v) q).map ad := by
          funext q
          simp only [va_up]
          by_cases hq : q = j
          · rw [if_pos hq, if_pos hq]; rfl
          · rw [if_neg hq, if_neg hq]
        rw [g2, e1, show (Sum.inl (κ.2.2, n, .inr (.inr (.inr (.inr (fun q => (va_up f j (some v) q).map ad))))) : va_E) = ze κ ad (.inl (c1, n, .inr (.inr (.inr (.inr (va_up f j (some v))))))) from rfl, ← zW_set] at hP1 hD1
        exact hP _ _ _ _ _ k ad H1 locs1 ls h1 h2 (by rw [List.length_set]; exact h3) hP1 hD1 hS1 h7
      · exact k.elim
    · exact k.elim
  · exact k.elim
theorem zk_alen (X : zCx p s m args c own cc nL A D κ ad0 adV) (hP : zLe P (zK p l e R s m args below meth c Q A D κ ad0 n0 nL))  (hd : decode cc pc = .ok (.arraylength, 1)) (hn : nx = pc + 1)  (k : zo_alen nx P C Qp L st u h) : zK p l e R s m args below meth c Q A D κ ad0 n0 nL pc L st u h := by
  subst hn
  obtain ⟨⟨hx, hb, hml, hown, hts⟩, hK, hA, hG⟩ := X
  intro ad H locs ls h1 h2 h3 h4 h5 h6 h7
  unfold zo_alen at k
  split at k
  · next a r =>
    split at k
    · next c1 n f hg => exact va_alen hx hb hK h4 a 0 (zW_at hg) rfl (v := nI n) rfl hd (hP _ _ _ _ _ k ad H locs ls h1 h2 h3 h4 h5 h6 h7)
    · next c1 n f hg => exact va_alen hx hb hK h4 a 1 (zW_at hg) rfl (v := nI n) rfl hd (hP _ _ _ _ _ k ad H locs ls h1 h2 h3 h4 h5 h6 h7)
    · exact k.elim
  · exact k.elim
end ZK2
