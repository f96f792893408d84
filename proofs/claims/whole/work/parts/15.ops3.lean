/-! EACH INSTRUCTION, third part: makings, the library's own, the script, ends -/
theorem zm_sc_of {h : zH} {L : zL} {st : List Value} (hs : zm_sc h L st = true) : h.length ≤ 900 ∧ h.all (zm_oke h.length) = true ∧ zm_okl h.length L = true ∧ st.all (zm_okv h.length) = true := by
  simp only [zm_sc, Bool.and_eq_true, Nat.ble_eq] at hs
  exact hs
theorem zm_al_of {h : zH} {L : zL} {st : List Value} {u : Nat × Nat} {k N mc ms : Nat} (hs : zm_al h L st u k N mc ms = true) : zm_sc h L st = true ∧ u.1 + k ≤ mc ∧ u.2 + N ≤ ms := by
  simp only [zm_al, Bool.and_eq_true, Nat.ble_eq] at hs
  exact hs
theorem zAg.trans {n m : Nat} {ad ad1 ad2 : Nat → Nat} (h1 : zAg n ad ad1) (h2 : zAg m ad1 ad2) (hl : n ≤ m) : zAg n ad ad2 := fun k hk => by
  rw [h2 k (by omega), h1 k hk]
/-- one cell more -/
theorem z_grow {D : va_G} {κ : zKp} {ad : Nat → Nat} {A : Nat → Prop} {h : zH} {L : zL} {st : List Value} {q : Nat} {e e' : va_E} {H1 : Heap} (hs : zm_sc h L st = true) (he : ze κ (va_up ad h.length q) e = e') (hP : va_P D vwCl (zW κ ad h ++ [(q, e')]) H1) (hD : va_D A (zW κ ad h ++ [(q, e')])) :
    zAg h.length ad (va_up ad h.length q) ∧ va_P D vwCl (zW κ (va_up ad h.length q) (h ++ [e])) H1 ∧ va_D A (zW κ (va_up ad h.length q) (h ++ [e])) := by
  obtain ⟨g1, g2, g3, g4⟩ := zm_sc_of hs
  have ha : zAg h.length ad (va_up ad h.length q) := fun k hk => by
    unfold va_up
    rw [if_neg (by omega)]
  have hq : va_up ad h.length q h.length = q := by unfold va_up; rw [if_pos rfl]
  refine ⟨ha, ?_, ?_⟩
  · rw [zW_push, hq, he]
    refine va_P.app (zP_ag ha g2 (fun k x hk => hP k x ?_)) (fun k x hk => hP (h.length + k) x ?_)
    · rw [List.getElem?_append_left (List.getElem?_eq_some_iff.mp hk).1]
      exact hk
    · rw [List.getElem?_append_right (by rw [zW_len]; omega), zW_len, Nat.add_sub_cancel_left]
      exact hk
  · refine zD_fst ?_ hD
    rw [zW_push, hq, he, List.map_append, List.map_append, zW_fst, zW_fst]
    congr 1
    apply List.map_congr_left
    intro k hk
    rw [ha k (Or.inl (List.mem_range.mp hk))]
section ZK3
variable {p : Program} {l : Launch} {e : Env} {R : Room} {s : State} {m : MethodId} {args : Array Value} {below : List Frame} {meth : Method} {c : Code} {Q : State → Prop} {A : Nat → Prop} {D : va_G} {κ : zKp} {ad0 adV : Nat → Nat} {n0 nL : Nat} {own : String} {cc : ByteArray}
variable {P : zP} {C : zC} {Qp : zQ} {pc nx : Nat} {L : zL} {st : List Value} {u : Nat × Nat} {h : zH}
theorem zk_new (X : zCx p s m args c own cc nL A D κ ad0 adV) (hP : zLe P (zK p l e R s m args below meth c Q A D κ ad0 n0 nL)) {ci : Nat} {CN : String} {T : u_T} {N index : Nat} {fs : List Value} {ty0 : Nat → FieldType} (hd : decode cc pc = .ok (.new index, 3)) (hn : nx = pc + 3) (hc : vwCl[ci]? = some (CN, T, N)) (hin : ∀ w ∈ u_ws CN T N, w ∈ zBT) (hty : ∀ k, k < N → parseFieldDescriptor (T k).2.2.1 = some (ty0 k)) (hw1 : Cond.classLink own index CN ∈ zBT) (hw2 : Cond.instantiable CN N ∈ zBT) (hw3 : Cond.initialized CN ∈ zBT) (hfs : ∀ j, j < N → defaultValue (ty0 j) = vp_V fs j) (hpl : ∀ ad : Nat → Nat, fs.map (zt ad) = fs) {mc ms : Nat} (hRm : mc ≤ R.cells ∧ ms ≤ R.slots) (k : zo_new ci fs N mc ms nx P C Qp L st u h) : zK p l e R s m args below meth c Q A D κ ad0 n0 nL pc L st u h := by
  subst hn
  obtain ⟨⟨hx, hb, hml, hown, hts⟩, hK, hA, hG⟩ := X
  intro ad H locs ls h1 h2 h3 h4 h5 h6 h7
  obtain ⟨hs, k⟩ := k
  obtain ⟨hs, hu1, hu2⟩ := zm_al_of hs
  refine va_new (fs := fs) hx hb hts hin ty0 hty hown (hts _ hw1) (hts _ hw2) (hts _ hw3) hK h4 h5 h6 hA hc hfs (Nat.le_trans hu1 hRm.1) (Nat.le_trans hu2 hRm.2) hd (fun q H1 hP1 hD1 hS1 => ?_)
  · rw [show (Sum.inr (ci, fs) : va_E) = ze κ (va_up ad h.length q) (.inr (ci, fs)) by show _ = (Sum.inr (ci, fs.map (zt _)) : va_E); rw [hpl]] at hP1 hD1
    obtain ⟨a1, a2, a3⟩ := z_grow (e := .inr (ci, fs)) hs rfl hP1 hD1
    have a4 := zm_oks_ag a1 (zm_sc_of hs).2.2.2
    have a5 := hP _ _ _ _ _ k (va_up ad h.length q) H1 locs ls (h1.trans a1 h3.1) (fun z => by simp at z) ⟨by rw [List.length_append]; exact Nat.le_trans h3.1 (Nat.le_add_right _ _), Nat.le_trans hu1 hRm.1, Nat.le_trans hu2 hRm.2⟩ a2 a3 hS1 (h7.ag a1 (zm_sc_of hs).2.2.1)
    rw [List.map_cons, a4, show zt (va_up ad h.length q) (.ref h.length) = .ref q by simp [zt, va_up]] at a5
    exact a5
theorem zk_newi (X : zCx p s m args c own cc nL A D κ ad0 adV) (hP : zLe P (zK p l e R s m args below meth c Q A D κ ad0 n0 nL))  (hd : decode cc pc = .ok (.newarray .int, 2)) (hn : nx = pc + 2) (hw : Cond.arrayClass .int ∈ zBT) {mc ms : Nat} (hRm : mc ≤ R.cells ∧ ms ≤ R.slots) (k : zo_newi mc ms nx P C Qp L st u h) : zK p l e R s m args below meth c Q A D κ ad0 n0 nL pc L st u h := by
  subst hn
  obtain ⟨⟨hx, hb, hml, hown, hts⟩, hK, hA, hG⟩ := X
  intro ad H locs ls h1 h2 h3 h4 h5 h6 h7
  unfold zo_newi at k
  split at k
  · next n r =>
    obtain ⟨N, hN, rfl, hs, k⟩ := k
    obtain ⟨hs, hu1, hu2⟩ := zm_al_of hs
    refine va_newa (atype := .int) (ty := .int) (a0 := (N, .inl (fun _ => 0))) hx hb (hts _ hw) rfl hK h4 h5 h6 hA (fun cA => rfl) (znn hN).1 (znn hN).2 (by show N * 4 ≤ _; omega) (Nat.le_trans hu1 hRm.1) (Nat.le_trans hu2 hRm.2) hd (fun q cA H1 hK1 hP1 hD1 hS1 => ?_)
    have e1 : cA = κ.1 := by
      have b1 : s.vm.findClass ("[" ++ FieldType.int.toString) = some cA := (hK1.2 3 (cA, .int) rfl).2
      have b2 : s.vm.findClass ("[" ++ FieldType.int.toString) = some κ.1 := (hK.2 0 (κ.1, .int) rfl).2
      exact Option.some.inj (b1.symm.trans b2)
    subst e1
    obtain ⟨a1, a2, a3⟩ := z_grow (e := .inl (0, N, .inl (fun _ => 0))) hs rfl hP1 hD1
    have a4 := zm_oks_ag a1 (zm_sc_of hs).2.2.2
    have a5 := hP _ _ _ _ _ k (va_up ad h.length q) H1 locs ls (h1.trans a1 h3.1) (fun z => by simp at z) ⟨by rw [List.length_append]; exact Nat.le_trans h3.1 (Nat.le_add_right _ _), Nat.le_trans hu1 hRm.1, Nat.le_trans hu2 hRm.2⟩ a2 a3 hS1 (h7.ag a1 (zm_sc_of hs).2.2.1)
    rw [List.map_cons, a4, show zt (va_up ad h.length q) (.ref h.length) = .ref q by simp [zt, va_up]] at a5
    exact a5
  · exact k.elim
theorem zk_newl (X : zCx p s m args c own cc nL A D κ ad0 adV) (hP : zLe P (zK p l e R s m args below meth c Q A D κ ad0 n0 nL))  (hd : decode cc pc = .ok (.newarray .long, 2)) (hn : nx = pc + 2) (hw : Cond.arrayClass .long ∈ zBT) {mc ms : Nat} (hRm : mc ≤ R.cells ∧ ms ≤ R.slots) (k : zo_newl mc ms nx P C Qp L st u h) : zK p l e R s m args below meth c Q A D κ ad0 n0 nL pc L st u h := by
  subst hn
  obtain ⟨⟨hx, hb, hml, hown, hts⟩, hK, hA, hG⟩ := X
  intro ad H locs ls h1 h2 h3 h4 h5 h6 h7
  unfold zo_newl at k
  split at k
  · next n r =>
    obtain ⟨N, hN, rfl, hs, k⟩ := k
    obtain ⟨hs, hu1, hu2⟩ := zm_al_of hs
    refine va_newa (atype := .long) (ty := .long) (a0 := (N, .inr (.inl (fun _ => 0)))) hx hb (hts _ hw) rfl hK h4 h5 h6 hA (fun cA => rfl) (znn hN).1 (znn hN).2 (by show N * 8 ≤ _; omega) (Nat.le_trans hu1 hRm.1) (Nat.le_trans hu2 hRm.2) hd (fun q cA H1 hK1 hP1 hD1 hS1 => ?_)
    have e1 : cA = κ.2.1 := by
      have b1 : s.vm.findClass ("[" ++ FieldType.long.toString) = some cA := (hK1.2 3 (cA, .long) rfl).2
      have b2 : s.vm.findClass ("[" ++ FieldType.long.toString) = some κ.2.1 := (hK.2 1 (κ.2.1, .long) rfl).2
      exact Option.some.inj (b1.symm.trans b2)
    subst e1
    obtain ⟨a1, a2, a3⟩ := z_grow (e := .inl (1, N, .inr (.inl (fun _ => 0)))) hs rfl hP1 hD1
    have a4 := zm_oks_ag a1 (zm_sc_of hs).2.2.2
    have a5 := hP _ _ _ _ _ k (va_up ad h.length q) H1 locs ls (h1.trans a1 h3.1) (fun z => by simp at z) ⟨by rw [List.length_append]; exact Nat.le_trans h3.1 (Nat.le_add_right _ _), Nat.le_trans hu1 hRm.1, Nat.le_trans hu2 hRm.2⟩ a2 a3 hS1 (h7.ag a1 (zm_sc_of hs).2.2.1)
    rw [List.map_cons, a4, show zt (va_up ad h.length q) (.ref h.length) = .ref q by simp [zt, va_up]] at a5
    exact a5
  · exact k.elim
theorem zk_newq (X : zCx p s m args c own cc nL A D κ ad0 adV) (hP : zLe P (zK p l e R s m args below meth c Q A D κ ad0 n0 nL)) {index : Nat} (hd : decode cc pc = .ok (.anewarray index, 3)) (hn : nx = pc + 3) (hw : Cond.classLink own index RX2 ∈ zBT) {mc ms : Nat} (hRm : mc ≤ R.cells ∧ ms ≤ R.slots) (k : zo_newq mc ms nx P C Qp L st u h) : zK p l e R s m args below meth c Q A D κ ad0 n0 nL pc L st u h := by
  subst hn
  obtain ⟨⟨hx, hb, hml, hown, hts⟩, hK, hA, hG⟩ := X
  intro ad H locs ls h1 h2 h3 h4 h5 h6 h7
  unfold zo_newq at k
  split at k
  · next n r =>
    obtain ⟨N, hN, rfl, hs, k⟩ := k
    obtain ⟨hs, hu1, hu2⟩ := zm_al_of hs
    have hao : va_AO RX2 s := hG.2.2.2.2.2.1
    refine va_newq (C := RX2) hx hb hown (hts _ hw) hao hK h4 h5 h6 hA (znn hN).1 (znn hN).2 (by omega) (Nat.le_trans hu1 hRm.1) (Nat.le_trans hu2 hRm.2) hd (fun q cA H1 hK1 hP1 hD1 hS1 => ?_)
    have e1 : cA = κ.2.2 := by
      obtain ⟨kA, comp, -, -, -, b1⟩ := (hK1.2 3 (cA, .object RX2) rfl).2
      obtain ⟨kA', comp', -, -, -, b2⟩ := (hK.2 2 (κ.2.2, .object RX2) rfl).2
      exact Option.some.inj (b1.symm.trans b2)
    subst e1
    obtain ⟨a1, a2, a3⟩ := z_grow (e := .inl (2, N, .inr (.inr (.inr (.inr (fun _ => none)))))) hs rfl hP1 hD1
    have a4 := zm_oks_ag a1 (zm_sc_of hs).2.2.2
    have a5 := hP _ _ _ _ _ k (va_up ad h.length q) H1 locs ls (h1.trans a1 h3.1) (fun z => by simp at z) ⟨by rw [List.length_append]; exact Nat.le_trans h3.1 (Nat.le_add_right _ _), Nat.le_trans hu1 hRm.1, Nat.le_trans hu2 hRm.2⟩ a2 a3 hS1 (h7.ag a1 (zm_sc_of hs).2.2.1)
    rw [List.map_cons, a4, show zt (va_up ad h.length q) (.ref h.length) = .ref q by simp [zt, va_up]] at a5
    exact a5
  · exact k.elim
theorem zk_obj (X : zCx p s m args c own cc nL A D κ ad0 adV) (hP : zLe P (zK p l e R s m args below meth c Q A D κ ad0 n0 nL)) {index : Nat} (hd : decode cc pc = .ok (.invokespecial index, 3)) (hn : nx = pc + 3) (hw1 : Cond.methodLink own index objectInit ∈ zBT) (hw2 : Cond.instanceMethod objectInit ∈ zBT) (hw3 : Cond.code objectInit ⟨#[0xb1]⟩ 1 none ∈ zBT) (hR : 1 ≤ R.frames ∧ 20 ≤ R.locals) (k : zo_obj nx P C Qp L st u h) : zK p l e R s m args below meth c Q A D κ ad0 n0 nL pc L st u h := by
  subst hn
  obtain ⟨⟨hx, hb, hml, hown, hts⟩, hK, hA, hG⟩ := X
  intro ad H locs ls h1 h2 h3 h4 h5 h6 h7
  unfold zo_obj at k
  split at k
  · next a r =>
    replace k := zcond k
    obtain ⟨c1, k⟩ := k
    have c1 := Nat.le_of_ble_eq_true c1
    refine W.objInit hx hb hown (hts _ hw1) (hts _ hw2) (hts _ hw3) rfl (by rw [hml]; exact h7.2.1) rfl hd hR.1 ?_ (W.eq (g2 := F0 m (pc + 3) ls (r.map (zt ad))) rfl (hP _ _ _ _ _ k ad H locs ls h1 h2 h3 h4 h5 h6 h7))
    rw [zm_cat_eq]
    show 2 * 0 + _ + 12 ≤ _
    omega
  · exact k.elim
theorem zk_max (X : zCx p s m args c own cc nL A D κ ad0 adV) (hP : zLe P (zK p l e R s m args below meth c Q A D κ ad0 n0 nL)) {index : Nat} (hd : decode cc pc = .ok (.invokestatic index, 3)) (hn : nx = pc + 3) (hw1 : Cond.methodLink own index Lib.Math.max.name ∈ zBT) (hw2 : Cond.static Lib.Math.max.name ∈ zBT) (hw3 : Cond.initialized "java/lang/Math" ∈ zBT) (hw4 : Cond.code Lib.Math.max.name Lib.Math.max.code 2 (some .int) ∈ zBT) (hR : 1 ≤ R.frames ∧ 21 ≤ R.locals) (k : zo_max nx P C Qp L st u h) : zK p l e R s m args below meth c Q A D κ ad0 n0 nL pc L st u h := by
  subst hn
  obtain ⟨⟨hx, hb, hml, hown, hts⟩, hK, hA, hG⟩ := X
  intro ad H locs ls h1 h2 h3 h4 h5 h6 h7
  unfold zo_max at k
  split at k
  · next y x r =>
    replace k := zcond k
    obtain ⟨c1, k⟩ := k
    exact va_mmax hx hb (by rw [hml]; exact h7.2.1.symm) hown (hts _ hw1) (hts _ hw2) (hts _ hw3) (hts _ hw4) hR.1 (by rw [zm_cat_eq]; have := Nat.le_of_ble_eq_true c1; omega) h3.2.1 h3.2.2 hd (hP _ _ _ _ _ k ad H locs ls h1 h2 h3 h4 h5 h6 h7)
  · exact k.elim
theorem zk_min (X : zCx p s m args c own cc nL A D κ ad0 adV) (hP : zLe P (zK p l e R s m args below meth c Q A D κ ad0 n0 nL)) {index : Nat} (hd : decode cc pc = .ok (.invokestatic index, 3)) (hn : nx = pc + 3) (hw1 : Cond.methodLink own index Lib.Math.min.name ∈ zBT) (hw2 : Cond.static Lib.Math.min.name ∈ zBT) (hw3 : Cond.initialized "java/lang/Math" ∈ zBT) (hw4 : Cond.code Lib.Math.min.name Lib.Math.min.code 2 (some .int) ∈ zBT) (hR : 1 ≤ R.frames ∧ 21 ≤ R.locals) (k : zo_min nx P C Qp L st u h) : zK p l e R s m args below meth c Q A D κ ad0 n0 nL pc L st u h := by
  subst hn
  obtain ⟨⟨hx, hb, hml, hown, hts⟩, hK, hA, hG⟩ := X
  intro ad H locs ls h1 h2 h3 h4 h5 h6 h7
  unfold zo_min at k
  split at k
  · next y x r =>
    replace k := zcond k
    obtain ⟨c1, k⟩ := k
    exact va_mmin hx hb (by rw [hml]; exact h7.2.1.symm) hown (hts _ hw1) (hts _ hw2) (hts _ hw3) (hts _ hw4) hR.1 (by rw [zm_cat_eq]; have := Nat.le_of_ble_eq_true c1; omega) h3.2.1 h3.2.2 hd (hP _ _ _ _ _ k ad H locs ls h1 h2 h3 h4 h5 h6 h7)
  · exact k.elim
theorem zk_cpi (X : zCx p s m args c own cc nL A D κ ad0 adV) (hP : zLe P (zK p l e R s m args below meth c Q A D κ ad0 n0 nL)) {index : Nat} (hd : decode cc pc = .ok (.invokestatic index, 3)) (hn : nx = pc + 3) (hw1 : Cond.methodLink own index arraycopyName ∈ zBT) (hw2 : Cond.native arraycopyName ∈ zBT) (hw3 : Cond.static arraycopyName ∈ zBT) (hw4 : Cond.initialized "java/lang/System" ∈ zBT) (hR : 1 ≤ R.frames ∧ 8 + (nativeFrameWords "java/lang/System" "arraycopy" 5 + 11) ≤ R.locals) (k : zo_cpi nx P C Qp L st u h) : zK p l e R s m args below meth c Q A D κ ad0 n0 nL pc L st u h := by
  subst hn
  obtain ⟨⟨hx, hb, hml, hown, hts⟩, hK, hA, hG⟩ := X
  intro ad H locs ls h1 h2 h3 h4 h5 h6 h7
  unfold zo_cpi at k
  split at k
  · next n dp b sp a r =>
    split at k
    · next c0 n0' f hg0 =>
      split at k
      · next c1 n1 g hg1 =>
        replace k := zcond k
        obtain ⟨c2, N, D', S, rfl, rfl, rfl, g1, g2, g3, g4, k⟩ := k
        obtain ⟨q1, q2⟩ := znn (n := N) (by omega)
        obtain ⟨q3, q4⟩ := znn (n := D') (by omega)
        obtain ⟨q5, q6⟩ := znn (n := S) (by omega)
        refine va_copyi (ty := .int) hx hb (by rw [hml]; exact h7.2.1.symm) hown (hts _ hw1) (hts _ hw2) (hts _ hw3) (hts _ hw4) hK h4 h5 h6 a b 0 0 (zW_at hg0) (zW_at hg1) rfl rfl rfl q5 q3 q1 (by rw [q6, q2]; exact g1) (by rw [q4, q2]; exact g2) (fun i _ => rfl) hR.1 (by rw [zm_cat_eq]; have := Nat.le_of_ble_eq_true c2; omega) hd (fun H1 locs1 hP1 hD1 hS1 => ?_)
        rw [q2, q4, q6, show (Sum.inl (κ.1, n1, .inl (va_cpy f g S D' N)) : va_E) = ze κ ad (.inl (c1, n1, .inl (va_cpy f g S D' N))) from rfl, ← zW_set] at hP1 hD1
        exact hP _ _ _ _ _ k ad H1 locs1 ls h1 h2 (by rw [List.length_set]; exact h3) hP1 hD1 hS1 h7
      · exact k.elim
    · exact k.elim
  · exact k.elim
theorem zk_cpl (X : zCx p s m args c own cc nL A D κ ad0 adV) (hP : zLe P (zK p l e R s m args below meth c Q A D κ ad0 n0 nL)) {index : Nat} (hd : decode cc pc = .ok (.invokestatic index, 3)) (hn : nx = pc + 3) (hw1 : Cond.methodLink own index arraycopyName ∈ zBT) (hw2 : Cond.native arraycopyName ∈ zBT) (hw3 : Cond.static arraycopyName ∈ zBT) (hw4 : Cond.initialized "java/lang/System" ∈ zBT) (hR : 1 ≤ R.frames ∧ 8 + (nativeFrameWords "java/lang/System" "arraycopy" 5 + 11) ≤ R.locals) (k : zo_cpl nx P C Qp L st u h) : zK p l e R s m args below meth c Q A D κ ad0 n0 nL pc L st u h := by
  subst hn
  obtain ⟨⟨hx, hb, hml, hown, hts⟩, hK, hA, hG⟩ := X
  intro ad H locs ls h1 h2 h3 h4 h5 h6 h7
  unfold zo_cpl at k
  split at k
  · next n dp b sp a r =>
    split at k
    · next c0 n0' f hg0 =>
      split at k
      · next c1 n1 g hg1 =>
        replace k := zcond k
        obtain ⟨c2, N, D', S, rfl, rfl, rfl, g1, g2, g3, g4, k⟩ := k
        obtain ⟨q1, q2⟩ := znn (n := N) (by omega)
        obtain ⟨q3, q4⟩ := znn (n := D') (by omega)
        obtain ⟨q5, q6⟩ := znn (n := S) (by omega)
        refine va_copyl (ty := .long) hx hb (by rw [hml]; exact h7.2.1.symm) hown (hts _ hw1) (hts _ hw2) (hts _ hw3) (hts _ hw4) hK h4 h5 h6 a b 1 1 (zW_at hg0) (zW_at hg1) rfl rfl rfl q5 q3 q1 (by rw [q6, q2]; exact g1) (by rw [q4, q2]; exact g2) (fun i _ => rfl) hR.1 (by rw [zm_cat_eq]; have := Nat.le_of_ble_eq_true c2; omega) hd (fun H1 locs1 hP1 hD1 hS1 => ?_)
        rw [q2, q4, q6, show (Sum.inl (κ.2.1, n1, .inr (.inl (va_cpy f g S D' N))) : va_E) = ze κ ad (.inl (c1, n1, .inr (.inl (va_cpy f g S D' N)))) from rfl, ← zW_set] at hP1 hD1
        exact hP _ _ _ _ _ k ad H1 locs1 ls h1 h2 (by rw [List.length_set]; exact h3) hP1 hD1 hS1 h7
      · exact k.elim
    · exact k.elim
  · exact k.elim
theorem zk_gsab (X : zCx p s m args c own cc nL A D κ ad0 adV) (hP : zLe P (zK p l e R s m args below meth c Q A D κ ad0 n0 nL)) {index : Nat} (hd : decode cc pc = .ok (.getstatic index, 3)) (hn : nx = pc + 3) (hw : Cond.fieldLink own index "PooledInlaws$Kinds" "ABOVE" "[I" ∈ zBT) (k : zo_c (.ref 2000) nx P C Qp L st u h) : zK p l e R s m args below meth c Q A D κ ad0 n0 nL pc L st u h := by
  subst hn
  obtain ⟨⟨hx, hb, hml, hown, hts⟩, hK, hA, hG⟩ := X
  intro ad H locs ls h1 h2 h3 h4 h5 h6 h7
  have e1 : ad 2000 = ad0 2000 := h1 _ (Or.inr (by omega))
  refine va_gets (v := .ref (ad 2000)) hx hb (by rw [e1]; exact hG.2.2.2.1) h6 hown (hts _ hw) (fun _ h9 => h9) hd (hP _ _ _ _ _ k ad H locs ls h1 h2 h3 h4 h5 h6 h7)
theorem zk_tld (X : zCx p s m args c own cc nL A D κ ad0 adV) (hP : zLe P (zK p l e R s m args below meth c Q A D κ ad0 n0 nL))  (hd : decode cc pc = .ok (.iaload, 1)) (hn : nx = pc + 1)  (k : zo_tld zm_ab nx P C Qp L st u h) : zK p l e R s m args below meth c Q A D κ ad0 n0 nL pc L st u h := by
  subst hn
  obtain ⟨⟨hx, hb, hml, hown, hts⟩, hK, hA, hG⟩ := X
  intro ad H locs ls h1 h2 h3 h4 h5 h6 h7
  unfold zo_tld at k
  split at k
  · next i a r =>
    replace k := zcond k
    obtain ⟨c1, j, hj, rfl, k⟩ := k
    have := Nat.eq_of_beq_eq_true c1
    subst this
    have hj6 : j < 6 := hj
    have e1 : ad 2000 = ad0 2000 := h1 _ (Or.inr (by omega))
    exact va_ti (t := ad 2000) (N := 6) (f := fun j => .int (zm_ab.getD j 0)) (v := .int (zm_ab.getD j 0)) hx hb (by rw [e1]; exact hG.2.2.2.2.1) h6 (vp_in_nI hj6 (by omega)) (by show Value.int (zm_ab.getD (nI j).toNatClampNeg 0) = _; rw [nI_clamp (by omega)]) hd (hP _ _ _ _ _ k ad H locs ls h1 h2 h3 h4 h5 h6 h7)
  · exact k.elim
theorem zk_scr (X : zCx p s m args c own cc nL A D κ ad0 adV) (hP : zLe P (zK p l e R s m args below meth c Q A D κ ad0 n0 nL))  (hd : decode cc pc = .ok (.iaload, 1)) (hn : nx = pc + 1) {b : Nat} {Ln : Nat} {xs : Nat → Int32} (hX : va_X b Ln xs s s.heap) (hbl : b < s.heap.size) (hbA : ¬ A b) (hb0 : ad0 3000 = b) (hLn : Ln ≤ 3072) (k : zo_scr xs Ln nx P C Qp L st u h) : zK p l e R s m args below meth c Q A D κ ad0 n0 nL pc L st u h := by
  subst hn
  obtain ⟨⟨hx, hb, hml, hown, hts⟩, hK, hA, hG⟩ := X
  intro ad H locs ls h1 h2 h3 h4 h5 h6 h7
  unfold zo_scr at k
  split at k
  · next i a r =>
    replace k := zcond k
    obtain ⟨c1, j, hj, rfl, k⟩ := k
    have := Nat.eq_of_beq_eq_true c1
    subst this
    have e1 : zt ad (.ref 3000) = .ref b := by show Value.ref (ad 3000) = _; rw [h1 _ (Or.inr (by omega)), hb0]
    rw [List.map_cons, List.map_cons, e1]
    refine va_sld (i := nI j) hx hb hX hbl hbA h6 (vp_in_nI hj (by omega)) hd ?_
    rw [nI_clamp (by omega)]
    exact hP _ _ _ _ _ k ad H locs ls h1 h2 h3 h4 h5 h6 h7
  · exact k.elim
theorem zk_scl (X : zCx p s m args c own cc nL A D κ ad0 adV) (hP : zLe P (zK p l e R s m args below meth c Q A D κ ad0 n0 nL))  (hd : decode cc pc = .ok (.arraylength, 1)) (hn : nx = pc + 1) {b : Nat} {Ln : Nat} {xs : Nat → Int32} (hX : va_X b Ln xs s s.heap) (hbl : b < s.heap.size) (hbA : ¬ A b) (hb0 : ad0 3000 = b) (hLn : Ln ≤ 3072) (k : zo_scl Ln nx P C Qp L st u h) : zK p l e R s m args below meth c Q A D κ ad0 n0 nL pc L st u h := by
  subst hn
  obtain ⟨⟨hx, hb, hml, hown, hts⟩, hK, hA, hG⟩ := X
  intro ad H locs ls h1 h2 h3 h4 h5 h6 h7
  unfold zo_scl at k
  split at k
  · next a r =>
    replace k := zcond k
    obtain ⟨c1, k⟩ := k
    have := Nat.eq_of_beq_eq_true c1
    subst this
    have e1 : zt ad (.ref 3000) = .ref b := by show Value.ref (ad 3000) = _; rw [h1 _ (Or.inr (by omega)), hb0]
    rw [List.map_cons, e1]
    exact va_slen hx hb hX hbl hbA h6 hd (hP _ _ _ _ _ k ad H locs ls h1 h2 h3 h4 h5 h6 h7)
  · exact k.elim
end ZK3
section ZK4
variable {p : Program} {l : Launch} {e : Env} {R : Room} {s : State} {m : MethodId} {args : Array Value} {below : List Frame} {meth : Method} {c : Code} {D : va_G} {κ : zKp} {ad0 adV : Nat → Nat} {nL : Nat} {own : String} {cc : ByteArray}
variable {P : zP} {C : zC} {Qp : zQ} {pc mc ms : Nat} {L : zL} {st : List Value} {u : Nat × Nat} {h0 h : zH}
theorem zk_ir (X : zCx p s m args c own cc nL (va_A (zW κ ad0 h0) s.heap.size) D κ ad0 adV) (hlk : meth.locks = false) (hd : decode cc pc = .ok (.ireturn, 1)) (hr : meth.sig.returnType = some .int)  (k : zo_ir mc ms P C Qp L st u h) : zK p l e R s m args below meth c (MQ below (zPost D κ ad0 h0 s.heap.size mc Qp) args s mc ms (va_A (zW κ ad0 h0) s.heap.size)) (va_A (zW κ ad0 h0) s.heap.size) D κ ad0 h0.length nL pc L st u h := by
  obtain ⟨⟨hx, hb, hml, hown, hts⟩, hK, hA, hG⟩ := X
  intro ad H locs ls h1 h2 h3 h4 h5 h6 h7
  unfold zo_ir at k
  split at k
  · replace k := zcond k
    obtain ⟨c1, k⟩ := k
    replace k := zcond k
    obtain ⟨c2, k⟩ := k
    have c1 := Nat.le_of_ble_eq_true c1
    refine W.widen (k := mc) (n := ms) c1 (Nat.le_of_ble_eq_true c2) ?_
    exact W.iret hx hb hr (fun t ht hW => ⟨⟨some (.int _), h, ad, rfl, k, h1, fun z => h2 (by omega), h3.1, by rw [ht]; exact h4, va_K.moved hW.alike hK, h5⟩, h6.F ht⟩) h6.2.2 hd hlk
  · exact k.elim
theorem zk_zr (X : zCx p s m args c own cc nL (va_A (zW κ ad0 h0) s.heap.size) D κ ad0 adV) (hlk : meth.locks = false) (hd : decode cc pc = .ok (.ireturn, 1)) (hr : meth.sig.returnType = some .boolean)  (k : zo_zr mc ms P C Qp L st u h) : zK p l e R s m args below meth c (MQ below (zPost D κ ad0 h0 s.heap.size mc Qp) args s mc ms (va_A (zW κ ad0 h0) s.heap.size)) (va_A (zW κ ad0 h0) s.heap.size) D κ ad0 h0.length nL pc L st u h := by
  obtain ⟨⟨hx, hb, hml, hown, hts⟩, hK, hA, hG⟩ := X
  intro ad H locs ls h1 h2 h3 h4 h5 h6 h7
  unfold zo_zr at k
  split at k
  · replace k := zcond k
    obtain ⟨c1, k⟩ := k
    replace k := zcond k
    obtain ⟨c2, k⟩ := k
    have c1 := Nat.le_of_ble_eq_true c1
    refine W.widen (k := mc) (n := ms) c1 (Nat.le_of_ble_eq_true c2) ?_
    exact W.zret hx hb hr (by rcases k.1 with rfl | rfl <;> rfl) (fun t ht hW => ⟨⟨some (.int _), h, ad, rfl, k.2, h1, fun z => h2 (by omega), h3.1, by rw [ht]; exact h4, va_K.moved hW.alike hK, h5⟩, h6.F ht⟩) h6.2.2 hd hlk
  · exact k.elim
theorem zk_lr (X : zCx p s m args c own cc nL (va_A (zW κ ad0 h0) s.heap.size) D κ ad0 adV) (hlk : meth.locks = false) (hd : decode cc pc = .ok (.lreturn, 1)) (hr : meth.sig.returnType = some .long)  (k : zo_lr mc ms P C Qp L st u h) : zK p l e R s m args below meth c (MQ below (zPost D κ ad0 h0 s.heap.size mc Qp) args s mc ms (va_A (zW κ ad0 h0) s.heap.size)) (va_A (zW κ ad0 h0) s.heap.size) D κ ad0 h0.length nL pc L st u h := by
  obtain ⟨⟨hx, hb, hml, hown, hts⟩, hK, hA, hG⟩ := X
  intro ad H locs ls h1 h2 h3 h4 h5 h6 h7
  unfold zo_lr at k
  split at k
  · replace k := zcond k
    obtain ⟨c1, k⟩ := k
    replace k := zcond k
    obtain ⟨c2, k⟩ := k
    have c1 := Nat.le_of_ble_eq_true c1
    refine W.widen (k := mc) (n := ms) c1 (Nat.le_of_ble_eq_true c2) ?_
    exact W.lret hx hb hr (fun t ht hW => ⟨⟨some (.long _), h, ad, rfl, k, h1, fun z => h2 (by omega), h3.1, by rw [ht]; exact h4, va_K.moved hW.alike hK, h5⟩, h6.F ht⟩) h6.2.2 hd hlk
  · exact k.elim
theorem zk_ar (X : zCx p s m args c own cc nL (va_A (zW κ ad0 h0) s.heap.size) D κ ad0 adV) (hlk : meth.locks = false) (hd : decode cc pc = .ok (.areturn, 1)) {cn : String} (hr : meth.sig.returnType = some (.object cn))  (k : zo_ar mc ms P C Qp L st u h) : zK p l e R s m args below meth c (MQ below (zPost D κ ad0 h0 s.heap.size mc Qp) args s mc ms (va_A (zW κ ad0 h0) s.heap.size)) (va_A (zW κ ad0 h0) s.heap.size) D κ ad0 h0.length nL pc L st u h := by
  obtain ⟨⟨hx, hb, hml, hown, hts⟩, hK, hA, hG⟩ := X
  intro ad H locs ls h1 h2 h3 h4 h5 h6 h7
  unfold zo_ar at k
  split at k
  · replace k := zcond k
    obtain ⟨c1, k⟩ := k
    replace k := zcond k
    obtain ⟨c2, k⟩ := k
    have c1 := Nat.le_of_ble_eq_true c1
    refine W.widen (k := mc) (n := ms) c1 (Nat.le_of_ble_eq_true c2) ?_
    exact W.aret hx hb hr (Or.inl ⟨_, rfl⟩) (Or.inr ⟨_, rfl⟩) (fun t ht hW => ⟨⟨some (.ref _), h, ad, rfl, k, h1, fun z => h2 (by omega), h3.1, by rw [ht]; exact h4, va_K.moved hW.alike hK, h5⟩, h6.F ht⟩) h6.2.2 hd hlk
  · exact k.elim
theorem zk_vr (X : zCx p s m args c own cc nL (va_A (zW κ ad0 h0) s.heap.size) D κ ad0 adV) (hlk : meth.locks = false) (hd : decode cc pc = .ok (.return_, 1)) (hr : meth.sig.returnType = none)  (k : zo_vr mc ms P C Qp L st u h) : zK p l e R s m args below meth c (MQ below (zPost D κ ad0 h0 s.heap.size mc Qp) args s mc ms (va_A (zW κ ad0 h0) s.heap.size)) (va_A (zW κ ad0 h0) s.heap.size) D κ ad0 h0.length nL pc L st u h := by
  obtain ⟨⟨hx, hb, hml, hown, hts⟩, hK, hA, hG⟩ := X
  intro ad H locs ls h1 h2 h3 h4 h5 h6 h7
  unfold zo_vr at k
  split at k
  · replace k := zcond k
    obtain ⟨c1, k⟩ := k
    replace k := zcond k
    obtain ⟨c2, k⟩ := k
    have c1 := Nat.le_of_ble_eq_true c1
    refine W.widen (k := mc) (n := ms) c1 (Nat.le_of_ble_eq_true c2) ?_
    exact W.vret hx hb hr (fun t ht hW => ⟨⟨none, h, ad, rfl, k, h1, fun z => h2 (by omega), h3.1, by rw [ht]; exact h4, va_K.moved hW.alike hK, h5⟩, h6.F ht⟩) h6.2.2 hd hlk
  · exact k.elim
end ZK4
