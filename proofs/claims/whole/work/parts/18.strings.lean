/-! STRING CONSTANTS: length and charAt, the library's own code -/
def zSp (ad adV : Nat → Nat) (sz : Nat) (U : State) : Prop := U.heap.size = sz ∧ zG ad adV (fun q => sz ≤ q) U U.heap
theorem zSp_blind {av : List Value} {ad adV : Nat → Nat} {sz : Nat} : FrameBlind (va_Pc av (zSp ad adV sz)) := by
  intro a U g mk q
  obtain ⟨q0, q1, q2⟩ := q
  exact ⟨q0, q1, q2.same rfl⟩
theorem zBT_app (c : Cond) : ∀ w ∈ zBT, w ∈ c :: zBT := fun _ h => List.mem_cons_of_mem _ h
theorem zBT_goodc {c : Cond} (h : c ∈ zBT) : GoodIn zBT (c :: zBT) := by
  intro w hw
  rcases List.mem_cons.mp hw with rfl | hw
  · exact ⟨h, zBT_good h⟩
  · exact ⟨hw, zBT_good hw⟩
theorem dd_ck3_0 : decode cJ3_checkIndex_8e157 0 = .ok (.iload_n 0, 1) := by decide +kernel
theorem dd_ck3_1 : decode cJ3_checkIndex_8e157 1 = .ok (.ifCond .lt 8, 3) := by decide +kernel
theorem dd_ck3_4 : decode cJ3_checkIndex_8e157 4 = .ok (.iload_n 0, 1) := by decide +kernel
theorem dd_ck3_5 : decode cJ3_checkIndex_8e157 5 = .ok (.iload_n 1, 1) := by decide +kernel
theorem dd_ck3_6 : decode cJ3_checkIndex_8e157 6 = .ok (.if_icmp .lt 10, 3) := by decide +kernel
theorem dd_ck3_16 : decode cJ3_checkIndex_8e157 16 = .ok (.iload_n 0, 1) := by decide +kernel
theorem dd_ck3_17 : decode cJ3_checkIndex_8e157 17 = .ok (.ireturn, 1) := by decide +kernel
set_option maxHeartbeats 4000000 in
theorem zj_ck3 (l : Launch) (i n : Int32) (v : Value) (hc : v.category = 1) (h0 : ¬ i < 0) (hn : i < n) : Met l yJ3_checkIndex_8e157 (.code yJ3_checkIndex_8e157 cJ3_checkIndex_8e157 3 (some .int) :: zBT) { frames := 0, cells := 0, slots := 0, locals := 0 } (va_Pc [.int i, .int n, v] (fun _ => True)) (vp_Si (fun r => r = i)) 0 0 (fun _ => False) := by
  refine Met.ofW (cc := cJ3_checkIndex_8e157) (maxL := 3) (ret := some .int) (by decide) rfl ?_
  intro p e s m args below meth c s₁ B hml hv
  obtain ⟨rfl, -⟩ := hv
  have hx := B.exec
  have hb := B.bytes
  have hr := B.returns
  have hlocks := B.notSynchronized
  have e0 : (lg_sl [Value.int i, Value.int n, v]).length ≤ 3 := by cases v <;> first | exact Nat.le_of_ble_eq_true rfl | (simp [Value.category] at hc)
  have hl := lv_entry ([.int i, .int n, v]) (n := 3) e0
  rw [lg_entry_eq]
  generalize (lg_sl ([.int i, .int n, v]) ++ List.replicate (3 - (lg_sl ([.int i, .int n, v])).length) Slot.unset).toArray = ls at hl ⊢
  have hl : lv_has ls 3 [(0, .int i), (1, .int n), (2, v)] := hl
  refine lv_iload_n hx hb dd_ck3_0 rfl (lv_at hl 0 rfl) ?_
  refine lv_if_lt (tgt := 9) hx hb dd_ck3_1 (by decide) (fun z => absurd z h0) (fun _ => ?_)
  refine lv_iload_n hx hb dd_ck3_4 rfl (lv_at hl 0 rfl) ?_
  refine lv_iload_n hx hb dd_ck3_5 rfl (lv_at hl 1 rfl) ?_
  refine lv_icmp_lt (tgt := 16) hx hb dd_ck3_6 (by decide) (fun _ => ?_) (fun z => absurd hn z)
  refine lv_iload_n hx hb dd_ck3_16 rfl (lv_at hl 0 rfl) ?_
  exact W.iret hx hb hr (fun t ht hW => ⟨i, rfl, rfl, ht⟩) (fun q hq => by cases hq) dd_ck3_17
theorem wj_ck0_f : Cond.fieldLink RJ0 1053 "jdk/internal/util/Preconditions" "SIOOBE_FORMATTER" "Ljava/util/function/BiFunction;" ∈ zBT := zBT_in (by decide +kernel) (by decide +kernel)
theorem wj_ck0_l : Cond.methodLink RJ0 1059 yJ3_checkIndex_8e157 ∈ zBT := zBT_in (by decide +kernel) (by decide +kernel)
theorem wj_ck0_s : Cond.static yJ3_checkIndex_8e157 ∈ zBT := zBT_in (by decide +kernel) (by decide +kernel)
theorem wj_ck0_i : Cond.initialized yJ3_checkIndex_8e157.cls ∈ zBT := zBT_in (by decide +kernel) (by decide +kernel)
theorem wj_ck3_c : Cond.code yJ3_checkIndex_8e157 cJ3_checkIndex_8e157 3 (some .int) ∈ zBT := zBT_in (by decide +kernel) (by decide +kernel)
theorem dd_ck0_0 : decode cJ0_checkIndex_df160 0 = .ok (.iload_n 0, 1) := by decide +kernel
theorem dd_ck0_1 : decode cJ0_checkIndex_df160 1 = .ok (.iload_n 1, 1) := by decide +kernel
theorem dd_ck0_2 : decode cJ0_checkIndex_df160 2 = .ok (.getstatic 1053, 3) := by decide +kernel
theorem dd_ck0_5 : decode cJ0_checkIndex_df160 5 = .ok (.invokestatic 1059, 3) := by decide +kernel
theorem dd_ck0_8 : decode cJ0_checkIndex_df160 8 = .ok (.pop, 1) := by decide +kernel
theorem dd_ck0_9 : decode cJ0_checkIndex_df160 9 = .ok (.return_, 1) := by decide +kernel
set_option maxHeartbeats 4000000 in
theorem zj_ck0 (l : Launch) (ad adV : Nat → Nat) (sz : Nat) (i n : Int32) (h0 : ¬ i < 0) (hn : i < n) : Met l yJ0_checkIndex_df160 (.code yJ0_checkIndex_df160 cJ0_checkIndex_df160 2 none :: zBT) { frames := 1, cells := 0, slots := 0, locals := 22 } (va_Pc [.int i, .int n] (zSp ad adV sz)) (va_Sv (fun _ => True)) 0 0 (fun _ => False) := by
  refine Met.ofW (cc := cJ0_checkIndex_df160) (maxL := 2) (ret := none) (by decide) rfl ?_
  intro p e s m args below meth c s₁ B hml hv
  obtain ⟨rfl, hsz, hG⟩ := hv
  have hx := B.exec
  have hb := B.bytes
  have hr := B.returns
  have hlocks := B.notSynchronized
  have hts0 := atoms_spec (ws := .code yJ0_checkIndex_df160 cJ0_checkIndex_df160 2 none :: zBT) B.pre
  have hts : ∀ w ∈ zBT, w.before _ s = true := fun w hw => hts0 w (zBT_app _ w hw)
  have hown : s.vm.findClass RJ0 = some m.cls := findClass_of_methodNamed B.named
  subst hsz
  have hS : va_S (fun q => s.heap.size ≤ q) s.heap s.heap [] := va_S.rf
  have hl := lv_entry ([.int i, .int n]) (n := 2) (Nat.le_of_ble_eq_true rfl)
  rw [lg_entry_eq]
  generalize (lg_sl ([.int i, .int n]) ++ List.replicate (2 - (lg_sl ([.int i, .int n])).length) Slot.unset).toArray = ls at hl ⊢
  have hl : lv_has ls 2 [(0, .int i), (1, .int n)] := hl
  refine lv_iload_n hx hb dd_ck0_0 rfl (lv_at hl 0 rfl) ?_
  refine lv_iload_n hx hb dd_ck0_1 rfl (lv_at hl 1 rfl) ?_
  have go : ∀ v : Value, v.category = 1 → W p l e (headSpec (.code yJ0_checkIndex_df160 cJ0_checkIndex_df160 2 none :: zBT) { frames := 1, cells := 0, slots := 0, locals := 22 }).room s m [.int i, .int n].toArray below meth c s.heap [] 0 0 (MQ below (va_Sv (fun _ => True)) [.int i, .int n].toArray s 0 0 (fun _ => False)) (F0 m 5 ls [v, .int n, .int i]) := by
    intro v hc
    have cw : CallB (headSpec (.code yJ0_checkIndex_df160 cJ0_checkIndex_df160 2 none :: zBT) { frames := 1, cells := 0, slots := 0, locals := 22 }).room s [.int i, .int n].toArray RJ0 1059 yJ3_checkIndex_8e157 cJ3_checkIndex_8e157 3 (some .int) (.code yJ3_checkIndex_8e157 cJ3_checkIndex_8e157 3 (some .int) :: zBT) { frames := 0, cells := 0, slots := 0, locals := 0 } 0 0 3 ∧ (Cond.static yJ3_checkIndex_8e157).before [.int i, .int n].toArray s = true :=
      ⟨callB_of 3 hts (zBT_goodc wj_ck3_c) rfl rfl rfl (hts _ wj_ck0_i) (hts _ wj_ck0_l) (by decide +kernel) ⟨Nat.le_of_ble_eq_true rfl, Nat.le_of_ble_eq_true rfl⟩, hts _ wj_ck0_s⟩
    refine vp_callSi (W.runS (As := [.int i, .int n, v]) (rest := []) ⟨hx, hb, hml, hown, hts⟩ (zj_ck3 l i n v hc h0 hn) cw ⟨fun _ _ _ _ q => q, fun U hU hW => ⟨rfl, trivial⟩⟩ rfl rfl hl.1 rfl (lv_room (Nat.le_of_ble_eq_true rfl)) dd_ck0_5 ⟨Nat.zero_le _, Nat.zero_le _⟩) (fun r hr1 => ?_)
    refine lv_pop hx hb dd_ck0_8 rfl ?_
    exact W.vret hx hb hr (fun t ht hW => ⟨rfl, trivial, ht⟩) (fun q hq => by cases hq) dd_ck0_9
  rcases hG.2.2.1 with hZ | ⟨t, hZ⟩
  · exact va_gets (v := .null) hx hb hZ hS hown (hts _ wj_ck0_f) (fun _ h9 => h9) dd_ck0_2 (go .null rfl)
  · exact va_gets (v := .ref t) hx hb hZ hS hown (hts _ wj_ck0_f) (fun _ h9 => h9) dd_ck0_2 (go (.ref t) rfl)

theorem wj_l1_l : Cond.methodLink RJ1 9 yJ0_checkIndex_df160 ∈ zBT := zBT_in (by decide +kernel) (by decide +kernel)
theorem wj_l1_s : Cond.static yJ0_checkIndex_df160 ∈ zBT := zBT_in (by decide +kernel) (by decide +kernel)
theorem wj_l1_i : Cond.initialized yJ0_checkIndex_df160.cls ∈ zBT := zBT_in (by decide +kernel) (by decide +kernel)
theorem wj_ck0_c : Cond.code yJ0_checkIndex_df160 cJ0_checkIndex_df160 2 none ∈ zBT := zBT_in (by decide +kernel) (by decide +kernel)
theorem dd_l1_0 : decode cJ1_charAt_3b067 0 = .ok (.iload_n 1, 1) := by decide +kernel
theorem dd_l1_1 : decode cJ1_charAt_3b067 1 = .ok (.aload_n 0, 1) := by decide +kernel
theorem dd_l1_2 : decode cJ1_charAt_3b067 2 = .ok (.arraylength, 1) := by decide +kernel
theorem dd_l1_3 : decode cJ1_charAt_3b067 3 = .ok (.invokestatic 9, 3) := by decide +kernel
theorem dd_l1_6 : decode cJ1_charAt_3b067 6 = .ok (.aload_n 0, 1) := by decide +kernel
theorem dd_l1_7 : decode cJ1_charAt_3b067 7 = .ok (.iload_n 1, 1) := by decide +kernel
theorem dd_l1_8 : decode cJ1_charAt_3b067 8 = .ok (.baload, 1) := by decide +kernel
theorem dd_l1_9 : decode cJ1_charAt_3b067 9 = .ok (.sipush 255, 3) := by decide +kernel
theorem dd_l1_12 : decode cJ1_charAt_3b067 12 = .ok (.iand, 1) := by decide +kernel
theorem dd_l1_13 : decode cJ1_charAt_3b067 13 = .ok (.i2c, 1) := by decide +kernel
theorem dd_l1_14 : decode cJ1_charAt_3b067 14 = .ok (.ireturn, 1) := by decide +kernel
/-- the constants' signs are bytes below 128, their lengths as told -/
theorem zm_tx_ok : ∀ q, q < 12 → zm_ln.getD q 0 = (zm_tx.getD q []).length ∧ ∀ j, j < (zm_tx.getD q []).length → ((((zm_tx.getD q []).getD j 0) &&& 255).toUInt32 % 65536).toInt32 = (zm_tx.getD q []).getD j 0 ∧ narrow .char (.int ((zm_tx.getD q []).getD j 0)) = .int ((zm_tx.getD q []).getD j 0) := by decide +kernel
theorem zm_ln_small : ∀ q, q < 12 → zm_ln.getD q 0 < 100 := by decide +kernel
set_option maxHeartbeats 4000000 in
theorem zj_l1 (l : Launch) (ad adV : Nat → Nat) (sz q j : Nat) (hq : q < 12) (hj : j < (zm_tx.getD q []).length) : Met l yJ1_charAt_3b067 (.code yJ1_charAt_3b067 cJ1_charAt_3b067 2 (some .char) :: zBT) { frames := 2, cells := 0, slots := 0, locals := 43 } (va_Pc [.ref (adV q), .int (nI j)] (zSp ad adV sz)) (vp_Si (fun r => r = (zm_tx.getD q []).getD j 0)) 0 0 (fun _ => False) := by
  obtain ⟨t1, t2⟩ := zm_tx_ok q hq
  have t3 := zm_ln_small q hq
  refine Met.ofW (cc := cJ1_charAt_3b067) (maxL := 2) (ret := some .char) (by decide) rfl ?_
  intro p e s m args below meth c s₁ B hml hv
  obtain ⟨rfl, hsz, hG⟩ := hv
  have hx := B.exec
  have hb := B.bytes
  have hr := B.returns
  have hlocks := B.notSynchronized
  have hts0 := atoms_spec (ws := .code yJ1_charAt_3b067 cJ1_charAt_3b067 2 (some .char) :: zBT) B.pre
  have hts : ∀ w ∈ zBT, w.before _ s = true := fun w hw => hts0 w (zBT_app _ w hw)
  have hown : s.vm.findClass RJ1 = some m.cls := findClass_of_methodNamed B.named
  subst hsz
  have hS : va_S (fun q => s.heap.size ≤ q) s.heap s.heap [] := va_S.rf
  have hT := (hG.1.1 q hq).2.2.2
  have hl := lv_entry ([.ref (adV q), .int (nI j)]) (n := 2) (Nat.le_of_ble_eq_true rfl)
  rw [lg_entry_eq]
  generalize (lg_sl ([.ref (adV q), .int (nI j)]) ++ List.replicate (2 - (lg_sl ([.ref (adV q), .int (nI j)])).length) Slot.unset).toArray = ls at hl ⊢
  have hl : lv_has ls 2 [(0, .ref (adV q)), (1, .int (nI j))] := hl
  refine lv_iload_n hx hb dd_l1_0 rfl (lv_at hl 1 rfl) ?_
  refine lv_aload_n hx hb dd_l1_1 rfl (lv_at hl 0 rfl) ?_
  refine va_tlen (v := nI (zm_ln.getD q 0)) hx hb hT hS rfl dd_l1_2 ?_
  have cw : CallB (headSpec (.code yJ1_charAt_3b067 cJ1_charAt_3b067 2 (some .char) :: zBT) { frames := 2, cells := 0, slots := 0, locals := 43 }).room s [.ref (adV q), .int (nI j)].toArray RJ1 9 yJ0_checkIndex_df160 cJ0_checkIndex_df160 2 none (.code yJ0_checkIndex_df160 cJ0_checkIndex_df160 2 none :: zBT) { frames := 1, cells := 0, slots := 0, locals := 22 } 0 0 2 ∧ (Cond.static yJ0_checkIndex_df160).before [.ref (adV q), .int (nI j)].toArray s = true :=
    ⟨callB_of 2 hts (zBT_goodc wj_ck0_c) rfl rfl rfl (hts _ wj_l1_i) (hts _ wj_l1_l) (by decide +kernel) ⟨Nat.le_of_ble_eq_true rfl, Nat.le_of_ble_eq_true rfl⟩, hts _ wj_l1_s⟩
  refine va_csv (W.runS (As := [.int (nI j), .int (nI (zm_ln.getD q 0))]) (rest := []) ⟨hx, hb, hml, hown, hts⟩ (zj_ck0 l ad adV s.heap.size (nI j) (nI (zm_ln.getD q 0)) (nI_pos (by omega)) (nI_lt (by omega) (by omega))) cw ⟨zSp_blind, fun U hU hW => ⟨rfl, by rw [hU], by rw [hU]; exact hG.warm hW⟩⟩ rfl rfl hl.1 rfl (lv_room (Nat.le_of_ble_eq_true rfl)) dd_l1_3 ⟨Nat.zero_le _, Nat.zero_le _⟩) (fun _ => ?_)
  refine lv_aload_n hx hb dd_l1_6 rfl (lv_at hl 0 rfl) ?_
  refine lv_iload_n hx hb dd_l1_7 rfl (lv_at hl 1 rfl) ?_
  refine va_tb (v := .int ((zm_tx.getD q []).getD j 0)) hx hb hT hS (vp_in_nI (by omega) (by omega)) (by show Value.int ((zm_tx.getD q []).getD (nI j).toNatClampNeg 0) = _; rw [nI_clamp (by omega)]) dd_l1_8 ?_
  refine lv_sipush (v := 255) hx hb dd_l1_9 (by decide) ?_
  refine lv_iand hx hb dd_l1_12 ?_
  refine lv_i2c (v := (zm_tx.getD q []).getD j 0) hx hb dd_l1_13 (t2 j hj).1 ?_
  exact W.zret hx hb hr (t2 j hj).2 (fun t ht hW => ⟨_, rfl, rfl, ht⟩) (fun q hq => by cases hq) dd_l1_14
theorem wj_0_38 : Cond.fieldLink RJ0 38 "java/lang/String" "COMPACT_STRINGS" "Z" ∈ zBT := zBT_in (by decide +kernel) (by decide +kernel)
theorem wj_0_15 : Cond.fieldLink RJ0 15 "java/lang/String" "coder" "B" ∈ zBT := zBT_in (by decide +kernel) (by decide +kernel)
theorem wj_0_9 : Cond.fieldLink RJ0 9 "java/lang/String" "value" "[B" ∈ zBT := zBT_in (by decide +kernel) (by decide +kernel)
theorem dd_la_0 : decode cJ0_isLatin1_aae02 0 = .ok (.getstatic 38, 3) := by decide +kernel
theorem dd_la_3 : decode cJ0_isLatin1_aae02 3 = .ok (.ifCond .eq 14, 3) := by decide +kernel
theorem dd_la_6 : decode cJ0_isLatin1_aae02 6 = .ok (.aload_n 0, 1) := by decide +kernel
theorem dd_la_7 : decode cJ0_isLatin1_aae02 7 = .ok (.getfield 15, 3) := by decide +kernel
theorem dd_la_10 : decode cJ0_isLatin1_aae02 10 = .ok (.ifCond .ne 7, 3) := by decide +kernel
theorem dd_la_13 : decode cJ0_isLatin1_aae02 13 = .ok (.iconst 1, 1) := by decide +kernel
theorem dd_la_14 : decode cJ0_isLatin1_aae02 14 = .ok (.goto 4, 3) := by decide +kernel
theorem dd_la_18 : decode cJ0_isLatin1_aae02 18 = .ok (.ireturn, 1) := by decide +kernel
set_option maxHeartbeats 4000000 in
theorem zj_la (l : Launch) (ad adV : Nat → Nat) (sz q : Nat) (hq : q < 12) : Met l yJ0_isLatin1_aae02 (.code yJ0_isLatin1_aae02 cJ0_isLatin1_aae02 1 (some .boolean) :: zBT) { frames := 0, cells := 0, slots := 0, locals := 0 } (va_Pc [.ref (ad (1000 + q))] (zSp ad adV sz)) (vp_Si (fun r => r = 1)) 0 0 (fun _ => False) := by
  refine Met.ofW (cc := cJ0_isLatin1_aae02) (maxL := 1) (ret := some .boolean) (by decide) rfl ?_
  intro p e s m args below meth c s₁ B hml hv
  obtain ⟨rfl, hsz, hG⟩ := hv
  have hx := B.exec
  have hb := B.bytes
  have hr := B.returns
  have hlocks := B.notSynchronized
  have hts0 := atoms_spec (ws := .code yJ0_isLatin1_aae02 cJ0_isLatin1_aae02 1 (some .boolean) :: zBT) B.pre
  have hts : ∀ w ∈ zBT, w.before _ s = true := fun w hw => hts0 w (zBT_app _ w hw)
  have hown : s.vm.findClass RJ0 = some m.cls := findClass_of_methodNamed B.named
  subst hsz
  have hS : va_S (fun q => s.heap.size ≤ q) s.heap s.heap [] := va_S.rf
  have hl := lv_entry ([.ref (ad (1000 + q))]) (n := 1) (Nat.le_of_ble_eq_true rfl)
  rw [lg_entry_eq]
  generalize (lg_sl ([.ref (ad (1000 + q))]) ++ List.replicate (1 - (lg_sl ([.ref (ad (1000 + q))])).length) Slot.unset).toArray = ls at hl ⊢
  have hl : lv_has ls 1 [(0, .ref (ad (1000 + q)))] := hl
  refine va_gets (v := .int 1) hx hb hG.2.1 hS hown (hts _ wj_0_38) (fun _ h9 => h9) dd_la_0 ?_
  refine lv_if_eq (tgt := 17) hx hb dd_la_3 (by decide) (fun z => absurd z (by decide)) (fun _ => ?_)
  refine lv_aload_n hx hb dd_la_6 rfl (lv_at hl 0 rfl) ?_
  refine vk_getf (v := .int 0) hx hb (hG.1.1 q hq).2.1 hS hown (hts _ wj_0_15) (fun _ h9 => h9) dd_la_7 ?_
  refine lv_if_ne (tgt := 17) hx hb dd_la_10 (by decide) (fun z => absurd rfl z) (fun _ => ?_)
  refine lv_iconst (v := 1) hx hb dd_la_13 (by decide) ?_
  refine lv_goto (tgt := 18) hx hb dd_la_14 (by decide) ?_
  exact W.zret hx hb hr rfl (fun t ht hW => ⟨1, rfl, rfl, ht⟩) (fun q hq => by cases hq) dd_la_18
theorem dd_co_0 : decode cJ0_coder_7d493 0 = .ok (.getstatic 38, 3) := by decide +kernel
theorem dd_co_3 : decode cJ0_coder_7d493 3 = .ok (.ifCond .eq 10, 3) := by decide +kernel
theorem dd_co_6 : decode cJ0_coder_7d493 6 = .ok (.aload_n 0, 1) := by decide +kernel
theorem dd_co_7 : decode cJ0_coder_7d493 7 = .ok (.getfield 15, 3) := by decide +kernel
theorem dd_co_10 : decode cJ0_coder_7d493 10 = .ok (.goto 4, 3) := by decide +kernel
theorem dd_co_14 : decode cJ0_coder_7d493 14 = .ok (.ireturn, 1) := by decide +kernel
set_option maxHeartbeats 4000000 in
theorem zj_co (l : Launch) (ad adV : Nat → Nat) (sz q : Nat) (hq : q < 12) : Met l yJ0_coder_7d493 (.code yJ0_coder_7d493 cJ0_coder_7d493 1 (some .byte) :: zBT) { frames := 0, cells := 0, slots := 0, locals := 0 } (va_Pc [.ref (ad (1000 + q))] (zSp ad adV sz)) (vp_Si (fun r => r = 0)) 0 0 (fun _ => False) := by
  refine Met.ofW (cc := cJ0_coder_7d493) (maxL := 1) (ret := some .byte) (by decide) rfl ?_
  intro p e s m args below meth c s₁ B hml hv
  obtain ⟨rfl, hsz, hG⟩ := hv
  have hx := B.exec
  have hb := B.bytes
  have hr := B.returns
  have hlocks := B.notSynchronized
  have hts0 := atoms_spec (ws := .code yJ0_coder_7d493 cJ0_coder_7d493 1 (some .byte) :: zBT) B.pre
  have hts : ∀ w ∈ zBT, w.before _ s = true := fun w hw => hts0 w (zBT_app _ w hw)
  have hown : s.vm.findClass RJ0 = some m.cls := findClass_of_methodNamed B.named
  subst hsz
  have hS : va_S (fun q => s.heap.size ≤ q) s.heap s.heap [] := va_S.rf
  have hl := lv_entry ([.ref (ad (1000 + q))]) (n := 1) (Nat.le_of_ble_eq_true rfl)
  rw [lg_entry_eq]
  generalize (lg_sl ([.ref (ad (1000 + q))]) ++ List.replicate (1 - (lg_sl ([.ref (ad (1000 + q))])).length) Slot.unset).toArray = ls at hl ⊢
  have hl : lv_has ls 1 [(0, .ref (ad (1000 + q)))] := hl
  refine va_gets (v := .int 1) hx hb hG.2.1 hS hown (hts _ wj_0_38) (fun _ h9 => h9) dd_co_0 ?_
  refine lv_if_eq (tgt := 13) hx hb dd_co_3 (by decide) (fun z => absurd z (by decide)) (fun _ => ?_)
  refine lv_aload_n hx hb dd_co_6 rfl (lv_at hl 0 rfl) ?_
  refine vk_getf (v := .int 0) hx hb (hG.1.1 q hq).2.1 hS hown (hts _ wj_0_15) (fun _ h9 => h9) dd_co_7 ?_
  refine lv_goto (tgt := 14) hx hb dd_co_10 (by decide) ?_
  exact W.zret hx hb hr rfl (fun t ht hW => ⟨0, rfl, rfl, ht⟩) (fun q hq => by cases hq) dd_co_14
theorem wj_len_l : Cond.methodLink RJ0 335 yJ0_coder_7d493 ∈ zBT := zBT_in (by decide +kernel) (by decide +kernel)
theorem wj_len_n : Cond.instanceMethod yJ0_coder_7d493 ∈ zBT := zBT_in (by decide +kernel) (by decide +kernel)
theorem wj_len_s : Cond.selects RJ0 yJ0_coder_7d493 yJ0_coder_7d493 ∈ zBT := zBT_in (by decide +kernel) (by decide +kernel)
theorem wj_co_c : Cond.code yJ0_coder_7d493 cJ0_coder_7d493 1 (some .byte) ∈ zBT := zBT_in (by decide +kernel) (by decide +kernel)
theorem dd_le_0 : decode cJ0_length_8abf5 0 = .ok (.aload_n 0, 1) := by decide +kernel
theorem dd_le_1 : decode cJ0_length_8abf5 1 = .ok (.getfield 9, 3) := by decide +kernel
theorem dd_le_4 : decode cJ0_length_8abf5 4 = .ok (.arraylength, 1) := by decide +kernel
theorem dd_le_5 : decode cJ0_length_8abf5 5 = .ok (.aload_n 0, 1) := by decide +kernel
theorem dd_le_6 : decode cJ0_length_8abf5 6 = .ok (.invokevirtual 335, 3) := by decide +kernel
theorem dd_le_9 : decode cJ0_length_8abf5 9 = .ok (.ishr, 1) := by decide +kernel
theorem dd_le_10 : decode cJ0_length_8abf5 10 = .ok (.ireturn, 1) := by decide +kernel
set_option maxHeartbeats 4000000 in
theorem zj_le (l : Launch) (ad adV : Nat → Nat) (sz q : Nat) (hq : q < 12) : Met l yJ0_length_8abf5 (.code yJ0_length_8abf5 cJ0_length_8abf5 1 (some .int) :: zBT) { frames := 1, cells := 0, slots := 0, locals := 20 } (va_Pc [.ref (ad (1000 + q))] (zSp ad adV sz)) (vp_Si (fun r => r = nI (zm_tx.getD q []).length)) 0 0 (fun _ => False) := by
  obtain ⟨t1, t2⟩ := zm_tx_ok q hq
  have t3 := zm_ln_small q hq
  refine Met.ofW (cc := cJ0_length_8abf5) (maxL := 1) (ret := some .int) (by decide) rfl ?_
  intro p e s m args below meth c s₁ B hml hv
  obtain ⟨rfl, hsz, hG⟩ := hv
  have hx := B.exec
  have hb := B.bytes
  have hr := B.returns
  have hlocks := B.notSynchronized
  have hts0 := atoms_spec (ws := .code yJ0_length_8abf5 cJ0_length_8abf5 1 (some .int) :: zBT) B.pre
  have hts : ∀ w ∈ zBT, w.before _ s = true := fun w hw => hts0 w (zBT_app _ w hw)
  have hown : s.vm.findClass RJ0 = some m.cls := findClass_of_methodNamed B.named
  subst hsz
  have hS : va_S (fun q => s.heap.size ≤ q) s.heap s.heap [] := va_S.rf
  have hT := (hG.1.1 q hq).2.2.2
  have hl := lv_entry ([.ref (ad (1000 + q))]) (n := 1) (Nat.le_of_ble_eq_true rfl)
  rw [lg_entry_eq]
  generalize (lg_sl ([.ref (ad (1000 + q))]) ++ List.replicate (1 - (lg_sl ([.ref (ad (1000 + q))])).length) Slot.unset).toArray = ls at hl ⊢
  have hl : lv_has ls 1 [(0, .ref (ad (1000 + q)))] := hl
  refine lv_aload_n hx hb dd_le_0 rfl (lv_at hl 0 rfl) ?_
  refine vk_getf (v := .ref (adV q)) hx hb (hG.1.1 q hq).2.2.1 hS hown (hts _ wj_0_9) (fun _ h9 => h9) dd_le_1 ?_
  refine va_tlen (v := nI (zm_ln.getD q 0)) hx hb hT hS rfl dd_le_4 ?_
  refine lv_aload_n hx hb dd_le_5 rfl (lv_at hl 0 rfl) ?_
  have cw : CallW (headSpec (.code yJ0_length_8abf5 cJ0_length_8abf5 1 (some .int) :: zBT) { frames := 1, cells := 0, slots := 0, locals := 20 }).room s [.ref (ad (1000 + q))].toArray RJ0 RJ0 335 yJ0_coder_7d493 cJ0_coder_7d493 1 (some .byte) (.code yJ0_coder_7d493 cJ0_coder_7d493 1 (some .byte) :: zBT) { frames := 0, cells := 0, slots := 0, locals := 0 } 0 0 0 :=
    ⟨callB_of 0 hts (zBT_goodc wj_co_c) rfl rfl rfl (hts _ wj_l1_i) (hts _ wj_len_l) (by decide +kernel) ⟨Nat.le_of_ble_eq_true rfl, Nat.le_of_ble_eq_true rfl⟩, hts _ wj_len_n, hts _ wj_len_s⟩
  refine vp_callSi (W.runV (b := ad (1000 + q)) (As := []) (rest := [.int (nI (zm_ln.getD q 0))]) ⟨hx, hb, hml, hown, hts⟩ (zj_co l ad adV s.heap.size q hq) cw ⟨zSp_blind, vk_recv (adK := fun i => ad (1000 + i)) (i := q) hG.1 hq hS, fun U hU hW => ⟨rfl, by rw [hU], by rw [hU]; exact hG.warm hW⟩⟩ rfl rfl hl.1 rfl (lv_room (Nat.le_of_ble_eq_true rfl)) dd_le_6 ⟨Nat.zero_le _, Nat.zero_le _⟩) (fun r hr1 => ?_)
  subst hr1
  refine lv_ishr hx hb dd_le_9 ?_
  rw [sc_shr0 (by omega), t1]
  exact W.iret hx hb hr (fun t ht hW => ⟨_, rfl, rfl, ht⟩) (fun q hq => by cases hq) dd_le_10
theorem wj_ca_l : Cond.methodLink RJ0 492 yJ0_isLatin1_aae02 ∈ zBT := zBT_in (by decide +kernel) (by decide +kernel)
theorem wj_ca_n : Cond.instanceMethod yJ0_isLatin1_aae02 ∈ zBT := zBT_in (by decide +kernel) (by decide +kernel)
theorem wj_ca_s : Cond.selects RJ0 yJ0_isLatin1_aae02 yJ0_isLatin1_aae02 ∈ zBT := zBT_in (by decide +kernel) (by decide +kernel)
theorem wj_la_c : Cond.code yJ0_isLatin1_aae02 cJ0_isLatin1_aae02 1 (some .boolean) ∈ zBT := zBT_in (by decide +kernel) (by decide +kernel)
theorem wj_cb_l : Cond.methodLink RJ0 495 yJ1_charAt_3b067 ∈ zBT := zBT_in (by decide +kernel) (by decide +kernel)
theorem wj_cb_s : Cond.static yJ1_charAt_3b067 ∈ zBT := zBT_in (by decide +kernel) (by decide +kernel)
theorem wj_cb_i : Cond.initialized yJ1_charAt_3b067.cls ∈ zBT := zBT_in (by decide +kernel) (by decide +kernel)
theorem wj_l1_c : Cond.code yJ1_charAt_3b067 cJ1_charAt_3b067 2 (some .char) ∈ zBT := zBT_in (by decide +kernel) (by decide +kernel)
theorem dd_ca_0 : decode cJ0_charAt_5068e 0 = .ok (.aload_n 0, 1) := by decide +kernel
theorem dd_ca_1 : decode cJ0_charAt_5068e 1 = .ok (.invokevirtual 492, 3) := by decide +kernel
theorem dd_ca_4 : decode cJ0_charAt_5068e 4 = .ok (.ifCond .eq 12, 3) := by decide +kernel
theorem dd_ca_7 : decode cJ0_charAt_5068e 7 = .ok (.aload_n 0, 1) := by decide +kernel
theorem dd_ca_8 : decode cJ0_charAt_5068e 8 = .ok (.getfield 9, 3) := by decide +kernel
theorem dd_ca_11 : decode cJ0_charAt_5068e 11 = .ok (.iload_n 1, 1) := by decide +kernel
theorem dd_ca_12 : decode cJ0_charAt_5068e 12 = .ok (.invokestatic 495, 3) := by decide +kernel
theorem dd_ca_15 : decode cJ0_charAt_5068e 15 = .ok (.ireturn, 1) := by decide +kernel
set_option maxHeartbeats 4000000 in
theorem zj_ca (l : Launch) (ad adV : Nat → Nat) (sz q j : Nat) (hq : q < 12) (hj : j < (zm_tx.getD q []).length) : Met l yJ0_charAt_5068e (.code yJ0_charAt_5068e cJ0_charAt_5068e 2 (some .char) :: zBT) { frames := 3, cells := 0, slots := 0, locals := 64 } (va_Pc [.ref (ad (1000 + q)), .int (nI j)] (zSp ad adV sz)) (vp_Si (fun r => r = (zm_tx.getD q []).getD j 0)) 0 0 (fun _ => False) := by
  obtain ⟨t1, t2⟩ := zm_tx_ok q hq
  refine Met.ofW (cc := cJ0_charAt_5068e) (maxL := 2) (ret := some .char) (by decide) rfl ?_
  intro p e s m args below meth c s₁ B hml hv
  obtain ⟨rfl, hsz, hG⟩ := hv
  have hx := B.exec
  have hb := B.bytes
  have hr := B.returns
  have hlocks := B.notSynchronized
  have hts0 := atoms_spec (ws := .code yJ0_charAt_5068e cJ0_charAt_5068e 2 (some .char) :: zBT) B.pre
  have hts : ∀ w ∈ zBT, w.before _ s = true := fun w hw => hts0 w (zBT_app _ w hw)
  have hown : s.vm.findClass RJ0 = some m.cls := findClass_of_methodNamed B.named
  subst hsz
  have hS : va_S (fun q => s.heap.size ≤ q) s.heap s.heap [] := va_S.rf
  have hl := lv_entry ([.ref (ad (1000 + q)), .int (nI j)]) (n := 2) (Nat.le_of_ble_eq_true rfl)
  rw [lg_entry_eq]
  generalize (lg_sl ([.ref (ad (1000 + q)), .int (nI j)]) ++ List.replicate (2 - (lg_sl ([.ref (ad (1000 + q)), .int (nI j)])).length) Slot.unset).toArray = ls at hl ⊢
  have hl : lv_has ls 2 [(0, .ref (ad (1000 + q))), (1, .int (nI j))] := hl
  refine lv_aload_n hx hb dd_ca_0 rfl (lv_at hl 0 rfl) ?_
  have cw : CallW (headSpec (.code yJ0_charAt_5068e cJ0_charAt_5068e 2 (some .char) :: zBT) { frames := 3, cells := 0, slots := 0, locals := 64 }).room s [.ref (ad (1000 + q)), .int (nI j)].toArray RJ0 RJ0 492 yJ0_isLatin1_aae02 cJ0_isLatin1_aae02 1 (some .boolean) (.code yJ0_isLatin1_aae02 cJ0_isLatin1_aae02 1 (some .boolean) :: zBT) { frames := 0, cells := 0, slots := 0, locals := 0 } 0 0 0 :=
    ⟨callB_of 0 hts (zBT_goodc wj_la_c) rfl rfl rfl (hts _ wj_l1_i) (hts _ wj_ca_l) (by decide +kernel) ⟨Nat.le_of_ble_eq_true rfl, Nat.le_of_ble_eq_true rfl⟩, hts _ wj_ca_n, hts _ wj_ca_s⟩
  refine vp_callSi (W.runV (b := ad (1000 + q)) (As := []) (rest := []) ⟨hx, hb, hml, hown, hts⟩ (zj_la l ad adV s.heap.size q hq) cw ⟨zSp_blind, vk_recv (adK := fun i => ad (1000 + i)) (i := q) hG.1 hq hS, fun U hU hW => ⟨rfl, by rw [hU], by rw [hU]; exact hG.warm hW⟩⟩ rfl rfl hl.1 rfl (lv_room (Nat.le_of_ble_eq_true rfl)) dd_ca_1 ⟨Nat.zero_le _, Nat.zero_le _⟩) (fun r hr1 => ?_)
  subst hr1
  refine lv_if_eq (tgt := 16) hx hb dd_ca_4 (by decide) (fun z => absurd z (by decide)) (fun _ => ?_)
  refine lv_aload_n hx hb dd_ca_7 rfl (lv_at hl 0 rfl) ?_
  refine vk_getf (v := .ref (adV q)) hx hb (hG.1.1 q hq).2.2.1 hS hown (hts _ wj_0_9) (fun _ h9 => h9) dd_ca_8 ?_
  refine lv_iload_n hx hb dd_ca_11 rfl (lv_at hl 1 rfl) ?_
  have cw2 : CallB (headSpec (.code yJ0_charAt_5068e cJ0_charAt_5068e 2 (some .char) :: zBT) { frames := 3, cells := 0, slots := 0, locals := 64 }).room s [.ref (ad (1000 + q)), .int (nI j)].toArray RJ0 495 yJ1_charAt_3b067 cJ1_charAt_3b067 2 (some .char) (.code yJ1_charAt_3b067 cJ1_charAt_3b067 2 (some .char) :: zBT) { frames := 2, cells := 0, slots := 0, locals := 43 } 0 0 2 ∧ (Cond.static yJ1_charAt_3b067).before [.ref (ad (1000 + q)), .int (nI j)].toArray s = true :=
    ⟨callB_of 2 hts (zBT_goodc wj_l1_c) rfl rfl rfl (hts _ wj_cb_i) (hts _ wj_cb_l) (by decide +kernel) ⟨Nat.le_of_ble_eq_true rfl, Nat.le_of_ble_eq_true rfl⟩, hts _ wj_cb_s⟩
  refine vp_callSi (W.runS (As := [.ref (adV q), .int (nI j)]) (rest := []) ⟨hx, hb, hml, hown, hts⟩ (zj_l1 l ad adV s.heap.size q j hq hj) cw2 ⟨zSp_blind, fun U hU hW => ⟨rfl, by rw [hU], by rw [hU]; exact hG.warm hW⟩⟩ rfl rfl hl.1 rfl (lv_room (Nat.le_of_ble_eq_true rfl)) dd_ca_12 ⟨Nat.zero_le _, Nat.zero_le _⟩) (fun r hr1 => ?_)
  subst hr1
  exact W.zret hx hb hr (t2 j hj).2 (fun t ht hW => ⟨_, rfl, rfl, ht⟩) (fun q hq => by cases hq) dd_ca_15
theorem wj_le_c : Cond.code yJ0_length_8abf5 cJ0_length_8abf5 1 (some .int) ∈ zBT := zBT_in (by decide +kernel) (by decide +kernel)
theorem wj_le_n : Cond.instanceMethod yJ0_length_8abf5 ∈ zBT := zBT_in (by decide +kernel) (by decide +kernel)
theorem wj_le_s : Cond.selects RJ0 yJ0_length_8abf5 yJ0_length_8abf5 ∈ zBT := zBT_in (by decide +kernel) (by decide +kernel)
theorem wj_ch_c : Cond.code yJ0_charAt_5068e cJ0_charAt_5068e 2 (some .char) ∈ zBT := zBT_in (by decide +kernel) (by decide +kernel)
theorem wj_ch_n : Cond.instanceMethod yJ0_charAt_5068e ∈ zBT := zBT_in (by decide +kernel) (by decide +kernel)
theorem wj_ch_s : Cond.selects RJ0 yJ0_charAt_5068e yJ0_charAt_5068e ∈ zBT := zBT_in (by decide +kernel) (by decide +kernel)
section ZS
variable {p : Program} {l : Launch} {e : Env} {R : Room} {s : State} {m : MethodId} {args : Array Value} {below : List Frame} {meth : Method} {c : Code} {Q : State → Prop} {A : Nat → Prop} {D : va_G} {κ : zKp} {ad0 adV : Nat → Nat} {n0 nL : Nat} {own : String} {cc : ByteArray}
variable {P : zP} {C : zC} {Qp : zQ} {pc nx : Nat} {L : zL} {st : List Value} {u : Nat × Nat} {h : zH}
theorem zSp_of {ad : Nat → Nat} {H : Heap} {locs : List Loc} (hA : ∀ q, s.heap.size ≤ q → A q) (hG : zG ad0 adV A s s.heap) (h1 : zAg n0 ad0 ad) (h6 : va_S A s.heap H locs) {U : State} (hU : U.heap = H) (hW : s.WarmedH U.vm) : zSp ad adV H.size U := by
  refine ⟨by rw [hU], ?_⟩
  rw [hU]
  exact (((hG.kept h6.2.1).narrow (fun q hq => hA q (Nat.le_trans h6.1 hq))).warm hW).ag h1
theorem zk_slen (X : zCx p s m args c own cc nL A D κ ad0 adV) (hP : zLe P (zK p l e R s m args below meth c Q A D κ ad0 n0 nL)) {index : Nat} (hd : decode cc pc = .ok (.invokevirtual index, 3)) (hn : nx = pc + 3) (hw1 : Cond.methodLink own index yJ0_length_8abf5 ∈ zBT) (hR : 2 ≤ R.frames ∧ 40 ≤ R.locals)
    (k : zo_slen zm_tx nx P C Qp L st u h) : zK p l e R s m args below meth c Q A D κ ad0 n0 nL pc L st u h := by
  subst hn
  obtain ⟨⟨hx, hb, hml, hown, hts⟩, hK, hA, hG⟩ := X
  intro ad H locs ls h1 h2 h3 h4 h5 h6 h7
  unfold zo_slen at k
  split at k
  · next a r =>
    replace k := zcond k
    obtain ⟨c1, i, rfl, hi, k⟩ := k
    have hi : i < 12 := hi
    have cw : CallW R s args own RJ0 index yJ0_length_8abf5 cJ0_length_8abf5 1 (some .int) (.code yJ0_length_8abf5 cJ0_length_8abf5 1 (some .int) :: zBT) { frames := 1, cells := 0, slots := 0, locals := 20 } 0 0 0 :=
      ⟨callB_of 0 hts (zBT_goodc wj_le_c) rfl rfl rfl (hts _ wj_l1_i) (hts _ hw1) (by decide +kernel) ⟨hR.1, by show 8 + (1 + 11) + 20 ≤ _; omega⟩, hts _ wj_le_n, hts _ wj_le_s⟩
    have e1 : ad (1000 + i) = ad0 (1000 + i) := h1 _ (Or.inr (by omega))
    have hrc := vk_recv (adK := fun i => ad0 (1000 + i)) (i := i) hG.1 hi h6
    refine vp_callSi (W.runV (b := ad (1000 + i)) (As := []) (rest := r.map (zt ad)) ⟨hx, hb, hml, hown, hts⟩ (zj_le l ad adV H.size i hi) cw ⟨zSp_blind, by rw [e1]; exact hrc, fun U hU hW => ⟨rfl, zSp_of hA hG h1 h6 hU hW⟩⟩ rfl rfl h7.2.1 rfl (lv_room (by rw [zm_cat_eq]; exact Nat.le_of_ble_eq_true c1)) hd ⟨h3.2.1, h3.2.2⟩) (fun r1 hr1 => ?_)
    subst hr1
    exact hP _ _ _ _ _ k ad H locs ls h1 h2 h3 h4 h5 h6 h7
  · exact k.elim
theorem zk_sch (X : zCx p s m args c own cc nL A D κ ad0 adV) (hP : zLe P (zK p l e R s m args below meth c Q A D κ ad0 n0 nL)) {index : Nat} (hd : decode cc pc = .ok (.invokevirtual index, 3)) (hn : nx = pc + 3) (hw1 : Cond.methodLink own index yJ0_charAt_5068e ∈ zBT) (hR : 4 ≤ R.frames ∧ 85 ≤ R.locals)
    (k : zo_sch zm_tx nx P C Qp L st u h) : zK p l e R s m args below meth c Q A D κ ad0 n0 nL pc L st u h := by
  subst hn
  obtain ⟨⟨hx, hb, hml, hown, hts⟩, hK, hA, hG⟩ := X
  intro ad H locs ls h1 h2 h3 h4 h5 h6 h7
  unfold zo_sch at k
  split at k
  · next q a r =>
    replace k := zcond k
    obtain ⟨c1, i, j, rfl, hi, hj, rfl, k⟩ := k
    have hi : i < 12 := hi
    have cw : CallW R s args own RJ0 index yJ0_charAt_5068e cJ0_charAt_5068e 2 (some .char) (.code yJ0_charAt_5068e cJ0_charAt_5068e 2 (some .char) :: zBT) { frames := 3, cells := 0, slots := 0, locals := 64 } 0 0 1 :=
      ⟨callB_of 1 hts (zBT_goodc wj_ch_c) rfl rfl rfl (hts _ wj_l1_i) (hts _ hw1) (by decide +kernel) ⟨hR.1, by show 8 + (2 + 11) + 64 ≤ _; omega⟩, hts _ wj_ch_n, hts _ wj_ch_s⟩
    have e1 : ad (1000 + i) = ad0 (1000 + i) := h1 _ (Or.inr (by omega))
    have hrc := vk_recv (adK := fun i => ad0 (1000 + i)) (i := i) hG.1 hi h6
    refine vp_callSi (W.runV (b := ad (1000 + i)) (As := [.int (nI j)]) (rest := r.map (zt ad)) ⟨hx, hb, hml, hown, hts⟩ (zj_ca l ad adV H.size i j hi hj) cw ⟨zSp_blind, by rw [e1]; exact hrc, fun U hU hW => ⟨rfl, zSp_of hA hG h1 h6 hU hW⟩⟩ rfl rfl h7.2.1 rfl (lv_room (by rw [zm_cat_eq]; exact Nat.le_of_ble_eq_true c1)) hd ⟨h3.2.1, h3.2.2⟩) (fun r1 hr1 => ?_)
    subst hr1
    exact hP _ _ _ _ _ k ad H locs ls h1 h2 h3 h4 h5 h6 h7
  · exact k.elim
end ZS
