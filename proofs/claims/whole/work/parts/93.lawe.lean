/-! THE LAW'S ENTRY: what the Statement gives; the law comes to its end -/
theorem zll_if {l : Launch} {b n : Nat} {xs : Nat → Int32} {q : Bool} {T U : zT} (h1 : zLl l b n xs T) (h2 : zLl l b n xs U) : zLl l b n xs (cond q T U) := by cases q <;> assumption
theorem sl_all (l : Launch) (b n : Nat) (xs : Nat → Int32) (c : Nat) : zLl l b n xs (tl_tab xs n c) := by
  unfold tl_tab
  exact (zll_if (sl_0 l b n xs) (zll_if (sl_1 l b n xs) (zll_if (sl_2 l b n xs) (zll_if (sl_3 l b n xs) (zll_if (sl_4 l b n xs) (zll_if (sl_5 l b n xs) (zll_if (sl_6 l b n xs) (zll_if (sl_7 l b n xs) (zll_if (sl_8 l b n xs) (zll_if (sl_9 l b n xs) (zll_if (sl_10 l b n xs) (zll_if (sl_11 l b n xs) (zll_if (sl_12 l b n xs) (zll_if (sl_13 l b n xs) (zll_if (sl_14 l b n xs) (zll_if (sl_15 l b n xs) (zll_if (sl_16 l b n xs) (zll_if (sl_17 l b n xs) (zll_if (sl_18 l b n xs) (zll_if (sl_19 l b n xs) (zll_if (sl_20 l b n xs) (zll_if (sl_21 l b n xs) (zll_if (sl_22 l b n xs) (zll_if (sl_23 l b n xs) (zll_if (sl_24 l b n xs) (zll_if (sl_25 l b n xs) (zll_if (sl_26 l b n xs) (zll_if (sl_27 l b n xs) (zll_if (sl_28 l b n xs) (zll_if (sl_29 l b n xs) (zll_if (sl_30 l b n xs) (zll_if (sl_31 l b n xs) (zll_if (sl_32 l b n xs) (zll_if (sl_33 l b n xs) (zll_if (sl_34 l b n xs) (zll_if (sl_35 l b n xs) (zll_if (sl_36 l b n xs) (sl_37 l b n xs))))))))))))))))))))))))))))))))))))))
abbrev le_c : Cond := Jvm.Cond.and given_1 narrow_1
def zm_tm (i : Nat) : Term := Term.string (zm_ow i).1 (zm_ow i).2.1
theorem le_hex : ∀ i, i < 12 → Cond.exactly (zm_tm i) "java/lang/String" ∈ flatC le_c := by decide +kernel
theorem le_co : ∀ i, i < 12 → Cond.eq (.field (zm_tm i) "java/lang/String" "coder" "B") (.int 0) ∈ flatC le_c := by decide +kernel
theorem le_ar : ∀ i, i < 12 → Cond.arrayOf (.field (zm_tm i) "java/lang/String" "value" "[B") .byte ∈ flatC le_c := by decide +kernel
theorem le_le : ∀ i, i < 12 → Cond.eq (.length (.field (zm_tm i) "java/lang/String" "value" "[B")) (.int (Int32.ofNat (zm_ln.getD i 0))) ∈ flatC le_c := by decide +kernel
theorem le_el : ∀ i, i < 12 → ∀ j, j < zm_ln.getD i 0 → Cond.eq (.elem (.field (zm_tm i) "java/lang/String" "value" "[B") (.int (Int32.ofNat j))) (.int ((zm_tx.getD i []).getD j 0)) ∈ flatC le_c := by decide +kernel
theorem le_ne : ∀ i, i < 12 → ∀ j, j < 12 → i ≠ j → Cond.not (Cond.eq (zm_tm i) (zm_tm j)) ∈ flatC le_c ∨ Cond.not (Cond.eq (zm_tm j) (zm_tm i)) ∈ flatC le_c := by decide +kernel
theorem le_ab : ∀ j, j < 6 → Cond.eq (.elem (.static "PooledInlaws$Kinds" "ABOVE" "[I") (.int (Int32.ofNat j))) (.int (zm_ab.getD j 0)) ∈ flatC le_c := by decide +kernel
theorem le_sr : ∀ i, i < 12 → Cond.stringRef (zm_ow i).1 (zm_ow i).2.1 (zm_ow i).2.2 ∈ lw_tbl := by decide +kernel
theorem vk_S_ext {N : Nat} {len : List Nat} {byt : List (List Int32)} {f g adV : Nat → Nat} {A : Nat → Prop} {U : State} {H : Heap} (h : ∀ i, i < N → f i = g i) (hS : vk_S N len byt g adV A U H) : vk_S N len byt f adV A U H :=
  ⟨fun i hi => by rw [h i hi]; exact hS.1 i hi, fun i j hi hj e => hS.2 i j hi hj (by rw [← h i hi, ← h j hj]; exact e)⟩
theorem le_G {s : State} {b : Nat} (hts : ∀ w ∈ lw_tbl, w.before #[Value.ref b] s = true) (hgv : le_c.before #[Value.ref b] s = true) : ∃ ad adV : Nat → Nat, ad 3000 = b ∧ zG ad adV (fun q => s.heap.size ≤ q) s s.heap := by
  have hs := flat_of_before _ hgv
  have hA : ∀ a : Nat, a < s.heap.size → ¬ (fun q => s.heap.size ≤ q) a := fun a h => Nat.not_le.mpr h
  obtain ⟨adK, adV, hS, hE⟩ := vk_Sof (args := #[Value.ref b]) (s := s) (N := 12) (tm := zm_tm) (len := zm_ln) (byt := zm_tx) (A := fun q => s.heap.size ≤ q) (by decide) (fun i hi => hs _ (le_hex i hi)) (fun i hi => hs _ (le_co i hi)) (fun i hi => hs _ (le_ar i hi)) (fun i hi => hs _ (le_le i hi)) (fun i hi j hj => hs _ (le_el i hi j hj)) (fun i j hi hj hij => (le_ne i hi j hj hij).elim (fun h => Or.inl (hs _ h)) (fun h => Or.inr (hs _ h))) hA
  obtain ⟨t, ht, hT⟩ := va_Tof (args := #[Value.ref b]) (s := s) (tm := Term.static "PooledInlaws$Kinds" "ABOVE" "[I") (ty := .int) (N := 6) (f := fun j => .int (zm_ab.getD j 0)) (A := fun q => s.heap.size ≤ q) (by decide) (hs _ (by decide +kernel)) (va_eqt (hs _ (by decide +kernel))) (fun j hj => va_eqt (hs _ (le_ab j hj))) hA
  have h1 := va_Zof (C := "java/lang/String") (n := "COMPACT_STRINGS") (d := "Z") (v := .int 1) (A := fun q => s.heap.size ≤ q) (hts _ (by decide +kernel)) (hts _ (by decide +kernel)) (va_eqt (hs _ (by decide +kernel))) hA
  have h2 := va_Zqof (C := "jdk/internal/util/Preconditions") (n := "SIOOBE_FORMATTER") (d := "Ljava/util/function/BiFunction;") (A := fun q => s.heap.size ≤ q) (hts _ (by decide +kernel)) (hts _ (by decide +kernel)) (hs _ (by decide +kernel)) hA
  have h3 := va_Zof (C := "PooledInlaws$Kinds") (n := "ABOVE") (d := "[I") (v := .ref t) (A := fun q => s.heap.size ≤ q) (hts _ (by decide +kernel)) (hts _ (by decide +kernel)) ht hA
  have e1 : ∀ i, i < 12 → (if 1000 + i = 2000 then t else if 1000 + i = 3000 then b else adK (1000 + i - 1000)) = adK i := by
    intro i hi
    rw [if_neg (by omega), if_neg (by omega), show 1000 + i - 1000 = i by omega]
  refine ⟨fun k => if k = 2000 then t else if k = 3000 then b else adK (k - 1000), adV, rfl, vk_S_ext e1 hS, h1, h2, h3, hT, va_AO.of (hts _ (by decide +kernel)), fun i hi => ?_⟩
  show vk_R _ _ _ (if 1000 + i = 2000 then t else if 1000 + i = 3000 then b else adK (1000 + i - 1000)) s
  rw [e1 i hi]
  exact vk_R.of (hts _ (le_sr i hi)) (hE i hi)
theorem le_K {s : State} {b : Nat} (hts : ∀ w ∈ lw_tbl, w.before #[Value.ref b] s = true) : ∃ (D : va_G) (κ : zKp), va_K D vwCl (zty κ) s := by
  have hts' : ∀ w ∈ zBT, w.before #[Value.ref b] s = true := fun w hw => hts w (List.mem_filter.mp hw).1
  obtain ⟨c0, i0, k0⟩ := u_known (C := RX0) (T := TX0) (N := 14) (n := 14) hts' uw_X0 (hts' _ wi_X0)
  obtain ⟨c1, i1, k1⟩ := u_known (C := RX2) (T := TX2) (N := 3) (n := 3) hts' uw_X2 (hts' _ wi_X2)
  obtain ⟨c2, i2, k2⟩ := u_known (C := RX3) (T := TX3) (N := 6) (n := 6) hts' uw_X3 (hts' _ wi_X3)
  obtain ⟨c3, i3, k3⟩ := u_known (C := RX4) (T := TX4) (N := 7) (n := 7) hts' uw_X4 (hts' _ wi_X4)
  obtain ⟨c4, i4, k4⟩ := u_known (C := RX5) (T := TX5) (N := 17) (n := 17) hts' uw_X5 (hts' _ wi_X5)
  obtain ⟨dI, kI, pI, f1, f2, f3⟩ := Cond.arrayClass_spec (hts' _ wa_int)
  obtain ⟨dL, kL, pL, g1, g2, g3⟩ := Cond.arrayClass_spec (hts' _ wa_long)
  obtain ⟨pQ, dQ, kQ, q1, -, q2, q3, q4⟩ := Cond.arrayOver_spec (n := RX2) (hts (.arrayOver (.object RX2)) (by decide +kernel))
  refine ⟨(fun k => if k = 0 then c0 else if k = 1 then c1 else if k = 2 then c2 else if k = 3 then c3 else c4, fun k => if k = 0 then i0 else if k = 1 then i1 else if k = 2 then i2 else if k = 3 then i3 else i4), (dI, dL, dQ), ?_, ?_⟩
  · intro k q hq
    match k, hq with
    | 0, hq => cases hq; exact k0
    | 1, hq => cases hq; exact k1
    | 2, hq => cases hq; exact k2
    | 3, hq => cases hq; exact k3
    | 4, hq => cases hq; exact k4
    | k + 5, hq => simp [vwCl] at hq
  · intro k q hq
    match k, hq with
    | 0, hq => cases hq; exact ⟨fun n z => ⟨fun k h => (by cases h), kI, f2, pI, f3⟩, f1⟩
    | 1, hq => cases hq; exact ⟨fun n z => ⟨fun k h => (by cases h), kL, g2, pL, g3⟩, g1⟩
    | 2, hq => cases hq; exact ⟨fun n z => ⟨fun k h => (by cases h), kQ, q2, pQ, q3⟩, kQ, pQ, q2, q3, q1, q4⟩
    | k + 3, hq => simp [zty] at hq
theorem whole_start {p : Program} {e : Env} {s : State} {m : MethodId} {below : List Frame} {meth : Method} {c : Code} (l : Launch) (hflags : l.flags = flags0) {b L : Nat} {xs : Nat → Int32} (hL : L ≤ 3072) (C0 : lw_At p s m meth c b L xs) : W p l e room_1 s m #[Value.ref b] below meth c s.heap [] 0 0 (lw_Z below #[Value.ref b] s) (entryFrame m ([Value.ref b] : List Value).toArray 4) := by
  obtain ⟨hx, hb, hr, hml, hown, hts, hX, hbl, hlocks, hgv⟩ := C0
  obtain ⟨ad, adV, had, hG⟩ := le_G hts hgv
  obtain ⟨D, κ, hK⟩ := le_K hts
  have hts' : ∀ w ∈ zBT, w.before #[Value.ref b] s = true := fun w hw => hts w (List.mem_filter.mp hw).1
  have X : zCx p s m #[Value.ref b] c R_law code 4 (fun q => s.heap.size ≤ q) D κ ad adV := ⟨⟨hx, hb, hml, hown, hts'⟩, hK, fun _ h => h, hG⟩
  have hLw : zLw xs L (zsm l) (zKl l b p e s m below meth c D κ ad) := by
    intro c' P hP pc L' st u h k
    obtain ⟨o, h1, h2⟩ := zm_lk_mem k
    exact sl_all l b L xs c' (pc, o) h1 p e s m below meth c D κ ad adV P L' st u h X hr hlocks hX hbl had hL hP h2
  have k := la_start (z_closed l) hLw hL
  have ee : ([Value.ref 3000] : List Value).map (zt ad) = [Value.ref b] := by
    show [Value.ref (ad 3000)] = [Value.ref b]
    rw [had]
  have hl := zLs_entry ad [Value.ref 3000] (n := 4) (by rw [ee]; exact Nat.le_of_ble_eq_true rfl)
  rw [ee] at hl
  rw [lg_entry_eq]
  exact k ad s.heap [] _ (fun _ _ => rfl) (fun _ => rfl) ⟨Nat.zero_le _, Nat.zero_le _, Nat.zero_le _⟩ (fun k q h => by simp [zW] at h) ⟨fun i j p q h => by simp [zW] at h, fun k q h => by simp [zW] at h⟩ va_S.rf hl
