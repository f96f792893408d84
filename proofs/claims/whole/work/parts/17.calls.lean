/-! CALLS: a contract is used -/
section ZC
variable {p : Program} {l : Launch} {e : Env} {R : Room} {s : State} {m : MethodId} {args : Array Value} {below : List Frame} {meth : Method} {c : Code} {Q : State → Prop} {A : Nat → Prop} {D : va_G} {κ : zKp} {ad0 adV : Nat → Nat} {n0 nL : Nat} {own : String} {cc : ByteArray}
variable {P : zP} {Qp : zQ} {pc nx : Nat} {L : zL} {st : List Value} {u : Nat × Nat} {h : zH}
theorem zk_run {mc ms : Nat} {ad : Nat → Nat} {H : Heap} {locs : List Loc} {st0 rest : List Value} {a : Array Value} {ls : Array Slot} {Qc : zQ} (hr : va_Run p l e R s m args below meth c H locs u.1 u.2 mc ms (F0 m pc ls st0) rest (zPost D κ ad h H.size mc Qc a) (va_A (zW κ ad h) H.size))
    (hS : va_S A s.heap H locs) (hF : ∀ q, va_A (zW κ ad h) H.size q → A q)
    (kk : ∀ (r : Option Value) (h' : zH) (ad' : Nat → Nat) (H1 : Heap) (locs1 : List Loc), Qc r h' → zAg h.length ad ad' → (mc = 0 → ad' = ad) → h.length ≤ h'.length → va_P D vwCl (zW κ ad' h') H1 → va_D A (zW κ ad' h') → va_S A s.heap H1 locs1 → W p l e R s m args below meth c H1 locs1 (u.1 + mc) (u.2 + ms) Q (F0 m (pc + 3) ls ((r.map (zt ad')).toList ++ rest))) :
    W p l e R s m args below meth c H locs u.1 u.2 Q (F0 m pc ls st0) := by
  intro T hT X
  obtain ⟨v, st₀, t, T', L', g0, X', hL, e1, e2, ⟨⟨r, h', ad', hv, hq, a1, a2, a3, a4, a5, a6⟩, hz, hk⟩, stp⟩ := hr T hT X
  cases hv
  rw [g0] at hz hk
  obtain ⟨t2, b1, b2⟩ := kk r h' ad' T'.heap (locs ++ L') hq a1 a2 a3 (by rw [e1]; exact a4) (a6.weaken (fun k q _ z => hF q.1 z))
    ⟨Nat.le_trans hS.1 (by rw [e1]; exact hz), fun q g1 g2 => by rw [e1, hk q (Nat.lt_of_lt_of_le g1 hS.1) (fun z => g2 (hF q z))]; exact hS.2.1 q g1 g2, fun q hq => by
      rcases List.mem_append.mp hq with z | z
      · exact hS.2.2 q z
      · exact hF _ (hL q z)⟩ T' rfl X'
  exact ⟨t2, stp t2 b1, b2⟩
theorem zPc_blind {av : List Value} {ad : Nat → Nat} {sz : Nat} : FrameBlind (va_Pc av (zPre D κ ad adV h sz)) := by
  intro a U g mk q
  obtain ⟨q0, q1, q2, q3, q4, q5⟩ := q
  exact ⟨q0, q1, q2, va_K.moved (u := U) (U := U.calling g mk a) (Vm.Alike.refl U.vm) q3, q4, q5.same rfl⟩
theorem zPre_of {ad : Nat → Nat} {H : Heap} {locs : List Loc} (hK : va_K D vwCl (zty κ) s) (hG : zG ad0 adV A s s.heap) (h1 : zAg n0 ad0 ad) (h4 : va_P D vwCl (zW κ ad h) H) (h5 : va_D A (zW κ ad h)) (h6 : va_S A s.heap H locs) (hF : ∀ q, va_A (zW κ ad h) H.size q → A q) {U : State} (hU : U.heap = H) (hW : s.WarmedH U.vm) : zPre D κ ad adV h H.size U := by
  refine ⟨by rw [hU], by rw [hU]; exact h4, va_K.moved hW.alike hK, h5.weaken (fun _ _ _ _ => trivial), ?_⟩
  rw [hU]
  exact (((hG.kept h6.2.1).narrow hF).warm hW).ag h1
theorem zF_of {ad : Nat → Nat} {H : Heap} {locs : List Loc} (hA : ∀ q, s.heap.size ≤ q → A q) (h5 : va_D A (zW κ ad h)) (h6 : va_S A s.heap H locs) : ∀ q, va_A (zW κ ad h) H.size q → A q := by
  intro q hq
  rcases hq with ⟨k, e, hk⟩ | hq
  · exact h5.2 k (q, e) hk
  · exact hA q (Nat.le_trans h6.1 hq)
theorem zm_pu_eq (ad : Nat → Nat) (v : Option Value) (r : List Value) : (zm_pu v r).map (zt ad) = (v.map (zt ad)).toList ++ r.map (zt ad) := by cases v <;> rfl
theorem zk_cs (X : zCx p s m args c own cc nL A D κ ad0 adV) (hP : zLe P (zK p l e R s m args below meth c Q A D κ ad0 n0 nL)) {M n index : Nat} (hd : decode cc pc = .ok (.invokestatic index, 3)) (hn : nx = pc + 3) (hM : zMok M n) (hw1 : Cond.methodLink own index (zy M) ∈ zBT) (hw2 : Cond.static (zy M) ∈ zBT) (hz : zmc M = 0 ∧ zms M = 0)
    (hR : (zrm M).frames + 1 ≤ R.frames ∧ 8 + (zm_nl M + 11) + (zrm M).locals ≤ R.locals) (k : zo_cs M n nx P (zsm l) Qp L st u h) : zK p l e R s m args below meth c Q A D κ ad0 n0 nL pc L st u h := by
  subst hn
  obtain ⟨⟨hx, hb, hml, hown, hts⟩, hK, hA, hG⟩ := X
  intro ad H locs ls h1 h2 h3 h4 h5 h6 h7
  unfold zo_cs at k
  split at k
  · next as r hsp =>
    replace k := zcond k
    obtain ⟨c1, k⟩ := k
    obtain ⟨g1, g2⟩ := zm_sp_eq hsp
    have hF := zF_of hA h5 h6
    have cw : CallB R s args own index (zy M) (zcc M) (zm_nl M) (zrt M) (zwd M) (zrm M) (zmc M) (zms M) n ∧ (Cond.static (zy M)).before args s = true :=
      ⟨callB_of (ws' := zBT) n hts (zwd_good hM) rfl rfl rfl (hts _ hM.2.1) (hts _ hw1) ⟨hM.2.2.1.1, hM.2.2.1.2, hM.2.2.2⟩ hR, hts _ hw2⟩
    have hr := va_runS (l := l) (e := e) (below := below) (meth := meth) (locs := locs) (cells := u.1) (slots := u.2) (As := as.map (zt ad)) (rest := r.map (zt ad)) (g := F0 m pc ls (st.map (zt ad))) ⟨hx, hb, hml, hown, hts⟩ (k D κ ad adV H.size) cw ⟨zPc_blind, fun U hU hW => ⟨rfl, zPre_of hK hG h1 h4 h5 h6 hF hU hW⟩⟩ rfl (by rw [List.length_map, g2]; simp) h7.2.1
      (by show st.map (zt ad) = _; rw [← List.map_reverse, ← List.map_append, g1]; rfl) (lv_room (rest := st.map (zt ad)) (by rw [zm_cat_eq]; exact Nat.le_of_ble_eq_true c1)) hd (by rw [hz.1, hz.2]; exact h3.2)
    refine zk_run hr h6 hF (fun v h' ad' H1 locs1 q1 q2 q3 q4 q5 q6 q7 => ?_)
    have := q3 hz.1
    subst this
    rw [← zm_pu_eq, hz.1, hz.2]
    exact hP _ _ _ _ _ q1 ad' H1 locs1 ls h1 h2 ⟨Nat.le_trans h3.1 q4, h3.2⟩ q5 q6 q7 h7
  · exact k.elim
theorem zk_cv (X : zCx p s m args c own cc nL A D κ ad0 adV) (hP : zLe P (zK p l e R s m args below meth c Q A D κ ad0 n0 nL)) {ci M n index : Nat} {qc : vw_C} (hd : decode cc pc = .ok (.invokevirtual index, 3)) (hn : nx = pc + 3) (hM : zMok M n) (hc : vwCl[ci]? = some qc) (hw1 : Cond.methodLink own index (zy M) ∈ zBT) (hw2 : Cond.instanceMethod (zy M) ∈ zBT) (hw3 : Cond.selects qc.1 (zy M) (zy M) ∈ zBT) (hz : zmc M = 0 ∧ zms M = 0)
    (hR : (zrm M).frames + 1 ≤ R.frames ∧ 8 + (zm_nl M + 11) + (zrm M).locals ≤ R.locals) (k : zo_cv ci M n nx P (zsm l) Qp L st u h) : zK p l e R s m args below meth c Q A D κ ad0 n0 nL pc L st u h := by
  subst hn
  obtain ⟨⟨hx, hb, hml, hown, hts⟩, hK, hA, hG⟩ := X
  intro ad H locs ls h1 h2 h3 h4 h5 h6 h7
  unfold zo_cv at k
  split at k
  · next as a r hsp =>
    split at k
    · next c1 fs hg =>
      replace k := zcond k
      obtain ⟨c2, k⟩ := k
      have := Nat.eq_of_beq_eq_true c2
      subst this
      replace k := zcond k
      obtain ⟨c3, k⟩ := k
      obtain ⟨g1, g2⟩ := zm_sp_eq hsp
      have hF := zF_of hA h5 h6
      have cw : CallW R s args own qc.1 index (zy M) (zcc M) (zm_nl M) (zrt M) (zwd M) (zrm M) (zmc M) (zms M) n :=
        ⟨callB_of (ws' := zBT) n hts (zwd_good hM) rfl rfl rfl (hts _ hM.2.1) (hts _ hw1) ⟨hM.2.2.1.1, hM.2.2.1.2, hM.2.2.2⟩ hR, hts _ hw2, hts _ hw3⟩
      have hr := va_runV (l := l) (e := e) (below := below) (meth := meth) (locs := locs) (cells := u.1) (slots := u.2) (b := ad a) (As := as.map (zt ad)) (rest := r.map (zt ad)) (g := F0 m pc ls (st.map (zt ad))) ⟨hx, hb, hml, hown, hts⟩ (k D κ ad adV H.size) cw ⟨zPc_blind, va_recv hK h4 hc (zW_at hg), fun U hU hW => ⟨rfl, zPre_of hK hG h1 h4 h5 h6 hF hU hW⟩⟩ rfl (by rw [List.length_map, g2]; simp) h7.2.1
        (by show st.map (zt ad) = _; rw [show Value.ref (ad a) :: r.map (zt ad) = (Value.ref a :: r).map (zt ad) from rfl, ← List.map_reverse, ← List.map_append, g1]; rfl) (lv_room (rest := st.map (zt ad)) (by rw [zm_cat_eq]; exact Nat.le_of_ble_eq_true c3)) hd (by rw [hz.1, hz.2]; exact h3.2)
      refine zk_run hr h6 hF (fun v h' ad' H1 locs1 q1 q2 q3 q4 q5 q6 q7 => ?_)
      have := q3 hz.1
      subst this
      rw [← zm_pu_eq, hz.1, hz.2]
      exact hP _ _ _ _ _ q1 ad' H1 locs1 ls h1 h2 ⟨Nat.le_trans h3.1 q4, h3.2⟩ q5 q6 q7 h7
    · exact k.elim
  · exact k.elim
theorem zk_ci (X : zCx p s m args c own cc nL A D κ ad0 adV) (hP : zLe P (zK p l e R s m args below meth c Q A D κ ad0 n0 nL)) {M n index mc ms cmc cms : Nat} (hd : decode cc pc = .ok (.invokespecial index, 3)) (hn : nx = pc + 3) (hM : zMok M n) (hi : (zy M).name = "<init>") (hrt : zrt M = none) (hw1 : Cond.methodLink own index (zy M) ∈ zBT) (hw2 : Cond.instanceMethod (zy M) ∈ zBT) (hz : zmc M = mc ∧ zms M = ms)
    (hRm : cmc ≤ R.cells ∧ cms ≤ R.slots) (hR : (zrm M).frames + 1 ≤ R.frames ∧ 8 + (zm_nl M + 11) + (zrm M).locals ≤ R.locals) (k : zo_ci M n mc ms cmc cms nx P (zsm l) Qp L st u h) : zK p l e R s m args below meth c Q A D κ ad0 n0 nL pc L st u h := by
  subst hn
  obtain ⟨rfl, rfl⟩ := hz
  obtain ⟨⟨hx, hb, hml, hown, hts⟩, hK, hA, hG⟩ := X
  intro ad H locs ls h1 h2 h3 h4 h5 h6 h7
  unfold zo_ci at k
  split at k
  · next as a r hsp =>
    replace k := zcond k
    obtain ⟨c3, hs, k⟩ := k
    obtain ⟨hs, hu1, hu2⟩ := zm_al_of hs
    obtain ⟨s1, s2, s3, s4⟩ := zm_sc_of hs
    obtain ⟨g1, g2⟩ := zm_sp_eq hsp
    have hF := zF_of hA h5 h6
    have cw : CallB R s args own index (zy M) (zcc M) (zm_nl M) none (zwd M) (zrm M) (zmc M) (zms M) n ∧ (zy M).name = "<init>" ∧ (Cond.instanceMethod (zy M)).before args s = true :=
      ⟨callB_of (ws' := zBT) n hts (zwd_good hM) (by unfold zwd; rw [hrt]) rfl rfl (hts _ hM.2.1) (hts _ hw1) ⟨hM.2.2.1.1, hM.2.2.1.2, hM.2.2.2⟩ hR, hi, hts _ hw2⟩
    have hr := va_runI (l := l) (e := e) (below := below) (meth := meth) (locs := locs) (cells := u.1) (slots := u.2) (b := ad a) (As := as.map (zt ad)) (rest := r.map (zt ad)) (g := F0 m pc ls (st.map (zt ad))) ⟨hx, hb, hml, hown, hts⟩ (k D κ ad adV H.size) cw ⟨zPc_blind, fun U hU hW => ⟨rfl, zPre_of hK hG h1 h4 h5 h6 hF hU hW⟩⟩ rfl (by rw [List.length_map, g2]; simp) h7.2.1
      (by show st.map (zt ad) = _; rw [show Value.ref (ad a) :: r.map (zt ad) = (Value.ref a :: r).map (zt ad) from rfl, ← List.map_reverse, ← List.map_append, g1]; rfl) (lv_room (rest := st.map (zt ad)) (by rw [zm_cat_eq]; exact Nat.le_of_ble_eq_true c3)) hd ⟨Nat.le_trans hu1 hRm.1, Nat.le_trans hu2 hRm.2⟩
    refine zk_run hr h6 hF (fun v h' ad' H1 locs1 q1 q2 q3 q4 q5 q6 q7 => ?_)
    rw [← zm_oks_ag q2 s4, ← zm_pu_eq]
    exact hP _ _ _ _ _ q1 ad' H1 locs1 ls (h1.trans q2 h3.1) (fun z => by
      have z : u.1 + zmc M = 0 := z
      rw [q3 (by omega)]; exact h2 (by omega)) ⟨Nat.le_trans h3.1 q4, Nat.le_trans hu1 hRm.1, Nat.le_trans hu2 hRm.2⟩ q5 q6 q7 (h7.ag q2 s3)
  · exact k.elim
end ZC
