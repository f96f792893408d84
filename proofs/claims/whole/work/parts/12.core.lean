/-! THE SMALL MACHINE AND THE MACHINE: places are addresses, by a map; the world of cells -/
def zt (ad : Nat → Nat) : Value → Value
  | .ref k => .ref (ad k)
  | v => v
theorem zt_cat (ad : Nat → Nat) (v : Value) : (zt ad v).category = v.category := by cases v <;> rfl
abbrev zKp : Type := ClassId × ClassId × ClassId
def ze (κ : zKp) (ad : Nat → Nat) : va_E → va_E
  | .inl (_, n, .inl f) => .inl (κ.1, n, .inl f)
  | .inl (_, n, .inr (.inl f)) => .inl (κ.2.1, n, .inr (.inl f))
  | .inl (c, n, .inr (.inr (.inl f))) => .inl (c, n, .inr (.inr (.inl f)))
  | .inl (c, n, .inr (.inr (.inr (.inl f)))) => .inl (c, n, .inr (.inr (.inr (.inl f))))
  | .inl (_, n, .inr (.inr (.inr (.inr f)))) => .inl (κ.2.2, n, .inr (.inr (.inr (.inr (fun j => (f j).map ad)))))
  | .inr (ci, fs) => .inr (ci, fs.map (zt ad))
def zW (κ : zKp) (ad : Nat → Nat) (h : zH) : va_W := h.mapIdx (fun k e => (ad k, ze κ ad e))
theorem zW_at {κ : zKp} {ad : Nat → Nat} {h : zH} {k : Nat} {e : va_E} (hk : zm_g h k = some e) : (zW κ ad h)[k]? = some (ad k, ze κ ad e) := by
  rw [zm_g_eq] at hk
  simp [zW, List.getElem?_mapIdx, hk]
theorem zW_len (κ : zKp) (ad : Nat → Nat) (h : zH) : (zW κ ad h).length = h.length := by simp [zW]
theorem zW_get {κ : zKp} {ad : Nat → Nat} {h : zH} {k : Nat} {q : Nat × va_E} (hk : (zW κ ad h)[k]? = some q) : ∃ e, h[k]? = some e ∧ q = (ad k, ze κ ad e) := by
  simp only [zW, List.getElem?_mapIdx, Option.map_eq_some_iff] at hk
  obtain ⟨e, h1, h2⟩ := hk
  exact ⟨e, h1, h2.symm⟩
theorem zW_set (κ : zKp) (ad : Nat → Nat) (h : zH) (k : Nat) (e : va_E) : zW κ ad (h.set k e) = (zW κ ad h).set k (ad k, ze κ ad e) := by
  apply List.ext_getElem?
  intro i
  simp only [zW, List.getElem?_mapIdx, List.getElem?_set, List.length_mapIdx]
  by_cases hk : k = i
  · subst hk
    by_cases hl : k < h.length
    · simp [hl]
    · simp [hl]
  · simp [hk]
theorem zD_fst {A : Nat → Prop} {ws ws' : va_W} (hf : ws.map Prod.fst = ws'.map Prod.fst) (hD : va_D A ws) : va_D A ws' := by
  have key : ∀ (k : Nat) (q : Nat × va_E), ws'[k]? = some q → ∃ q0, ws[k]? = some q0 ∧ q0.1 = q.1 := by
    intro k q hk
    have h1 : (ws'.map Prod.fst)[k]? = some q.1 := by rw [List.getElem?_map, hk]; rfl
    rw [← hf, List.getElem?_map, Option.map_eq_some_iff] at h1
    exact h1
  refine ⟨fun i j x y hi hj hxy => ?_, fun k q hk => ?_⟩
  · obtain ⟨x0, a1, a2⟩ := key i x hi
    obtain ⟨y0, b1, b2⟩ := key j y hj
    exact hD.1 i j x0 y0 a1 b1 (a2.trans (hxy.trans b2.symm))
  · obtain ⟨q0, a1, a2⟩ := key k q hk
    rw [← a2]
    exact hD.2 k q0 a1
theorem zW_fst (κ : zKp) (ad : Nat → Nat) (h : zH) : (zW κ ad h).map Prod.fst = (List.range h.length).map ad := by
  apply List.ext_getElem?
  intro i
  simp only [zW, List.getElem?_map, List.getElem?_mapIdx, List.getElem?_range']
  by_cases hl : i < h.length
  · rw [List.getElem?_eq_getElem hl]
    simp [List.getElem?_range hl]
  · rw [List.getElem?_eq_none (by omega), List.getElem?_eq_none (by simpa using hl)]
    rfl
/-- the same cells -/
theorem zm_eH_get : ∀ {h h' : zH}, zm_eH h h' → h.length = h'.length ∧ ∀ (k : Nat) (e' : va_E), h'[k]? = some e' → ∃ e, h[k]? = some e ∧ zm_eA e e'
  | [], [], _ => ⟨rfl, fun k e' hk => by simp at hk⟩
  | [], _ :: _, he => he.elim
  | _ :: _, [], he => he.elim
  | a :: l, b :: m, he => by
    obtain ⟨h1, h2⟩ := he
    obtain ⟨g1, g2⟩ := zm_eH_get h2
    refine ⟨by simp [g1], fun k e' hk => ?_⟩
    cases k with
    | zero => simp at hk; subst hk; exact ⟨a, rfl, h1⟩
    | succ k => simp only [List.getElem?_cons_succ] at hk ⊢; exact g2 k e' hk
theorem arrV_cong {c : ClassId} {n : Nat} {f g : Nat → Value} (h : ∀ j, j < n → f j = g j) : arrV c n f = arrV c n g := by
  unfold arrV
  congr 1
  have : (fun j : Fin n => f j.val) = fun j : Fin n => g j.val := funext fun j => h j.val j.isLt
  rw [this]
theorem ze_same {κ : zKp} {ad : Nat → Nat} {D : va_G} {cl : List vw_C} {a : Nat} {e e' : va_E} {H : Heap} (he : zm_eA e e') (h : va_at D cl (a, ze κ ad e) H) : va_at D cl (a, ze κ ad e') H := by
  rcases he with rfl | ⟨c, n, f, g, rfl, rfl, hfg⟩ | ⟨c, n, f, g, rfl, rfl, hfg⟩
  · exact h
  · have h1 : H[a]? = some (arrV κ.1 n (fun j => .int (f j))) := h
    show H[a]? = some (arrV κ.1 n (fun j => .int (g j)))
    rw [h1, arrV_cong (fun j hj => by rw [hfg j hj])]
  · have h1 : H[a]? = some (arrV κ.2.1 n (fun j => .long (f j))) := h
    show H[a]? = some (arrV κ.2.1 n (fun j => .long (g j)))
    rw [h1, arrV_cong (fun j hj => by rw [hfg j hj])]
theorem zP_same {κ : zKp} {ad : Nat → Nat} {D : va_G} {cl : List vw_C} {h h' : zH} {H : Heap} (he : zm_eH h h') (hP : va_P D cl (zW κ ad h) H) : va_P D cl (zW κ ad h') H := by
  obtain ⟨-, g2⟩ := zm_eH_get he
  intro k q hk
  obtain ⟨e', h1, rfl⟩ := zW_get hk
  obtain ⟨e, h2, h3⟩ := g2 k e' h1
  exact ze_same h3 (hP k (ad k, ze κ ad e) (zW_at (by rw [zm_g_eq]; exact h2)))
theorem zD_len {A : Nat → Prop} {κ κ' : zKp} {ad : Nat → Nat} {h h' : zH} (he : h.length = h'.length) (hD : va_D A (zW κ ad h)) : va_D A (zW κ' ad h') := zD_fst (by rw [zW_fst, zW_fst, he]) hD
/-- the map grows: what was there reads the same -/
def zAg (n : Nat) (ad ad' : Nat → Nat) : Prop := ∀ k, k < n ∨ 1000 ≤ k → ad' k = ad k
theorem zm_okv_ag {n : Nat} {ad ad' : Nat → Nat} (ha : zAg n ad ad') {v : Value} (h : zm_okv n v = true) : zt ad' v = zt ad v := by
  cases v with
  | ref k =>
    simp only [zm_okv, Bool.or_eq_true, Nat.ble_eq] at h
    show Value.ref (ad' k) = Value.ref (ad k)
    rw [ha k (by omega)]
  | _ => rfl
theorem zm_oks_ag {n : Nat} {ad ad' : Nat → Nat} (ha : zAg n ad ad') : ∀ {st : List Value}, st.all (zm_okv n) = true → st.map (zt ad') = st.map (zt ad)
  | [], _ => rfl
  | v :: st, h => by
    simp only [List.all_cons, Bool.and_eq_true] at h
    rw [List.map_cons, List.map_cons, zm_okv_ag ha h.1, zm_oks_ag ha h.2]
theorem zm_okr_ag {n : Nat} {ad ad' : Nat → Nat} (ha : zAg n ad ad') {v : Option Nat} (h : zm_okr n v = true) : v.map ad' = v.map ad := by
  cases v with
  | none => rfl
  | some k =>
    simp only [zm_okr, Bool.or_eq_true, Nat.ble_eq] at h
    show some (ad' k) = some (ad k)
    rw [ha k (by omega)]
theorem ze_ag {κ : zKp} {n : Nat} {ad ad' : Nat → Nat} (ha : zAg n ad ad') {D : va_G} {cl : List vw_C} {a : Nat} {e : va_E} {H : Heap} (he : zm_oke n e = true) (h : va_at D cl (a, ze κ ad e) H) : va_at D cl (a, ze κ ad' e) H := by
  cases e with
  | inr q =>
    obtain ⟨ci, fs⟩ := q
    have e1 : fs.map (zt ad') = fs.map (zt ad) := zm_oks_ag ha he
    show va_at D cl (a, .inr (ci, fs.map (zt ad'))) H
    rw [e1]
    exact h
  | inl q =>
    obtain ⟨c, k, f⟩ := q
    rcases f with f | f | f | f | f
    · exact h
    · exact h
    · exact h
    · exact h
    · have h1 : H[a]? = some (arrV κ.2.2 k (fun j => va_rf ((f j).map ad))) := h
      show H[a]? = some (arrV κ.2.2 k (fun j => va_rf ((f j).map ad')))
      rw [h1]
      have he' : (List.range k).all (fun j => zm_okr n (f j)) = true := he
      rw [List.all_eq_true] at he'
      have e2 : arrV κ.2.2 k (fun j => va_rf ((f j).map ad)) = arrV κ.2.2 k (fun j => va_rf ((f j).map ad')) := arrV_cong (fun j hj => by rw [zm_okr_ag ha (he' j (List.mem_range.mpr hj))])
      rw [e2]
theorem zP_ag {κ : zKp} {ad ad' : Nat → Nat} {D : va_G} {cl : List vw_C} {h : zH} {H : Heap} (ha : zAg h.length ad ad') (ho : h.all (zm_oke h.length) = true) (hP : va_P D cl (zW κ ad h) H) : va_P D cl (zW κ ad' h) H := by
  intro k q hk
  obtain ⟨e, h1, rfl⟩ := zW_get hk
  have hl : k < h.length := (List.getElem?_eq_some_iff.mp h1).1
  rw [ha k (Or.inl hl)]
  exact ze_ag ha (List.all_eq_true.mp ho e (List.mem_of_getElem? h1)) (hP k (ad k, ze κ ad e) (zW_at (by rw [zm_g_eq]; exact h1)))
theorem zW_push (κ : zKp) (ad : Nat → Nat) (h : zH) (e : va_E) : zW κ ad (h ++ [e]) = zW κ ad h ++ [(ad h.length, ze κ ad e)] := by
  simp [zW, List.mapIdx_append]
/-- locals -/
def zA (ad : Nat → Nat) : Nat → zL → List (Nat × Value)
  | _, [] => []
  | i, none :: l => zA ad (i + 1) l
  | i, some v :: l => (i, zt ad v) :: zA ad (i + 1) l
theorem zA_mem {ad : Nat → Nat} : ∀ {L : zL} {i j : Nat} {v : Value}, L[j]? = some (some v) → (i + j, zt ad v) ∈ zA ad i L
  | [], _, _, _, h => by simp at h
  | none :: l, i, 0, v, h => by simp at h
  | some w :: l, i, 0, v, h => by
    simp only [List.getElem?_cons_zero, Option.some.injEq] at h
    subst h
    exact List.mem_cons_self
  | none :: l, i, j + 1, v, h => by
    have h1 := zA_mem (i := i + 1) (ad := ad) (show l[j]? = some (some v) from by simpa using h)
    rw [show i + 1 + j = i + (j + 1) by omega] at h1
    exact h1
  | some w :: l, i, j + 1, v, h => by
    have h1 := zA_mem (i := i + 1) (ad := ad) (show l[j]? = some (some v) from by simpa using h)
    rw [show i + 1 + j = i + (j + 1) by omega] at h1
    exact List.mem_cons_of_mem _ h1
theorem zA_of {ad : Nat → Nat} : ∀ {L : zL} {i : Nat} {q : Nat × Value}, q ∈ zA ad i L → ∃ j v, q = (i + j, zt ad v) ∧ L[j]? = some (some v)
  | [], _, _, h => by cases h
  | none :: l, i, q, h => by
    obtain ⟨j, v, h1, h2⟩ := zA_of (L := l) (i := i + 1) h
    exact ⟨j + 1, v, by rw [h1]; congr 1; omega, by simpa using h2⟩
  | some w :: l, i, q, h => by
    rcases List.mem_cons.mp h with rfl | h
    · exact ⟨0, w, rfl, rfl⟩
    · obtain ⟨j, v, h1, h2⟩ := zA_of (L := l) (i := i + 1) h
      exact ⟨j + 1, v, by rw [h1]; congr 1; omega, by simpa using h2⟩
theorem zset_self {α : Type} : ∀ {l : List α} {i : Nat} {a b : α}, (l.set i a)[i]? = some b → b = a
  | [], _, _, _, h => by simp at h
  | _ :: _, 0, _, _, h => by simp at h; exact h.symm
  | _ :: l, i + 1, _, _, h => zset_self (l := l) (i := i) (by simpa using h)
def zLs (ls : Array Slot) (nL : Nat) (ad : Nat → Nat) (L : zL) : Prop := L.length = nL ∧ lv_has ls nL (zA ad 0 L)
theorem zLs.at {ls : Array Slot} {nL : Nat} {ad : Nat → Nat} {L : zL} (h : zLs ls nL ad L) {i : Nat} {v : Value} (hi : zm_g L i = some (some v)) : ls[i]? = some (.val (zt ad v)) := by
  rw [zm_g_eq] at hi
  have h1 := zA_mem (i := 0) (ad := ad) hi
  rw [Nat.zero_add] at h1
  exact h.2.2.2 _ h1
theorem zLs.lt {ls : Array Slot} {nL : Nat} {ad : Nat → Nat} {L : zL} (h : zLs ls nL ad L) {i : Nat} {v : Option Value} (hi : zm_g L i = some v) : i < nL := by
  rw [zm_g_eq] at hi
  rw [← h.1]
  exact (List.getElem?_eq_some_iff.mp hi).1
theorem zm_x_len : ∀ (L : zL) (i : Nat), (zm_x L i).length = L.length
  | [], _ => rfl
  | _ :: _, 0 => rfl
  | _ :: _, 1 => rfl
  | _ :: l, n + 2 => by simp [zm_x, zm_x_len l (n + 1)]
theorem zm_x_get : ∀ {L : zL} {i j : Nat} {v : Value}, (zm_x L i)[j]? = some (some v) → L[j]? = some (some v) ∧ ¬ (j + 1 = i ∧ v.category = 2)
  | [], _, _, _, h => by simp [zm_x] at h
  | a :: l, 0, j, v, h => ⟨h, by omega⟩
  | a :: l, 1, 0, v, h => by
    simp only [zm_x, List.getElem?_cons_zero, Option.some.injEq] at h
    rcases a with _ | a
    · simp at h
    · cases a with
      | long x => simp at h
      | double x => simp at h
      | _ => (simp at h; subst h; exact ⟨rfl, by simp [Value.category]⟩)
  | a :: l, 1, j + 1, v, h => ⟨by simpa [zm_x] using h, by omega⟩
  | a :: l, n + 2, 0, v, h => ⟨by simpa [zm_x] using h, by omega⟩
  | a :: l, n + 2, j + 1, v, h => by
    have h1 : (zm_x l (n + 1))[j]? = some (some v) := by simpa [zm_x] using h
    obtain ⟨h2, h3⟩ := zm_x_get h1
    exact ⟨by simpa using h2, fun z => h3 ⟨by omega, z.2⟩⟩
theorem zLs.st {ls' : Array Slot} {nL : Nat} {ad : Nat → Nat} {L : zL} {i : Nat} {v : Value} (hl : L.length = nL) (h : lv_has ls' nL ((i, zt ad v) :: (zA ad 0 L).filter (fun q => !(q.1 == i) && !(q.1 + 1 == i && q.2.category == 2)))) : zLs ls' nL ad (zm_st L i v) := by
  refine ⟨by simp [zm_st, zm_x_len, hl], h.1, h.2.1, fun q hq => ?_⟩
  obtain ⟨j, w, rfl, hj⟩ := zA_of hq
  refine h.2.2 _ ?_
  rw [Nat.zero_add]
  unfold zm_st at hj
  by_cases hij : i = j
  · subst hij
    cases zset_self hj
    exact List.mem_cons_self
  · rw [List.getElem?_set_ne hij] at hj
    obtain ⟨h1, h2⟩ := zm_x_get hj
    have h3 := zA_mem (i := 0) (ad := ad) h1
    rw [Nat.zero_add] at h3
    refine List.mem_cons_of_mem _ (List.mem_filter.mpr ⟨h3, ?_⟩)
    have a1 : (j == i) = false := by simp; omega
    simp only [a1, zt_cat, Bool.not_false, Bool.true_and, Bool.not_eq_true', Bool.and_eq_false_iff, beq_eq_false_iff_ne]
    by_cases z : j + 1 = i
    · exact Or.inr (fun q => h2 ⟨z, q⟩)
    · exact Or.inl z
theorem zLs.st2 {ls' : Array Slot} {nL : Nat} {ad : Nat → Nat} {L : zL} {i : Nat} {v : Value} (hl : L.length = nL) (h : lv_has ls' nL ((i, zt ad v) :: (zA ad 0 L).filter (fun q => !(q.1 == i) && (!(q.1 == i + 1) && !(q.1 + 1 == i && q.2.category == 2))))) : zLs ls' nL ad (zm_st2 L i v) := by
  refine ⟨by simp [zm_st2, zm_x_len, hl], h.1, h.2.1, fun q hq => ?_⟩
  obtain ⟨j, w, rfl, hj⟩ := zA_of hq
  refine h.2.2 _ ?_
  rw [Nat.zero_add]
  unfold zm_st2 at hj
  by_cases hij1 : i + 1 = j
  · subst hij1
    cases zset_self hj
  · rw [List.getElem?_set_ne hij1] at hj
    by_cases hij : i = j
    · subst hij
      cases zset_self hj
      exact List.mem_cons_self
    · rw [List.getElem?_set_ne hij] at hj
      obtain ⟨h1, h2⟩ := zm_x_get hj
      have h3 := zA_mem (i := 0) (ad := ad) h1
      rw [Nat.zero_add] at h3
      refine List.mem_cons_of_mem _ (List.mem_filter.mpr ⟨h3, ?_⟩)
      have a1 : (j == i) = false := by simp; omega
      have a2 : (j == i + 1) = false := by simp; omega
      simp only [a1, a2, zt_cat, Bool.not_false, Bool.true_and, Bool.not_eq_true', Bool.and_eq_false_iff, beq_eq_false_iff_ne]
      by_cases z : j + 1 = i
      · exact Or.inr (fun q => h2 ⟨z, q⟩)
      · exact Or.inl z
theorem zLs.inc {ls ls' : Array Slot} {nL : Nat} {ad : Nat → Nat} {L : zL} {i : Nat} {x v : Int32} (h0 : zLs ls nL ad L) (hg : zm_g L i = some (some (.int x))) (h : lv_has ls' nL ((i, .int v) :: (zA ad 0 L).filter (fun q => !(q.1 == i) && !(q.1 + 1 == i && q.2.category == 2)))) : zLs ls' nL ad (L.set i (some (.int v))) := by
  refine ⟨by simp [h0.1], h.1, h.2.1, fun q hq => ?_⟩
  obtain ⟨j, w, rfl, hj⟩ := zA_of hq
  rw [Nat.zero_add]
  by_cases hij : i = j
  · subst hij
    cases zset_self hj
    exact h.2.2 _ List.mem_cons_self
  · rw [List.getElem?_set_ne hij] at hj
    have h3 := zA_mem (i := 0) (ad := ad) hj
    rw [Nat.zero_add] at h3
    refine h.2.2 _ (List.mem_cons_of_mem _ (List.mem_filter.mpr ⟨h3, ?_⟩))
    have a1 : (j == i) = false := by simp; omega
    simp only [a1, zt_cat, Bool.not_false, Bool.true_and, Bool.not_eq_true', Bool.and_eq_false_iff, beq_eq_false_iff_ne]
    by_cases z : j + 1 = i
    · refine Or.inr (fun q => ?_)
      have w1 := h0.2.2.1.1 j (zt ad w) (h0.2.2.2 _ h3) (by rw [zt_cat]; exact q)
      rw [z] at w1
      have w2 := h0.at hg
      rw [w1] at w2
      cases w2
    · exact Or.inl z
theorem zLs.ag {ls : Array Slot} {nL n : Nat} {ad ad' : Nat → Nat} {L : zL} (ha : zAg n ad ad') (ho : zm_okl n L = true) (h : zLs ls nL ad L) : zLs ls nL ad' L := by
  refine ⟨h.1, h.2.1, h.2.2.1, fun q hq => ?_⟩
  obtain ⟨j, w, rfl, hj⟩ := zA_of hq
  have h3 := zA_mem (i := 0) (ad := ad) hj
  have hw : zm_okv n w = true := by
    have := List.all_eq_true.mp ho (some w) (List.mem_of_getElem? hj)
    simpa using this
  rw [zm_okv_ag ha hw]
  exact h.2.2.2 _ h3
/-- a method's locals at its entry -/
theorem zm_en_get (ad : Nat → Nat) : ∀ (vs : List Value) (n i : Nat), (lg_sl (vs.map (zt ad))).length ≤ n → (zm_en vs n).length = n ∧ ∀ (j : Nat) (v : Value), (zm_en vs n)[j]? = some (some v) → (i + j, zt ad v) ∈ lv_args i (vs.map (zt ad)) := by
  intro vs
  induction vs with
  | nil =>
    intro n i _
    refine ⟨by simp [zm_en], fun j v hj => ?_⟩
    simp only [zm_en] at hj
    have := List.mem_of_getElem? hj
    simp at this
  | cons w vs ih =>
    intro n i hn
    have one : w.category = 1 → zm_en (w :: vs) n = some w :: zm_en vs (n - 1) := by
      intro hc
      cases w <;> first | rfl | (simp [Value.category] at hc)
    have two : w.category = 2 → zm_en (w :: vs) n = some w :: none :: zm_en vs (n - 2) := by
      intro hc
      cases w <;> first | rfl | (simp [Value.category] at hc)
    rcases lv_cat w with hc | hc
    · have e1 : (lg_sl ((w :: vs).map (zt ad))).length = 1 + (lg_sl (vs.map (zt ad))).length := by
        simp [lg_sl, List.flatMap_cons, zt_cat, hc]; omega
      have hn' : (lg_sl (vs.map (zt ad))).length ≤ n - 1 := by omega
      obtain ⟨g1, g2⟩ := ih (n - 1) (i + 1) hn'
      rw [one hc]
      refine ⟨by simp [g1]; omega, fun j v hj => ?_⟩
      have ea : lv_args i ((w :: vs).map (zt ad)) = (i, zt ad w) :: lv_args (i + 1) (vs.map (zt ad)) := by
        simp [lv_args, zt_cat, hc]
      rw [ea]
      cases j with
      | zero => simp at hj; subst hj; exact List.mem_cons_self
      | succ j =>
        have := g2 j v (by simpa using hj)
        rw [show i + 1 + j = i + (j + 1) by omega] at this
        exact List.mem_cons_of_mem _ this
    · have e1 : (lg_sl ((w :: vs).map (zt ad))).length = 2 + (lg_sl (vs.map (zt ad))).length := by
        simp [lg_sl, List.flatMap_cons, zt_cat, hc]; omega
      have hn' : (lg_sl (vs.map (zt ad))).length ≤ n - 2 := by omega
      obtain ⟨g1, g2⟩ := ih (n - 2) (i + 2) hn'
      rw [two hc]
      refine ⟨by simp [g1]; omega, fun j v hj => ?_⟩
      have ea : lv_args i ((w :: vs).map (zt ad)) = (i, zt ad w) :: lv_args (i + 2) (vs.map (zt ad)) := by
        simp [lv_args, zt_cat, hc]
      rw [ea]
      match j, hj with
      | 0, hj => simp at hj; subst hj; exact List.mem_cons_self
      | 1, hj => simp at hj
      | j + 2, hj =>
        have := g2 j v (by simpa using hj)
        rw [show i + 2 + j = i + (j + 2) by omega] at this
        exact List.mem_cons_of_mem _ this
theorem zLs_entry (ad : Nat → Nat) (vs : List Value) {n : Nat} (h : (lg_sl (vs.map (zt ad))).length ≤ n) : zLs ((lg_sl (vs.map (zt ad)) ++ List.replicate (n - (lg_sl (vs.map (zt ad))).length) Slot.unset).toArray) n ad (zm_en vs n) := by
  have h1 := lv_entry (vs.map (zt ad)) h
  obtain ⟨g1, g2⟩ := zm_en_get ad vs n 0 h
  refine ⟨g1, h1.1, h1.2.1, fun q hq => ?_⟩
  obtain ⟨j, w, rfl, hj⟩ := zA_of hq
  exact h1.2.2 _ (g2 j w hj)
