/-! WHAT EVERY CALL KEEPS -/
theorem i2n {v lo hi : Int32} {a b : Int} (e1 : lo.toInt = a) (e2 : hi.toInt = b) (h1 : lo ≤ v) (h2 : v ≤ hi) : a ≤ v.toInt ∧ v.toInt ≤ b := by
  rw [zle] at h1 h2
  omega
theorem w_fire {D : Nat} {σ : zS} (hw : wf D σ) (F : Nat → Int32) (v : Int32) : wf D (sp_fire σ F v).2.1 := by
  unfold sp_fire bey
  by_cases h : 0 ≤ v ∧ v ≤ 20
  · rw [if_pos h]
    exact wf_fi hw (i2n (by decide) (by decide) h.1 h.2)
  · rw [if_neg h]
    exact hw
theorem w_inlaw {D : Nat} {σ : zS} (hw : wf D σ) (F : Nat → Int32) (v : Int32) : wf D (sp_inlaw σ F v).2.1 := by
  have h8 := hw.2.2.2.1.2
  unfold sp_inlaw bey fnx
  by_cases h : 0 ≤ v ∧ v ≤ 5
  · rw [if_pos h]
    by_cases h1 : nn σ = 8
    · rw [if_pos h1]; exact hw
    · rw [if_neg h1]
      exact addI_wf hw (by omega) (i2n (by decide) (by decide) h.1 h.2)
  · rw [if_neg h]
    exact hw
theorem w_couple {D : Nat} {σ : zS} (hw : wf D σ) (F : Nat → Int32) (v : Int32) : wf D (sp_couple σ F v).2.1 := by
  have h8 := hw.2.2.2.2.2
  unfold sp_couple bey fnx
  by_cases h : 0 ≤ v ∧ v ≤ 9
  · rw [if_pos h]
    by_cases h1 : nc σ = 8
    · rw [if_pos h1]; exact hw
    · rw [if_neg h1]
      exact addC_wf hw (by omega) (i2n (by decide) (by decide) h.1 h.2)
  · rw [if_neg h]
    exact hw
theorem w_turn {D : Nat} {σ : zS} (hw : wf D σ) (F : Nat → Int32) (i v : Int32) : wf D (sp_turn σ F i v).2.1 := by
  unfold sp_turn bey
  by_cases h : inI σ i ∧ (0 ≤ v ∧ v ≤ 5)
  · rw [if_pos h]
    exact wf_s2 hw (by decide) (i2n (by decide) (by decide) h.2.1 h.2.2)
  · rw [if_neg h]
    exact hw
theorem w_set {D : Nat} {σ : zS} (hw : wf D σ) (F : Nat → Int32) (i w v : Int32) : wf D (sp_set σ F i w v).2.1 := by
  unfold sp_set bey
  by_cases h : inI σ i ∧ (1 ≤ w ∧ w ≤ 4) ∧ (0 ≤ v ∧ v ≤ (if w = 1 then 99 else if w = 2 then 1 else 9999))
  · rw [if_pos h]
    obtain ⟨-, ⟨h1, h2⟩, h3, h4⟩ := h
    obtain ⟨u, hu1, hu2, rfl, hu3⟩ := rng_get (w := w) (a := 1) (b := 4) (by omega) h1 h2 (by omega)
    show wf D (s2 σ (ix (nI u)) (ix i) v)
    rw [hu3]
    match u, hu1, hu2 with
    | 1, _, _ => exact wf_s2 hw (by decide) (i2n (lo := 0) (hi := 99) (by decide) (by decide) h3 h4)
    | 2, _, _ => exact wf_s2 hw (by decide) (i2n (lo := 0) (hi := 1) (by decide) (by decide) h3 h4)
    | 3, _, _ => exact wf_s2 hw (by decide) (i2n (lo := 0) (hi := 9999) (by decide) (by decide) h3 h4)
    | 4, _, _ => exact wf_s2 hw (by decide) (i2n (lo := 0) (hi := 9999) (by decide) (by decide) h3 h4)
  · rw [if_neg h]
    exact hw
theorem w_give {D : Nat} {σ : zS} (hw : wf D σ) (F : Nat → Int32) (i w v : Int32) : wf D (sp_give σ F i w v).2.1 := by
  unfold sp_give bey
  by_cases h : inC σ i ∧ ((w = 0 ∧ 0 ≤ v ∧ v ≤ 9) ∨ (w = 1 ∧ -999 ≤ v ∧ v ≤ 999) ∨ (w = 2 ∧ -1 ≤ v ∧ v ≤ σ 8 2 - 1))
  · rw [if_pos h]
    rcases h.2 with ⟨rfl, h1, h2⟩ | ⟨rfl, h1, h2⟩ | ⟨rfl, h1, h2⟩
    · exact wf_s2 hw (by decide) (i2n (by decide) (by decide) h1 h2)
    · exact wf_s2 hw (by decide) (i2n (by decide) (by decide) h1 h2)
    · refine wf_s2 hw (by decide) ?_
      have h8 := hw.2.2.2.1.2
      rw [zle] at h1 h2
      rw [hw.2.2.2.1.1, n1_toInt h8] at h2
      rw [show (-1 : Int32).toInt = -1 by decide] at h1
      show -1 ≤ v.toInt ∧ v.toInt ≤ 7
      omega
  · rw [if_neg h]
    exact hw
theorem wf_D {D E : Nat} {σ : zS} (hw : wf D σ) (h : nd σ ≤ E) : wf E σ := ⟨hw.1, ⟨hw.2.1.1, h⟩, hw.2.2⟩
theorem w_sundays {σ : zS} (hw : wf 9999 σ) (F : Nat → Int32) (n : Int32) : wf 9999 (sp_sundays σ F n).2.1 := by
  unfold sp_sundays bey fnx
  by_cases h : 1 ≤ n ∧ n ≤ 60
  · rw [if_pos h]
    by_cases h1 : 9999 < σ 8 0 + n
    · rw [if_pos h1]; exact hw
    · rw [if_neg h1]
      obtain ⟨v, hv1, hv2, rfl, hv3⟩ := rng_get (w := n) (a := 1) (b := 60) (by omega) h.1 h.2 (by omega)
      show wf 9999 (sg σ (ix (nI v)))
      rw [hv3]
      obtain ⟨w1, w2, w3, w4⟩ := sg_wf hw (n := v) (by omega)
      refine wf_D w1 ?_
      have hd := hw.2.1.2
      rw [hw.2.1.1, nI_add] at h1
      have h1 := le_of h1
      have h2 := (ile (a := nI (nd σ + v)) (m := nd σ + v) (b := 9999) (n := 9999) rfl rfl (by omega) (by omega)).mp h1
      omega
  · rw [if_neg h]
    exact hw
theorem ly_wf {D : Nat} {σ : zS} (hw : wf D σ) (f : Nat → Int64) : ∀ k, wf D (ly σ f k)
  | 0 => hw
  | k + 1 => by
    have ih := ly_wf hw f k
    show wf D (if wq (f k) then s2 (ly σ f k) 1 k (f k).toInt32 else ly σ f k)
    by_cases h : wq (f k)
    · rw [if_pos h]
      refine wf_s2 ih (by decide) ?_
      have h1 := h.1
      have h2 := h.2
      rw [Int64.le_iff_toInt_le] at h1 h2
      rw [show (0 : Int64).toInt = 0 by decide] at h1
      rw [show (99 : Int64).toInt = 99 by decide] at h2
      have e : (f k).toInt32.toInt = (f k).toInt := by
        rw [Int64.toInt_toInt32]
        exact Int.bmod_eq_of_le (by omega) (by omega)
      show 0 ≤ (f k).toInt32.toInt ∧ (f k).toInt32.toInt ≤ 99
      omega
    · rw [if_neg h]
      exact ih
theorem w_lays {D : Nat} {S : Nat → zSh} {σ : zS} (hw : wf D σ) (F : Nat → Int32) (s : Int32) : wf D (sp_lays S σ F s).2.1 := by
  unfold sp_lays bey fnx
  by_cases h : 0 ≤ s ∧ s < 4
  · rw [if_pos h]
    by_cases h1 : (S (ix s)).1 = 0
    · rw [if_pos h1]; exact hw
    · rw [if_neg h1]
      exact ly_wf hw _ _
  · rw [if_neg h]
    exact hw
-- those that leave the institute as it was
theorem e_now (σ : zS) (F : Nat → Int32) (w : Int32) : (sp_now σ F w).2.1 = σ := by unfold sp_now bey; (repeat' split) <;> rfl
theorem e_of (σ : zS) (F : Nat → Int32) (i w : Int32) : (sp_of σ F i w).2.1 = σ := by unfold sp_of bey; (repeat' split) <;> rfl
theorem e_with (σ : zS) (F : Nat → Int32) (i c w : Int32) : (sp_with σ F i c w).2.1 = σ := by unfold sp_with bey; (repeat' split) <;> rfl
theorem e_as (σ : zS) (F : Nat → Int32) (i w : Int32) : (sp_as σ F i w).2.1 = σ := by unfold sp_as bey fnx; (repeat' split) <;> rfl
theorem e_coupleOf (σ : zS) (F : Nat → Int32) (i w : Int32) : (sp_coupleOf σ F i w).2.1 = σ := by unfold sp_coupleOf bey; (repeat' split) <;> rfl
theorem e_on (σ : zS) (F : Nat → Int32) (i n w : Int32) : (sp_on σ F i n w).2.1 = σ := by unfold sp_on bey; (repeat' split) <;> rfl
theorem e_then (σ : zS) (F : Nat → Int32) (i n w : Int32) : (sp_then σ F i n w).2.1 = σ := by unfold sp_then bey; (repeat' split) <;> rfl
theorem e_meets (σ : zS) (F : Nat → Int32) (i w : Int32) : (sp_meets σ F i w).2.1 = σ := by unfold sp_meets bey fnx; (repeat' split) <;> rfl
theorem e_well (σ : zS) (F : Nat → Int32) (i w : Int32) : (sp_well σ F i w).2.1 = σ := by unfold sp_well bey fnx; (repeat' split) <;> rfl
theorem e_cold (σ : zS) (F : Nat → Int32) (w : Int32) : (sp_cold σ F w).2.1 = σ := by unfold sp_cold bey fnx; (repeat' split) <;> rfl
theorem e_kind (σ : zS) (F : Nat → Int32) (i w : Int32) : (sp_kind σ F i w).2.1 = σ := by unfold sp_kind bey; (repeat' split) <;> rfl
theorem e_warm (σ : zS) (F : Nat → Int32) (i n w : Int32) : (sp_warm σ F i n w).2.1 = σ := by unfold sp_warm bey fnx; (repeat' split) <;> rfl
theorem e_sit (σ : zS) (F : Nat → Int32) (w : Int32) : (sp_sit σ F w).2.1 = σ := by unfold sp_sit bey fnx; (repeat' split) <;> rfl
theorem e_loud (σ : zS) (F : Nat → Int32) (i w : Int32) : (sp_loud σ F i w).2.1 = σ := by unfold sp_loud bey; (repeat' split) <;> rfl
theorem e_stoke (σ : zS) (F : Nat → Int32) (w : Int32) : (sp_stoke σ F w).2.1 = σ := by unfold sp_stoke bey; (repeat' split) <;> rfl
theorem e_lonely (σ : zS) (F : Nat → Int32) (w : Int32) : (sp_lonely σ F w).2.1 = σ := by unfold sp_lonely bey fnx; (repeat' split) <;> rfl
theorem e_read (S : Nat → zSh) (σ : zS) (F : Nat → Int32) (s c i : Int32) : (sp_read S σ F s c i).2.1 = σ := by unfold sp_read bey fnx; (repeat' split) <;> rfl
theorem e_count (σ : zS) (F : Nat → Int32) (t w : Int32) : (sp_count σ F t w).2.1 = σ := by unfold sp_count bey; (repeat' split) <;> rfl
theorem e_status (σ : zS) (F : Nat → Int32) (w : Int32) : (sp_status σ F w).2.1 = σ := by unfold sp_status bey; (repeat' split) <;> rfl
-- sheets
theorem wS_shb {S : Nat → zSh} (hS : wS S) {t : Nat} {b z : Int32} {f : Nat → Int64} {k : Nat} (hz : z = nI k) (hk : k ≤ 40) : wS (shb S t (b, z, f)) := by
  intro s hs
  by_cases h : s = t
  · subst h
    have e : (shb S s (b, z, f) s).2.1 = nI k := by rw [shb_at]; exact hz
    have e2 : sz (shb S s (b, z, f)) s = k := by unfold sz; rw [e]; exact nI_clamp (by omega)
    rw [e2]
    exact ⟨e, hk⟩
  · have e : (shb S t (b, z, f) s) = S s := shb_o S _ h
    have e2 : sz (shb S t (b, z, f)) s = sz S s := by unfold sz; rw [e]
    rw [e2, e]
    exact hS s hs
theorem wS_same {S : Nat → zSh} (hS : wS S) {t : Nat} (ht : t < 4) {b : Int32} {f : Nat → Int64} : wS (shb S t (b, (S t).2.1, f)) := wS_shb hS (hS t ht).1 (hS t ht).2
theorem ix4 {s : Int32} (h : 0 ≤ s ∧ s < 4) : ix s < 4 := by
  obtain ⟨j, hj, rfl⟩ := zIn4.mpr h
  rw [ix_nI (by omega)]
  exact hj
theorem s_sheet {S : Nat → zSh} (hS : wS S) (F : Nat → Int32) (s b m : Int32) : wS (sp_sheet S F s b m).2.1 := by
  unfold sp_sheet
  by_cases h : (0 ≤ s ∧ s < 4) ∧ (b = 0 ∨ b = 8 ∨ b = 16 ∨ b = 64)
  · rw [if_pos h]
    by_cases h1 : m < 0
    · rw [if_pos h1]; exact hS
    · rw [if_neg h1]
      by_cases h2 : 40 < m
      · rw [if_pos h2]; exact hS
      · rw [if_neg h2]
        show wS (shb S (ix s) (b, (if b = 0 then 0 else m), fun _ => 0))
        obtain ⟨v, hv1, hv2, rfl, hv3⟩ := rng_get (w := m) (a := 0) (b := 40) (by omega) (le_of h1) (le_of h2) (by omega)
        by_cases hb : b = 0
        · rw [if_pos hb]; exact wS_shb hS (k := 0) rfl (by omega)
        · rw [if_neg hb]; exact wS_shb hS rfl hv2
  · rw [if_neg h]
    exact hS
theorem s_write {S : Nat → zSh} (hS : wS S) (F : Nat → Int32) (s i : Int32) (v : Int64) : wS (sp_write S F s i v).2.1 := by
  unfold sp_write
  by_cases h : 0 ≤ s ∧ s < 4
  · rw [if_pos h]
    by_cases h1 : (S (ix s)).1 = 0
    · rw [if_pos h1]; exact hS
    · rw [if_neg h1]
      by_cases h2 : 0 ≤ i ∧ i < (S (ix s)).2.1
      · rw [if_pos h2]; exact wS_same hS (ix4 h)
      · rw [if_neg h2]; exact hS
  · rw [if_neg h]
    exact hS
theorem s_copy {S : Nat → zSh} (hS : wS S) (F : Nat → Int32) (s a t p n : Int32) : wS (sp_copy S F s a t p n).2.1 := by
  unfold sp_copy
  by_cases h : (0 ≤ s ∧ s < 4) ∧ (0 ≤ t ∧ t < 4)
  · rw [if_pos h]
    by_cases h1 : (S (ix s)).1 = 0 ∨ (S (ix t)).1 = 0
    · rw [if_pos h1]; exact hS
    · rw [if_neg h1]
      by_cases h2 : (S (ix s)).1 = (S (ix t)).1
      · rw [if_pos h2]
        by_cases h3 : (0 ≤ a ∧ 0 ≤ p ∧ 0 ≤ n) ∧ n.toInt ≤ (sz S (ix s) : Int) - a.toInt ∧ n.toInt ≤ (sz S (ix t) : Int) - p.toInt
        · rw [if_pos h3]; exact wS_same hS (ix4 h.2)
        · rw [if_neg h3]; exact hS
      · rw [if_neg h2]; exact hS
  · rw [if_neg h]
    exact hS
theorem s_book {S : Nat → zSh} (hS : wS S) (σ : zS) (F : Nat → Int32) (s c : Int32) : wS (sp_book S σ F s c).2.1 := by
  unfold sp_book
  by_cases h : 0 ≤ s ∧ s < 4
  · rw [if_pos h]
    by_cases h1 : (S (ix s)).1 = 0
    · rw [if_pos h1]; exact hS
    · rw [if_neg h1]
      by_cases h2 : inC σ c
      · rw [if_pos h2]; exact wS_same hS (ix4 h)
      · rw [if_neg h2]; exact hS
  · rw [if_neg h]
    exact hS
theorem f_feed {tp : Nat → Int32} {tl : Nat} (ht : tl ≤ 120) (F : Nat → Int32) (b m : Int32) : (sp_feed tp tl F b m).2.2.1 ≤ 120 := by
  unfold sp_feed
  by_cases h : 1 ≤ m ∧ m ≤ 4
  · rw [if_pos h]
    by_cases h1 : 120 < tl + ix m
    · rw [if_pos h1]; exact ht
    · rw [if_neg h1]; show tl + ix m ≤ 120; omega
  · rw [if_neg h]
    exact ht
theorem wf_zs0 : wf 9999 zs0 := by
  refine ⟨fun i hi => ?_, ⟨by decide, by decide⟩, by decide, ⟨by decide, by decide⟩, ⟨by decide, by decide⟩⟩
  rw [wfi_iff]
  intro f hf
  match f, hf with
  | 0, _ => exact (by decide : (bnd 0).1 ≤ (0 : Int32).toInt ∧ (0 : Int32).toInt ≤ (bnd 0).2)
  | 1, _ => exact (by decide : (bnd 1).1 ≤ (0 : Int32).toInt ∧ (0 : Int32).toInt ≤ (bnd 1).2)
  | 2, _ => exact (by decide : (bnd 2).1 ≤ (0 : Int32).toInt ∧ (0 : Int32).toInt ≤ (bnd 2).2)
  | 3, _ => exact (by decide : (bnd 3).1 ≤ (0 : Int32).toInt ∧ (0 : Int32).toInt ≤ (bnd 3).2)
  | 4, _ => exact (by decide : (bnd 4).1 ≤ (0 : Int32).toInt ∧ (0 : Int32).toInt ≤ (bnd 4).2)
  | 5, _ => exact (by decide : (bnd 5).1 ≤ (0 : Int32).toInt ∧ (0 : Int32).toInt ≤ (bnd 5).2)
  | 6, _ => exact (by decide : (bnd 6).1 ≤ (0 : Int32).toInt ∧ (0 : Int32).toInt ≤ (bnd 6).2)
  | 7, _ => exact (by decide : (bnd 7).1 ≤ (0 : Int32).toInt ∧ (0 : Int32).toInt ≤ (bnd 7).2)
theorem wS_0 : wS sh0' := fun s hs => ⟨by show (0 : Int32) = nI ((0 : Int32).toNatClampNeg); decide, by show (0 : Int32).toNatClampNeg ≤ 40; decide⟩
