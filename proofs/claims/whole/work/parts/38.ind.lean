/-! SUNDAYS don't depend on whom couples had before, nor on who was taken -/
theorem rc_eq (σ : zS) (g : Nat → Int32) (t : Int32) (c : Nat) : rc (σ, g, t) c = ((rc (σ, fun _ => 0, t) c).1, upd g c (pk σ c t (nn σ)), (rc (σ, fun _ => 0, t) c).2.2) := by
  unfold rc
  by_cases h : pk σ c t (nn σ) = -1
  · rw [if_pos h, if_pos h, h]
  · rw [if_neg h, if_neg h]
theorem csu_ind (σ : zS) (g g' : Nat → Int32) (t t' : Int32) : ∀ k, (csu (σ, g, t) k).1 = (csu (σ, g', t') k).1 ∧ (csu (σ, g, t) k).2.2 = (csu (σ, g', t') k).2.2 ∧ ∀ c, (∃ j, j < k ∧ (nd σ + j) % nc σ = c) → (csu (σ, g, t) k).2.1 c = (csu (σ, g', t') k).2.1 c
  | 0 => ⟨rfl, rfl, fun c h => by obtain ⟨j, hj, -⟩ := h; omega⟩
  | k + 1 => by
    obtain ⟨h1, h2, h3⟩ := csu_ind σ g g' t t' k
    have e1 : csu (σ, g, t) (k + 1) = rc ((csu (σ, g, t) k).1, (csu (σ, g, t) k).2.1, (csu (σ, g, t) k).2.2) ((nd σ + k) % nc σ) := rfl
    have e2 : csu (σ, g', t') (k + 1) = rc ((csu (σ, g', t') k).1, (csu (σ, g', t') k).2.1, (csu (σ, g', t') k).2.2) ((nd σ + k) % nc σ) := rfl
    rw [e1, e2, rc_eq, rc_eq (csu (σ, g', t') k).1, h1, h2]
    refine ⟨rfl, rfl, fun c hc => ?_⟩
    show upd _ _ _ c = upd _ _ _ c
    by_cases he : c = (nd σ + k) % nc σ
    · subst he
      rw [upd_at, upd_at]
    · rw [upd_o _ he, upd_o _ he]
      obtain ⟨j, hj, hj2⟩ := hc
      refine h3 c ⟨j, ?_, hj2⟩
      rcases Nat.lt_or_ge j k with h | h
      · exact h
      · exact absurd (by rw [← hj2, show j = k by omega]) he
theorem cover8 (d n c : Nat) (hn : n ≤ 8) (hc : c < n) : ∃ j, j < n ∧ (d + j) % n = c := by
  have h : n = 1 ∨ n = 2 ∨ n = 3 ∨ n = 4 ∨ n = 5 ∨ n = 6 ∨ n = 7 ∨ n = 8 := by omega
  refine ⟨(c + n - d % n) % n, Nat.mod_lt _ (by omega), ?_⟩
  rcases h with rfl | rfl | rfl | rfl | rfl | rfl | rfl | rfl <;> omega
theorem als_ind (σ : zS) (g g' : Nat → Int32) (t : Int32) : ∀ i, (als (σ, g, t) i).1 = (als (σ, g', t) i).1 ∧ (als (σ, g, t) i).2 = (g, t) ∧ (als (σ, g', t) i).2 = (g', t)
  | 0 => ⟨rfl, rfl, rfl⟩
  | i + 1 => by
    obtain ⟨h1, h2, h3⟩ := als_ind σ g g' t i
    have e1 : als (σ, g, t) (i + 1) = al1 (als (σ, g, t) i) i := rfl
    have e2 : als (σ, g', t) (i + 1) = al1 (als (σ, g', t) i) i := rfl
    rw [e1, e2, al1_eq, al1_eq, h2, h3, h1]
    by_cases h : fr t i
    · rw [if_pos h, if_pos h]; exact ⟨rfl, rfl, rfl⟩
    · rw [if_neg h, if_neg h]; exact ⟨h1, h2, h3⟩
theorem su_ind (σ : zS) (g g' : Nat → Int32) (t t' : Int32) : (su (σ, g, t)).1 = (su (σ, g', t')).1 ∧ (nc σ ≤ 8 → ∀ c, c < nc σ → (su (σ, g, t)).2.1 c = (su (σ, g', t')).2.1 c) := by
  obtain ⟨h1, h2, h3⟩ := csu_ind σ g g' t t' (nc σ)
  obtain ⟨a1, a2, a3⟩ := als_ind (csu (σ, g', t') (nc σ)).1 (csu (σ, g, t) (nc σ)).2.1 (csu (σ, g', t') (nc σ)).2.1 (csu (σ, g', t') (nc σ)).2.2 (nn σ)
  have e1 : als (csu (σ, g, t) (nc σ)) (nn σ) = als ((csu (σ, g', t') (nc σ)).1, (csu (σ, g, t) (nc σ)).2.1, (csu (σ, g', t') (nc σ)).2.2) (nn σ) := by rw [← h1, ← h2]
  unfold su
  show s2 (als (csu (σ, g, t) (nc σ)) (nn σ)).1 8 0 ((als (csu (σ, g, t) (nc σ)) (nn σ)).1 8 0 + 1) = s2 (als (csu (σ, g', t') (nc σ)) (nn σ)).1 8 0 ((als (csu (σ, g', t') (nc σ)) (nn σ)).1 8 0 + 1) ∧ (nc σ ≤ 8 → ∀ c, c < nc σ → (als (csu (σ, g, t) (nc σ)) (nn σ)).2.1 c = (als (csu (σ, g', t') (nc σ)) (nn σ)).2.1 c)
  rw [e1, a1]
  refine ⟨rfl, fun h8 c hc => ?_⟩
  rw [a2, a3]
  exact h3 c (cover8 (nd σ) (nc σ) c h8 hc)
/-- the institute n Sundays on; whom a couple had on the last of them -/
def sg (σ : zS) (n : Nat) : zS := (sus (σ, fun _ => 0, 0) n).1
def gg (σ : zS) (n c : Nat) : Int32 := (sus (σ, fun _ => 0, 0) n).2.1 c
theorem sus_sg (σ : zS) (g : Nat → Int32) (t : Int32) : ∀ n, (sus (σ, g, t) n).1 = sg σ n
  | 0 => rfl
  | n + 1 => by
    have h := sus_sg σ g t n
    have e1 : (sus (σ, g, t) (n + 1)).1 = (su ((sus (σ, g, t) n).1, (sus (σ, g, t) n).2.1, (sus (σ, g, t) n).2.2)).1 := rfl
    have e2 : sg σ (n + 1) = (su (sg σ n, (sus (σ, fun _ => 0, 0) n).2.1, (sus (σ, fun _ => 0, 0) n).2.2)).1 := rfl
    rw [e1, e2, h]
    exact (su_ind _ _ _ _ _).1
theorem sus_gg {D : Nat} {σ : zS} (hw : wf D σ) (g : Nat → Int32) (t : Int32) {n c : Nat} (hn : D + n ≤ 20000) (hc : c < nc σ) : (sus (σ, g, t) (n + 1)).2.1 c = gg σ (n + 1) c := by
  have h := sus_sg σ g t n
  have e1 : (sus (σ, g, t) (n + 1)) = (su ((sus (σ, g, t) n).1, (sus (σ, g, t) n).2.1, (sus (σ, g, t) n).2.2)) := rfl
  have e2 : gg σ (n + 1) c = (su (sg σ n, (sus (σ, fun _ => 0, 0) n).2.1, (sus (σ, fun _ => 0, 0) n).2.2)).2.1 c := rfl
  obtain ⟨w1, w2, w3, w4⟩ := sus_wf (H := (σ, fun _ => 0, 0)) hw n hn
  rw [e1, e2, h]
  exact (su_ind _ _ _ _ _).2 w1.2.2.2.2.2 c (by rw [w3]; exact hc)
theorem sg_wf {D : Nat} {σ : zS} (hw : wf D σ) {n : Nat} (hn : D + n ≤ 20000) : wf (D + n) (sg σ n) ∧ nn (sg σ n) = nn σ ∧ nc (sg σ n) = nc σ ∧ nd (sg σ n) = nd σ + n := sus_wf (H := (σ, fun _ => 0, 0)) hw n hn
