/-! THE REFERENCE'S CALLS, eleventh part: copy, feed -/
def cpl (f g : Nat → Int64) (p j : Nat) : Nat → Int64 := fun l => if p ≤ l ∧ l < p + j then f (l - p) else g l
theorem cpl_s (f g : Nat → Int64) (p j : Nat) : vp_updL (cpl f g p j) (p + j) (f j) = cpl f g p (j + 1) := by
  funext l
  unfold vp_updL cpl
  by_cases h : l = p + j
  · rw [if_pos h, if_pos (by omega), show l - p = j by omega]
  · rw [if_neg h]
    by_cases h2 : p ≤ l ∧ l < p + j
    · rw [if_pos h2, if_pos (by omega)]
    · rw [if_neg h2, if_neg (by omega)]
theorem cpl_0 (f g : Nat → Int64) (p : Nat) : cpl f g p 0 = g := by funext l; unfold cpl; rw [if_neg (by omega)]
def cpS (S : Nat → zSh) (t : Nat) (f : Nat → Int64) (p j : Nat) : Nat → zSh := shb S t ((S t).1, (S t).2.1, cpl f (S t).2.2 p j)
theorem cpS_0 (S : Nat → zSh) (t : Nat) (f : Nat → Int64) (p : Nat) : cpS S t f p 0 = S := by
  unfold cpS
  rw [cpl_0]
  exact shb_id S t
theorem cpS_t (S : Nat → zSh) (t : Nat) (f : Nat → Int64) (p j : Nat) : cpS S t f p j t = ((S t).1, (S t).2.1, cpl f (S t).2.2 p j) := shb_at S t _
theorem cpS_s (S : Nat → zSh) (t : Nat) (f : Nat → Int64) (p j : Nat) : cpS S t f p (j + 1) = shb (cpS S t f p j) t ((cpS S t f p j t).1, (cpS S t f p j t).2.1, vp_updL (cpS S t f p j t).2.2 (p + j) (f j)) := by
  rw [cpS_t]
  show cpS S t f p (j + 1) = shb (cpS S t f p j) t ((S t).1, (S t).2.1, vp_updL (cpl f (S t).2.2 p j) (p + j) (f j))
  rw [cpl_s]
  unfold cpS
  rw [shb_shb]
def sp_copy (S : Nat → zSh) (F : Nat → Int32) (s a t p n : Int32) : zA4 :=
  if (0 ≤ s ∧ s < 4) ∧ (0 ≤ t ∧ t < 4) then
    (if (S (ix s)).1 = 0 ∨ (S (ix t)).1 = 0 then (-1000000006, S, upd F 5 (F 5 + 1))
     else if (S (ix s)).1 = (S (ix t)).1 then
       (if (0 ≤ a ∧ 0 ≤ p ∧ 0 ≤ n) ∧ n.toInt ≤ (sz S (ix s) : Int) - a.toInt ∧ n.toInt ≤ (sz S (ix t) : Int) - p.toInt then
          (n, cpS S (ix t) (fun l => (S (ix s)).2.2 (ix a + l)) (ix p) (ix n), F)
        else (-1000000001, S, upd F 0 (F 0 + 1)))
     else (-1000000003, S, upd F 2 (F 2 + 1)))
  else (-1000000001, S, upd F 0 (F 0 + 1))
theorem m40a (s a j : Nat) : (40 : Int32) * nI s + nI a + nI j = nI (40 * s + (a + j)) := by rw [m40, nI_add, Nat.add_assoc]
def mvf (f mv : Nat → Int64) (j : Nat) : Nat → Int64 := fun l => if l < j then f l else mv l
theorem mvf_s (f mv : Nat → Int64) (j : Nat) : vp_updL (mvf f mv j) j (f j) = mvf f mv (j + 1) := by
  funext l
  unfold vp_updL mvf
  by_cases h : l = j
  · subst h; rw [if_pos rfl, if_pos (by omega)]
  · rw [if_neg h]
    by_cases h2 : l < j
    · rw [if_pos h2, if_pos (by omega)]
    · rw [if_neg h2, if_neg (by omega)]
set_option maxRecDepth 100000 in
set_option maxHeartbeats 400000 in
theorem m_copy_2 {SM : zC} {SF : Nat → zQ → zP} (hZ : zZ SM SF) {Q : zQ} {x : zXs} {s as g F ks ot : Nat → Int32} {kp : Int32} {tp : Nat → Int32} {R : zR} {S : Nat → zSh} {mv : Nat → Int64} {c a t p n : Nat} (ht : t < 4) (hp : p + n ≤ 40) {f : Nat → Int64} (hf : ∀ l, l < n → mv l = f l) (k : Q (some (.int (nI n))) (gh x (s, as, g, F, mq ks ot kp tp R (cpS S t f p n) mv))) :
    ∀ d j, j + d = n → SF mn_M_copy Q 157 [some (.ref 43), some (.int (nI c)), some (.int (nI a)), some (.int (nI t)), some (.int (nI p)), some (.int (nI n)), some (.int (nI j))] [] (0, 0) (gh x (s, as, g, F, mq ks ot kp tp R (cpS S t f p j) mv)) := by
  intro d
  induction d with
  | zero =>
    intro j hj
    have hj : j = n := by omega
    subst hj
    refine zgo hZ 157 99 rfl ?_
    exact ⟨fun _ => k, fun h => absurd ((ile rfl rfl (by omega) (by omega)).mpr (Nat.le_refl j)) h⟩
  | succ d ih =>
    intro j hj
    refine zgo hZ 157 99 rfl ?_
    refine ⟨fun h => ?_, fun _ => ?_⟩
    · have := (ile rfl rfl (by omega) (by omega)).mp h
      omega
    have h := ih (j + 1) (by omega)
    rw [← nI_1, cpS_s, mq_w ks ot kp tp R (cpS S t f p j) mv t (j := p + j) (by omega), ← hf j (by omega)] at h
    refine ⟨j, by omega, rfl, ?_⟩
    exact ⟨40 * t + (p + j), by omega, m40a t p j, h⟩
set_option maxRecDepth 100000 in
set_option maxHeartbeats 400000 in
theorem m_copy_1 {SM : zC} {SF : Nat → zQ → zP} (hZ : zZ SM SF) {Q : zQ} {x : zXs} {s as g F ks ot : Nat → Int32} {kp : Int32} {tp : Nat → Int32} {R : zR} {S : Nat → zSh} {mv : Nat → Int64} {c a t p n : Nat} (hc : c < 4) (ht : t < 4) (ha : a + n ≤ 40) (hp : p + n ≤ 40) {f : Nat → Int64} (hf : f = fun l => (S c).2.2 (a + l)) (k : ∀ mv', Q (some (.int (nI n))) (gh x (s, as, g, F, mq ks ot kp tp R (cpS S t f p n) mv'))) :
    ∀ d j, j + d = n → SF mn_M_copy Q 120 [some (.ref 43), some (.int (nI c)), some (.int (nI a)), some (.int (nI t)), some (.int (nI p)), some (.int (nI n)), some (.int (nI j))] [] (0, 0) (gh x (s, as, g, F, mq ks ot kp tp R S (mvf f mv j))) := by
  intro d
  induction d with
  | zero =>
    intro j hj
    have hj : j = n := by omega
    subst hj
    refine zgo hZ 157 99 rfl ?_
    refine ⟨fun _ => ?_, fun h => absurd ((ile rfl rfl (by omega) (by omega)).mpr (Nat.le_refl j)) h⟩
    have h := m_copy_2 (c := c) (a := a) (mv := mvf f mv j) hZ ht hp (f := f) (fun l hl => by unfold mvf; rw [if_pos hl]) (k _) j 0 (by omega)
    rw [cpS_0] at h
    exact h
  | succ d ih =>
    intro j hj
    refine zgo hZ 120 99 rfl ?_
    refine ⟨fun h => ?_, fun _ => ?_⟩
    · have := (ile rfl rfl (by omega) (by omega)).mp h
      omega
    have h := ih (j + 1) (by omega)
    rw [← nI_1, ← mvf_s, show f j = nb S (40 * c + (a + j)) by rw [nb_at S c (by omega), hf]] at h
    refine ⟨40 * c + (a + j), by omega, m40a c a j, ?_⟩
    exact ⟨j, by omega, rfl, h⟩
theorem mvf_0 (f mv : Nat → Int64) : mvf f mv 0 = mv := by funext l; unfold mvf; rw [if_neg (by omega)]
theorem sub_sz {z : Int32} {m : Nat} (h : z = nI m) (h2 : m ≤ 40) {a : Int32} (ha : 0 ≤ a) : (z - a).toInt = (m : Int) - a.toInt := by
  have e0 : (0 : Int32).toInt = 0 := by decide
  rw [zle, e0] at ha
  have := zrng a
  rw [zsub (by rw [h, nI_toInt (by omega)]; omega) (by rw [h, nI_toInt (by omega)]; omega), h, nI_toInt (by omega)]
set_option maxRecDepth 100000 in
set_option maxHeartbeats 400000 in
theorem m_copy {SM : zC} {SF : Nat → zQ → zP} (hZ : zZ SM SF) {Q : zQ} {x : zXs} {s as g F ks ot : Nat → Int32} {kp : Int32} {tp : Nat → Int32} {R : zR} {S : Nat → zSh} {mv : Nat → Int64} (hS : wS S) {c a t p n : Int32} (k : ∀ mv', Q (some (.int (sp_copy S F c a t p n).1)) (gh x (s, as, g, (sp_copy S F c a t p n).2.2, mq ks ot kp tp R (sp_copy S F c a t p n).2.1 mv'))) : SM mn_M_copy [.ref 43, .int c, .int a, .int t, .int p, .int n] (gh x (s, as, g, F, mq ks ot kp tp R S mv)) Q := by
  have e0 : (0 : Int32).toInt = 0 := by decide
  unfold sp_copy at k
  refine zin hZ 120 99 rfl rfl rfl ?_
  refine m_isOne hZ (fun h1 => ⟨nt, fun _ => ?_⟩) (fun h1 => ⟨fun _ => ?_, nf⟩)
  · refine m_isOne hZ (fun h2 => ⟨fun _ => ?_, nt⟩) (fun h2 => ⟨nf, fun _ => ?_⟩)
    · rw [if_pos ⟨zIn4.mp h1, zIn4.mp h2⟩] at k
      obtain ⟨c, hc, rfl⟩ := h1
      obtain ⟨t, ht, rfl⟩ := h2
      rw [ix_nI (by omega), ix_nI (j := t) (by omega)] at k
      obtain ⟨hc1, hc2⟩ := hS c hc
      obtain ⟨ht1, ht2⟩ := hS t ht
      refine ⟨c, hc, rfl, fun h3 => ?_, fun h3 => ⟨t, ht, rfl, fun h4 => ?_, fun h4 => ?_⟩⟩
      · rw [if_pos (Or.inl (show (S c).1 = 0 from h3))] at k
        exact t_finds hZ 5 (by decide) rfl (k _)
      · rw [if_neg (fun z => z.elim (show ¬ (S c).1 = 0 from h3) (show ¬ (S t).1 = 0 from h4))] at k
        refine ⟨c, hc, rfl, t, ht, rfl, fun h5 => ?_, fun h5 => ?_⟩
        · rw [if_pos (show (S c).1 = (S t).1 from h5)] at k
          refine ⟨fun h6 => ?_, fun h6 => ⟨fun h7 => ?_, fun h7 => ⟨fun h8 => ?_, fun h8 => ?_⟩⟩⟩
          · rw [if_neg (fun z => by have z1 := z.1.1; rw [zle] at z1; rw [zlt] at h6; omega)] at k
            exact t_finds hZ 0 (by decide) rfl (k _)
          · rw [if_neg (fun z => by have z1 := z.1.2.1; rw [zle] at z1; rw [zlt] at h7; omega)] at k
            exact t_finds hZ 0 (by decide) rfl (k _)
          · rw [if_neg (fun z => by have z1 := z.1.2.2; rw [zle] at z1; rw [zlt] at h8; omega)] at k
            exact t_finds hZ 0 (by decide) rfl (k _)
          · have a0 : (0 : Int32) ≤ a := by rw [zle]; rw [zlt] at h6; omega
            have p0 : (0 : Int32) ≤ p := by rw [zle]; rw [zlt] at h7; omega
            have n0 : (0 : Int32) ≤ n := by rw [zle]; rw [zlt] at h8; omega
            refine ⟨c, hc, rfl, fun h9 => ?_, fun h9 => ⟨t, ht, rfl, fun h10 => ?_, fun h10 => ?_⟩⟩
            · have h9 : (S c).2.1 - a < n := h9
              rw [zlt, sub_sz hc1 hc2 a0] at h9
              rw [if_neg (fun z => by have z1 := z.2.1; omega)] at k
              exact t_finds hZ 0 (by decide) rfl (k _)
            · have h9 : ¬ (S c).2.1 - a < n := h9
              rw [zlt, sub_sz hc1 hc2 a0] at h9
              have h10 : n ≤ (S t).2.1 - p := h10
              rw [zle, sub_sz ht1 ht2 p0] at h10
              rw [if_pos ⟨⟨a0, p0, n0⟩, by omega, h10⟩] at k
              obtain ⟨a, ha, rfl⟩ := nI_of (x := a) (by rw [zle] at a0; rw [zlt]; omega)
              obtain ⟨p, hp, rfl⟩ := nI_of (x := p) (by rw [zle] at p0; rw [zlt]; omega)
              obtain ⟨n, hn, rfl⟩ := nI_of (x := n) (by rw [zle] at n0; rw [zlt]; omega)
              rw [nI_toInt ha, nI_toInt hn] at h9
              rw [nI_toInt hp, nI_toInt hn] at h10
              rw [ix_nI (j := a) (by omega), ix_nI (j := p) (by omega), ix_nI (j := n) (by omega)] at k
              have h := m_copy_1 (mv := mv) (p := p) hZ hc ht (by omega) (by omega) rfl k n 0 (by omega)
              rw [mvf_0] at h
              exact h
            · have h10 : ¬ n ≤ (S t).2.1 - p := h10
              rw [zle, sub_sz ht1 ht2 p0] at h10
              rw [if_neg (fun z => by have z1 := z.2.2; omega)] at k
              exact t_finds hZ 0 (by decide) rfl (k _)
        · rw [if_neg (show ¬ (S c).1 = (S t).1 from h5)] at k
          exact t_finds hZ 2 (by decide) rfl (k _)
      · rw [if_pos (Or.inr (show (S t).1 = 0 from h4))] at k
        exact t_finds hZ 5 (by decide) rfl (k _)
    · rw [if_neg (fun z => h2 (zIn4.mpr z.2))] at k
      exact t_finds hZ 0 (by decide) rfl (k _)
  · rw [if_neg (fun z => h1 (zIn4.mpr z.1))] at k
    exact t_finds hZ 0 (by decide) rfl (k _)
