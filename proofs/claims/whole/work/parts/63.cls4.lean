/-! THE CLASS, fourth part: a hall becomes another -/
abbrev zY3 : Type := Int32 × zTp × (Nat → zSh) × (Nat → Int32)
/-- a row in another's place -/
def rw1 (d : zS) (f : Nat) (v : Nat → Int32) : zS := fun g => cond (Nat.beq g f) v (d g)
/-- rows copied, numbers taken over -/
def cpZ (d s : zS) : zS := fun f => cond (Nat.beq f 8) (s 8) (va_cpy (s f) (d f) 0 0 8)
theorem cp8 (f g : Nat → Int32) : ∀ j, j < 8 → va_cpy f g 0 0 8 j = f j := by
  intro j hj
  unfold va_cpy
  rw [if_pos (by omega), Nat.zero_add, Nat.sub_zero]
set_option maxRecDepth 100000 in
theorem eH_A {H A K : zHl} {y : zY3} {m : zMs} (τ : zS) : zm_eH (gh (H, (cpZ A.1 τ, A.2), K, y) m) (gh (H, (τ, A.2), K, y) m) :=
  eH_app ⟨zm_eA_rfl _, zm_eA_rfl _, zm_eA_rfl _, zm_eA_rfl _, zm_eA_rfl _, zm_eA_rfl _, zm_eA_rfl _, zm_eA_rfl _, zm_eA_rfl _, zm_eA_rfl _, zm_eA_rfl _, zm_eA_rfl _, eA_i (cp8 _ _), eA_i (cp8 _ _), eA_i (cp8 _ _), eA_i (cp8 _ _), eA_i (cp8 _ _), eA_i (cp8 _ _), eA_i (cp8 _ _), eA_i (cp8 _ _), zm_eA_rfl _, zm_eA_rfl _, zm_eA_rfl _, zm_eA_rfl _, zm_eA_rfl _, zm_eA_rfl _, zm_eA_rfl _, zm_eA_rfl _, zm_eA_rfl _, zm_eA_rfl _, zm_eA_rfl _, zm_eA_rfl _, zm_eA_rfl _, zm_eA_rfl _, zm_eA_rfl _, zm_eA_rfl _, zm_eA_rfl _, zm_eA_rfl _, zm_eA_rfl _, zm_eA_rfl _, zm_eA_rfl _, zm_eA_rfl _, zm_eA_rfl _, trivial⟩ (zm_eH_rfl _)
set_option maxRecDepth 100000 in
theorem eH_H {H A K : zHl} {y : zY3} {m : zMs} (τ : zS) : zm_eH (gh ((cpZ H.1 τ, H.2), A, K, y) m) (gh ((τ, H.2), A, K, y) m) :=
  eH_app ⟨zm_eA_rfl _, zm_eA_rfl _, eA_i (cp8 _ _), eA_i (cp8 _ _), eA_i (cp8 _ _), eA_i (cp8 _ _), eA_i (cp8 _ _), eA_i (cp8 _ _), eA_i (cp8 _ _), eA_i (cp8 _ _), zm_eA_rfl _, zm_eA_rfl _, zm_eA_rfl _, zm_eA_rfl _, zm_eA_rfl _, zm_eA_rfl _, zm_eA_rfl _, zm_eA_rfl _, zm_eA_rfl _, zm_eA_rfl _, zm_eA_rfl _, zm_eA_rfl _, zm_eA_rfl _, zm_eA_rfl _, zm_eA_rfl _, zm_eA_rfl _, zm_eA_rfl _, zm_eA_rfl _, zm_eA_rfl _, zm_eA_rfl _, zm_eA_rfl _, zm_eA_rfl _, zm_eA_rfl _, zm_eA_rfl _, zm_eA_rfl _, zm_eA_rfl _, zm_eA_rfl _, zm_eA_rfl _, zm_eA_rfl _, zm_eA_rfl _, zm_eA_rfl _, zm_eA_rfl _, zm_eA_rfl _, trivial⟩ (zm_eH_rfl _)
set_option maxRecDepth 100000 in
theorem eH_K {H A K : zHl} {y : zY3} {m : zMs} (τ : zS) : zm_eH (gh (H, A, (cpZ K.1 τ, K.2), y) m) (gh (H, A, (τ, K.2), y) m) :=
  eH_app ⟨zm_eA_rfl _, zm_eA_rfl _, zm_eA_rfl _, zm_eA_rfl _, zm_eA_rfl _, zm_eA_rfl _, zm_eA_rfl _, zm_eA_rfl _, zm_eA_rfl _, zm_eA_rfl _, zm_eA_rfl _, zm_eA_rfl _, zm_eA_rfl _, zm_eA_rfl _, zm_eA_rfl _, zm_eA_rfl _, zm_eA_rfl _, zm_eA_rfl _, zm_eA_rfl _, zm_eA_rfl _, zm_eA_rfl _, zm_eA_rfl _, eA_i (cp8 _ _), eA_i (cp8 _ _), eA_i (cp8 _ _), eA_i (cp8 _ _), eA_i (cp8 _ _), eA_i (cp8 _ _), eA_i (cp8 _ _), eA_i (cp8 _ _), zm_eA_rfl _, zm_eA_rfl _, zm_eA_rfl _, zm_eA_rfl _, zm_eA_rfl _, zm_eA_rfl _, zm_eA_rfl _, zm_eA_rfl _, zm_eA_rfl _, zm_eA_rfl _, zm_eA_rfl _, zm_eA_rfl _, zm_eA_rfl _, trivial⟩ (zm_eH_rfl _)
set_option maxRecDepth 100000 in
set_option maxHeartbeats 400000 in
theorem c_becAH_24 {SM : zC} {SF : Nat → zQ → zP} (hZ : zZ SM SF) {Q : zQ} {H A K : zHl} {y : zY3} {m : zMs} (k : SF mn_H_become Q 39 [some (.ref 11), some (.ref 1)] [] (0, 0) (gh (H, (rw1 A.1 0 (va_cpy (H.1 0) (A.1 0) 0 0 8), A.2), K, y) m)) : SF mn_H_become Q 24 [some (.ref 11), some (.ref 1)] [] (0, 0) (gh (H, A, K, y) m) := by
  refine zgo hZ 39 20 rfl ?_
  exact ⟨8, 0, 0, rfl, rfl, rfl, by decide, by decide, by decide, by decide, k⟩
set_option maxRecDepth 100000 in
set_option maxHeartbeats 400000 in
theorem c_becAH_39 {SM : zC} {SF : Nat → zQ → zP} (hZ : zZ SM SF) {Q : zQ} {H A K : zHl} {y : zY3} {m : zMs} (k : SF mn_H_become Q 54 [some (.ref 11), some (.ref 1)] [] (0, 0) (gh (H, (rw1 A.1 1 (va_cpy (H.1 1) (A.1 1) 0 0 8), A.2), K, y) m)) : SF mn_H_become Q 39 [some (.ref 11), some (.ref 1)] [] (0, 0) (gh (H, A, K, y) m) := by
  refine zgo hZ 54 20 rfl ?_
  exact ⟨8, 0, 0, rfl, rfl, rfl, by decide, by decide, by decide, by decide, k⟩
set_option maxRecDepth 100000 in
set_option maxHeartbeats 400000 in
theorem c_becAH_54 {SM : zC} {SF : Nat → zQ → zP} (hZ : zZ SM SF) {Q : zQ} {H A K : zHl} {y : zY3} {m : zMs} (k : SF mn_H_become Q 69 [some (.ref 11), some (.ref 1)] [] (0, 0) (gh (H, (rw1 A.1 2 (va_cpy (H.1 2) (A.1 2) 0 0 8), A.2), K, y) m)) : SF mn_H_become Q 54 [some (.ref 11), some (.ref 1)] [] (0, 0) (gh (H, A, K, y) m) := by
  refine zgo hZ 69 20 rfl ?_
  exact ⟨8, 0, 0, rfl, rfl, rfl, by decide, by decide, by decide, by decide, k⟩
set_option maxRecDepth 100000 in
set_option maxHeartbeats 400000 in
theorem c_becAH_69 {SM : zC} {SF : Nat → zQ → zP} (hZ : zZ SM SF) {Q : zQ} {H A K : zHl} {y : zY3} {m : zMs} (k : SF mn_H_become Q 84 [some (.ref 11), some (.ref 1)] [] (0, 0) (gh (H, (rw1 A.1 3 (va_cpy (H.1 3) (A.1 3) 0 0 8), A.2), K, y) m)) : SF mn_H_become Q 69 [some (.ref 11), some (.ref 1)] [] (0, 0) (gh (H, A, K, y) m) := by
  refine zgo hZ 84 20 rfl ?_
  exact ⟨8, 0, 0, rfl, rfl, rfl, by decide, by decide, by decide, by decide, k⟩
set_option maxRecDepth 100000 in
set_option maxHeartbeats 400000 in
theorem c_becAH_84 {SM : zC} {SF : Nat → zQ → zP} (hZ : zZ SM SF) {Q : zQ} {H A K : zHl} {y : zY3} {m : zMs} (k : SF mn_H_become Q 99 [some (.ref 11), some (.ref 1)] [] (0, 0) (gh (H, (rw1 A.1 4 (va_cpy (H.1 4) (A.1 4) 0 0 8), A.2), K, y) m)) : SF mn_H_become Q 84 [some (.ref 11), some (.ref 1)] [] (0, 0) (gh (H, A, K, y) m) := by
  refine zgo hZ 99 20 rfl ?_
  exact ⟨8, 0, 0, rfl, rfl, rfl, by decide, by decide, by decide, by decide, k⟩
set_option maxRecDepth 100000 in
set_option maxHeartbeats 400000 in
theorem c_becAH_107 {SM : zC} {SF : Nat → zQ → zP} (hZ : zZ SM SF) {Q : zQ} {H A K : zHl} {y : zY3} {m : zMs} (k : SF mn_H_become Q 122 [some (.ref 11), some (.ref 1)] [] (0, 0) (gh (H, (rw1 A.1 5 (va_cpy (H.1 5) (A.1 5) 0 0 8), A.2), K, y) m)) : SF mn_H_become Q 107 [some (.ref 11), some (.ref 1)] [] (0, 0) (gh (H, A, K, y) m) := by
  refine zgo hZ 122 20 rfl ?_
  exact ⟨8, 0, 0, rfl, rfl, rfl, by decide, by decide, by decide, by decide, k⟩
set_option maxRecDepth 100000 in
set_option maxHeartbeats 400000 in
theorem c_becAH_122 {SM : zC} {SF : Nat → zQ → zP} (hZ : zZ SM SF) {Q : zQ} {H A K : zHl} {y : zY3} {m : zMs} (k : SF mn_H_become Q 137 [some (.ref 11), some (.ref 1)] [] (0, 0) (gh (H, (rw1 A.1 6 (va_cpy (H.1 6) (A.1 6) 0 0 8), A.2), K, y) m)) : SF mn_H_become Q 122 [some (.ref 11), some (.ref 1)] [] (0, 0) (gh (H, A, K, y) m) := by
  refine zgo hZ 137 20 rfl ?_
  exact ⟨8, 0, 0, rfl, rfl, rfl, by decide, by decide, by decide, by decide, k⟩
set_option maxRecDepth 100000 in
set_option maxHeartbeats 400000 in
theorem c_becAH_137 {SM : zC} {SF : Nat → zQ → zP} (hZ : zZ SM SF) {Q : zQ} {H A K : zHl} {y : zY3} {m : zMs} (k : SF mn_H_become Q 152 [some (.ref 11), some (.ref 1)] [] (0, 0) (gh (H, (rw1 A.1 7 (va_cpy (H.1 7) (A.1 7) 0 0 8), A.2), K, y) m)) : SF mn_H_become Q 137 [some (.ref 11), some (.ref 1)] [] (0, 0) (gh (H, A, K, y) m) := by
  refine zgo hZ 152 20 rfl ?_
  exact ⟨8, 0, 0, rfl, rfl, rfl, by decide, by decide, by decide, by decide, k⟩
set_option maxRecDepth 100000 in
set_option maxHeartbeats 400000 in
theorem c_becAH_99 {SM : zC} {SF : Nat → zQ → zP} (hZ : zZ SM SF) {Q : zQ} {H A K : zHl} {y : zY3} {m : zMs} (k : SF mn_H_become Q 107 [some (.ref 11), some (.ref 1)] [] (0, 0) (gh (H, (s2 A.1 8 3 (H.1 8 3), A.2), K, y) m)) : SF mn_H_become Q 99 [some (.ref 11), some (.ref 1)] [] (0, 0) (gh (H, A, K, y) m) := by
  refine zgo hZ 107 20 rfl ?_
  exact k
set_option maxRecDepth 100000 in
set_option maxHeartbeats 400000 in
theorem c_becomeAH {SM : zC} {SF : Nat → zQ → zP} (hZ : zZ SM SF) {Q : zQ} {H A K : zHl} {y : zY3} {m : zMs} (k : Q none (gh (H, (H.1, A.2), K, y) m)) : SM mn_H_become [.ref 11, .ref 1] (gh (H, A, K, y) m) Q := by
  have k9 : SF mn_H_become Q 152 [some (.ref 11), some (.ref 1)] [] (0, 0) (gh (H, (cpZ A.1 H.1, A.2), K, y) m) := by
    refine zsame hZ (gh (H, (H.1, A.2), K, y) m) (eH_A H.1) ?_
    refine zgo hZ 999 5 rfl ?_
    exact k
  have k8 : SF mn_H_become Q 137 [some (.ref 11), some (.ref 1)] [] (0, 0) (gh (H, ((rw1 (rw1 (s2 (rw1 (rw1 (rw1 (rw1 (rw1 (s2 (s2 (s2 A.1 8 0 (H.1 8 0)) 8 1 (H.1 8 1)) 8 2 (H.1 8 2)) 0 (va_cpy (H.1 0) (A.1 0) 0 0 8)) 1 (va_cpy (H.1 1) (A.1 1) 0 0 8)) 2 (va_cpy (H.1 2) (A.1 2) 0 0 8)) 3 (va_cpy (H.1 3) (A.1 3) 0 0 8)) 4 (va_cpy (H.1 4) (A.1 4) 0 0 8)) 8 3 (H.1 8 3)) 5 (va_cpy (H.1 5) (A.1 5) 0 0 8)) 6 (va_cpy (H.1 6) (A.1 6) 0 0 8)), A.2), K, y) m) := c_becAH_137 (A := ((rw1 (rw1 (s2 (rw1 (rw1 (rw1 (rw1 (rw1 (s2 (s2 (s2 A.1 8 0 (H.1 8 0)) 8 1 (H.1 8 1)) 8 2 (H.1 8 2)) 0 (va_cpy (H.1 0) (A.1 0) 0 0 8)) 1 (va_cpy (H.1 1) (A.1 1) 0 0 8)) 2 (va_cpy (H.1 2) (A.1 2) 0 0 8)) 3 (va_cpy (H.1 3) (A.1 3) 0 0 8)) 4 (va_cpy (H.1 4) (A.1 4) 0 0 8)) 8 3 (H.1 8 3)) 5 (va_cpy (H.1 5) (A.1 5) 0 0 8)) 6 (va_cpy (H.1 6) (A.1 6) 0 0 8)), A.2)) hZ k9
  have k7 : SF mn_H_become Q 122 [some (.ref 11), some (.ref 1)] [] (0, 0) (gh (H, ((rw1 (s2 (rw1 (rw1 (rw1 (rw1 (rw1 (s2 (s2 (s2 A.1 8 0 (H.1 8 0)) 8 1 (H.1 8 1)) 8 2 (H.1 8 2)) 0 (va_cpy (H.1 0) (A.1 0) 0 0 8)) 1 (va_cpy (H.1 1) (A.1 1) 0 0 8)) 2 (va_cpy (H.1 2) (A.1 2) 0 0 8)) 3 (va_cpy (H.1 3) (A.1 3) 0 0 8)) 4 (va_cpy (H.1 4) (A.1 4) 0 0 8)) 8 3 (H.1 8 3)) 5 (va_cpy (H.1 5) (A.1 5) 0 0 8)), A.2), K, y) m) := c_becAH_122 (A := ((rw1 (s2 (rw1 (rw1 (rw1 (rw1 (rw1 (s2 (s2 (s2 A.1 8 0 (H.1 8 0)) 8 1 (H.1 8 1)) 8 2 (H.1 8 2)) 0 (va_cpy (H.1 0) (A.1 0) 0 0 8)) 1 (va_cpy (H.1 1) (A.1 1) 0 0 8)) 2 (va_cpy (H.1 2) (A.1 2) 0 0 8)) 3 (va_cpy (H.1 3) (A.1 3) 0 0 8)) 4 (va_cpy (H.1 4) (A.1 4) 0 0 8)) 8 3 (H.1 8 3)) 5 (va_cpy (H.1 5) (A.1 5) 0 0 8)), A.2)) hZ k8
  have k6 : SF mn_H_become Q 107 [some (.ref 11), some (.ref 1)] [] (0, 0) (gh (H, ((s2 (rw1 (rw1 (rw1 (rw1 (rw1 (s2 (s2 (s2 A.1 8 0 (H.1 8 0)) 8 1 (H.1 8 1)) 8 2 (H.1 8 2)) 0 (va_cpy (H.1 0) (A.1 0) 0 0 8)) 1 (va_cpy (H.1 1) (A.1 1) 0 0 8)) 2 (va_cpy (H.1 2) (A.1 2) 0 0 8)) 3 (va_cpy (H.1 3) (A.1 3) 0 0 8)) 4 (va_cpy (H.1 4) (A.1 4) 0 0 8)) 8 3 (H.1 8 3)), A.2), K, y) m) := c_becAH_107 (A := ((s2 (rw1 (rw1 (rw1 (rw1 (rw1 (s2 (s2 (s2 A.1 8 0 (H.1 8 0)) 8 1 (H.1 8 1)) 8 2 (H.1 8 2)) 0 (va_cpy (H.1 0) (A.1 0) 0 0 8)) 1 (va_cpy (H.1 1) (A.1 1) 0 0 8)) 2 (va_cpy (H.1 2) (A.1 2) 0 0 8)) 3 (va_cpy (H.1 3) (A.1 3) 0 0 8)) 4 (va_cpy (H.1 4) (A.1 4) 0 0 8)) 8 3 (H.1 8 3)), A.2)) hZ k7
  have k5 : SF mn_H_become Q 99 [some (.ref 11), some (.ref 1)] [] (0, 0) (gh (H, ((rw1 (rw1 (rw1 (rw1 (rw1 (s2 (s2 (s2 A.1 8 0 (H.1 8 0)) 8 1 (H.1 8 1)) 8 2 (H.1 8 2)) 0 (va_cpy (H.1 0) (A.1 0) 0 0 8)) 1 (va_cpy (H.1 1) (A.1 1) 0 0 8)) 2 (va_cpy (H.1 2) (A.1 2) 0 0 8)) 3 (va_cpy (H.1 3) (A.1 3) 0 0 8)) 4 (va_cpy (H.1 4) (A.1 4) 0 0 8)), A.2), K, y) m) := c_becAH_99 (A := ((rw1 (rw1 (rw1 (rw1 (rw1 (s2 (s2 (s2 A.1 8 0 (H.1 8 0)) 8 1 (H.1 8 1)) 8 2 (H.1 8 2)) 0 (va_cpy (H.1 0) (A.1 0) 0 0 8)) 1 (va_cpy (H.1 1) (A.1 1) 0 0 8)) 2 (va_cpy (H.1 2) (A.1 2) 0 0 8)) 3 (va_cpy (H.1 3) (A.1 3) 0 0 8)) 4 (va_cpy (H.1 4) (A.1 4) 0 0 8)), A.2)) hZ k6
  have k4 : SF mn_H_become Q 84 [some (.ref 11), some (.ref 1)] [] (0, 0) (gh (H, ((rw1 (rw1 (rw1 (rw1 (s2 (s2 (s2 A.1 8 0 (H.1 8 0)) 8 1 (H.1 8 1)) 8 2 (H.1 8 2)) 0 (va_cpy (H.1 0) (A.1 0) 0 0 8)) 1 (va_cpy (H.1 1) (A.1 1) 0 0 8)) 2 (va_cpy (H.1 2) (A.1 2) 0 0 8)) 3 (va_cpy (H.1 3) (A.1 3) 0 0 8)), A.2), K, y) m) := c_becAH_84 (A := ((rw1 (rw1 (rw1 (rw1 (s2 (s2 (s2 A.1 8 0 (H.1 8 0)) 8 1 (H.1 8 1)) 8 2 (H.1 8 2)) 0 (va_cpy (H.1 0) (A.1 0) 0 0 8)) 1 (va_cpy (H.1 1) (A.1 1) 0 0 8)) 2 (va_cpy (H.1 2) (A.1 2) 0 0 8)) 3 (va_cpy (H.1 3) (A.1 3) 0 0 8)), A.2)) hZ k5
  have k3 : SF mn_H_become Q 69 [some (.ref 11), some (.ref 1)] [] (0, 0) (gh (H, ((rw1 (rw1 (rw1 (s2 (s2 (s2 A.1 8 0 (H.1 8 0)) 8 1 (H.1 8 1)) 8 2 (H.1 8 2)) 0 (va_cpy (H.1 0) (A.1 0) 0 0 8)) 1 (va_cpy (H.1 1) (A.1 1) 0 0 8)) 2 (va_cpy (H.1 2) (A.1 2) 0 0 8)), A.2), K, y) m) := c_becAH_69 (A := ((rw1 (rw1 (rw1 (s2 (s2 (s2 A.1 8 0 (H.1 8 0)) 8 1 (H.1 8 1)) 8 2 (H.1 8 2)) 0 (va_cpy (H.1 0) (A.1 0) 0 0 8)) 1 (va_cpy (H.1 1) (A.1 1) 0 0 8)) 2 (va_cpy (H.1 2) (A.1 2) 0 0 8)), A.2)) hZ k4
  have k2 : SF mn_H_become Q 54 [some (.ref 11), some (.ref 1)] [] (0, 0) (gh (H, ((rw1 (rw1 (s2 (s2 (s2 A.1 8 0 (H.1 8 0)) 8 1 (H.1 8 1)) 8 2 (H.1 8 2)) 0 (va_cpy (H.1 0) (A.1 0) 0 0 8)) 1 (va_cpy (H.1 1) (A.1 1) 0 0 8)), A.2), K, y) m) := c_becAH_54 (A := ((rw1 (rw1 (s2 (s2 (s2 A.1 8 0 (H.1 8 0)) 8 1 (H.1 8 1)) 8 2 (H.1 8 2)) 0 (va_cpy (H.1 0) (A.1 0) 0 0 8)) 1 (va_cpy (H.1 1) (A.1 1) 0 0 8)), A.2)) hZ k3
  have k1 : SF mn_H_become Q 39 [some (.ref 11), some (.ref 1)] [] (0, 0) (gh (H, ((rw1 (s2 (s2 (s2 A.1 8 0 (H.1 8 0)) 8 1 (H.1 8 1)) 8 2 (H.1 8 2)) 0 (va_cpy (H.1 0) (A.1 0) 0 0 8)), A.2), K, y) m) := c_becAH_39 (A := ((rw1 (s2 (s2 (s2 A.1 8 0 (H.1 8 0)) 8 1 (H.1 8 1)) 8 2 (H.1 8 2)) 0 (va_cpy (H.1 0) (A.1 0) 0 0 8)), A.2)) hZ k2
  have k0 : SF mn_H_become Q 24 [some (.ref 11), some (.ref 1)] [] (0, 0) (gh (H, ((s2 (s2 (s2 A.1 8 0 (H.1 8 0)) 8 1 (H.1 8 1)) 8 2 (H.1 8 2)), A.2), K, y) m) := c_becAH_24 (A := ((s2 (s2 (s2 A.1 8 0 (H.1 8 0)) 8 1 (H.1 8 1)) 8 2 (H.1 8 2)), A.2)) hZ k1
  refine zin hZ 24 30 rfl rfl rfl ?_
  exact k0
set_option maxRecDepth 100000 in
set_option maxHeartbeats 400000 in
theorem c_becHA_24 {SM : zC} {SF : Nat → zQ → zP} (hZ : zZ SM SF) {Q : zQ} {H A K : zHl} {y : zY3} {m : zMs} (k : SF mn_H_become Q 39 [some (.ref 1), some (.ref 11)] [] (0, 0) (gh ((rw1 H.1 0 (va_cpy (A.1 0) (H.1 0) 0 0 8), H.2), A, K, y) m)) : SF mn_H_become Q 24 [some (.ref 1), some (.ref 11)] [] (0, 0) (gh (H, A, K, y) m) := by
  refine zgo hZ 39 20 rfl ?_
  exact ⟨8, 0, 0, rfl, rfl, rfl, by decide, by decide, by decide, by decide, k⟩
set_option maxRecDepth 100000 in
set_option maxHeartbeats 400000 in
theorem c_becHA_39 {SM : zC} {SF : Nat → zQ → zP} (hZ : zZ SM SF) {Q : zQ} {H A K : zHl} {y : zY3} {m : zMs} (k : SF mn_H_become Q 54 [some (.ref 1), some (.ref 11)] [] (0, 0) (gh ((rw1 H.1 1 (va_cpy (A.1 1) (H.1 1) 0 0 8), H.2), A, K, y) m)) : SF mn_H_become Q 39 [some (.ref 1), some (.ref 11)] [] (0, 0) (gh (H, A, K, y) m) := by
  refine zgo hZ 54 20 rfl ?_
  exact ⟨8, 0, 0, rfl, rfl, rfl, by decide, by decide, by decide, by decide, k⟩
set_option maxRecDepth 100000 in
set_option maxHeartbeats 400000 in
theorem c_becHA_54 {SM : zC} {SF : Nat → zQ → zP} (hZ : zZ SM SF) {Q : zQ} {H A K : zHl} {y : zY3} {m : zMs} (k : SF mn_H_become Q 69 [some (.ref 1), some (.ref 11)] [] (0, 0) (gh ((rw1 H.1 2 (va_cpy (A.1 2) (H.1 2) 0 0 8), H.2), A, K, y) m)) : SF mn_H_become Q 54 [some (.ref 1), some (.ref 11)] [] (0, 0) (gh (H, A, K, y) m) := by
  refine zgo hZ 69 20 rfl ?_
  exact ⟨8, 0, 0, rfl, rfl, rfl, by decide, by decide, by decide, by decide, k⟩
set_option maxRecDepth 100000 in
set_option maxHeartbeats 400000 in
theorem c_becHA_69 {SM : zC} {SF : Nat → zQ → zP} (hZ : zZ SM SF) {Q : zQ} {H A K : zHl} {y : zY3} {m : zMs} (k : SF mn_H_become Q 84 [some (.ref 1), some (.ref 11)] [] (0, 0) (gh ((rw1 H.1 3 (va_cpy (A.1 3) (H.1 3) 0 0 8), H.2), A, K, y) m)) : SF mn_H_become Q 69 [some (.ref 1), some (.ref 11)] [] (0, 0) (gh (H, A, K, y) m) := by
  refine zgo hZ 84 20 rfl ?_
  exact ⟨8, 0, 0, rfl, rfl, rfl, by decide, by decide, by decide, by decide, k⟩
set_option maxRecDepth 100000 in
set_option maxHeartbeats 400000 in
theorem c_becHA_84 {SM : zC} {SF : Nat → zQ → zP} (hZ : zZ SM SF) {Q : zQ} {H A K : zHl} {y : zY3} {m : zMs} (k : SF mn_H_become Q 99 [some (.ref 1), some (.ref 11)] [] (0, 0) (gh ((rw1 H.1 4 (va_cpy (A.1 4) (H.1 4) 0 0 8), H.2), A, K, y) m)) : SF mn_H_become Q 84 [some (.ref 1), some (.ref 11)] [] (0, 0) (gh (H, A, K, y) m) := by
  refine zgo hZ 99 20 rfl ?_
  exact ⟨8, 0, 0, rfl, rfl, rfl, by decide, by decide, by decide, by decide, k⟩
set_option maxRecDepth 100000 in
set_option maxHeartbeats 400000 in
theorem c_becHA_107 {SM : zC} {SF : Nat → zQ → zP} (hZ : zZ SM SF) {Q : zQ} {H A K : zHl} {y : zY3} {m : zMs} (k : SF mn_H_become Q 122 [some (.ref 1), some (.ref 11)] [] (0, 0) (gh ((rw1 H.1 5 (va_cpy (A.1 5) (H.1 5) 0 0 8), H.2), A, K, y) m)) : SF mn_H_become Q 107 [some (.ref 1), some (.ref 11)] [] (0, 0) (gh (H, A, K, y) m) := by
  refine zgo hZ 122 20 rfl ?_
  exact ⟨8, 0, 0, rfl, rfl, rfl, by decide, by decide, by decide, by decide, k⟩
set_option maxRecDepth 100000 in
set_option maxHeartbeats 400000 in
theorem c_becHA_122 {SM : zC} {SF : Nat → zQ → zP} (hZ : zZ SM SF) {Q : zQ} {H A K : zHl} {y : zY3} {m : zMs} (k : SF mn_H_become Q 137 [some (.ref 1), some (.ref 11)] [] (0, 0) (gh ((rw1 H.1 6 (va_cpy (A.1 6) (H.1 6) 0 0 8), H.2), A, K, y) m)) : SF mn_H_become Q 122 [some (.ref 1), some (.ref 11)] [] (0, 0) (gh (H, A, K, y) m) := by
  refine zgo hZ 137 20 rfl ?_
  exact ⟨8, 0, 0, rfl, rfl, rfl, by decide, by decide, by decide, by decide, k⟩
set_option maxRecDepth 100000 in
set_option maxHeartbeats 400000 in
theorem c_becHA_137 {SM : zC} {SF : Nat → zQ → zP} (hZ : zZ SM SF) {Q : zQ} {H A K : zHl} {y : zY3} {m : zMs} (k : SF mn_H_become Q 152 [some (.ref 1), some (.ref 11)] [] (0, 0) (gh ((rw1 H.1 7 (va_cpy (A.1 7) (H.1 7) 0 0 8), H.2), A, K, y) m)) : SF mn_H_become Q 137 [some (.ref 1), some (.ref 11)] [] (0, 0) (gh (H, A, K, y) m) := by
  refine zgo hZ 152 20 rfl ?_
  exact ⟨8, 0, 0, rfl, rfl, rfl, by decide, by decide, by decide, by decide, k⟩
set_option maxRecDepth 100000 in
set_option maxHeartbeats 400000 in
theorem c_becHA_99 {SM : zC} {SF : Nat → zQ → zP} (hZ : zZ SM SF) {Q : zQ} {H A K : zHl} {y : zY3} {m : zMs} (k : SF mn_H_become Q 107 [some (.ref 1), some (.ref 11)] [] (0, 0) (gh ((s2 H.1 8 3 (A.1 8 3), H.2), A, K, y) m)) : SF mn_H_become Q 99 [some (.ref 1), some (.ref 11)] [] (0, 0) (gh (H, A, K, y) m) := by
  refine zgo hZ 107 20 rfl ?_
  exact k
set_option maxRecDepth 100000 in
set_option maxHeartbeats 400000 in
theorem c_becomeHA {SM : zC} {SF : Nat → zQ → zP} (hZ : zZ SM SF) {Q : zQ} {H A K : zHl} {y : zY3} {m : zMs} (k : Q none (gh ((A.1, H.2), A, K, y) m)) : SM mn_H_become [.ref 1, .ref 11] (gh (H, A, K, y) m) Q := by
  have k9 : SF mn_H_become Q 152 [some (.ref 1), some (.ref 11)] [] (0, 0) (gh ((cpZ H.1 A.1, H.2), A, K, y) m) := by
    refine zsame hZ (gh ((A.1, H.2), A, K, y) m) (eH_H A.1) ?_
    refine zgo hZ 999 5 rfl ?_
    exact k
  have k8 : SF mn_H_become Q 137 [some (.ref 1), some (.ref 11)] [] (0, 0) (gh (((rw1 (rw1 (s2 (rw1 (rw1 (rw1 (rw1 (rw1 (s2 (s2 (s2 H.1 8 0 (A.1 8 0)) 8 1 (A.1 8 1)) 8 2 (A.1 8 2)) 0 (va_cpy (A.1 0) (H.1 0) 0 0 8)) 1 (va_cpy (A.1 1) (H.1 1) 0 0 8)) 2 (va_cpy (A.1 2) (H.1 2) 0 0 8)) 3 (va_cpy (A.1 3) (H.1 3) 0 0 8)) 4 (va_cpy (A.1 4) (H.1 4) 0 0 8)) 8 3 (A.1 8 3)) 5 (va_cpy (A.1 5) (H.1 5) 0 0 8)) 6 (va_cpy (A.1 6) (H.1 6) 0 0 8)), H.2), A, K, y) m) := c_becHA_137 (H := ((rw1 (rw1 (s2 (rw1 (rw1 (rw1 (rw1 (rw1 (s2 (s2 (s2 H.1 8 0 (A.1 8 0)) 8 1 (A.1 8 1)) 8 2 (A.1 8 2)) 0 (va_cpy (A.1 0) (H.1 0) 0 0 8)) 1 (va_cpy (A.1 1) (H.1 1) 0 0 8)) 2 (va_cpy (A.1 2) (H.1 2) 0 0 8)) 3 (va_cpy (A.1 3) (H.1 3) 0 0 8)) 4 (va_cpy (A.1 4) (H.1 4) 0 0 8)) 8 3 (A.1 8 3)) 5 (va_cpy (A.1 5) (H.1 5) 0 0 8)) 6 (va_cpy (A.1 6) (H.1 6) 0 0 8)), H.2)) hZ k9
  have k7 : SF mn_H_become Q 122 [some (.ref 1), some (.ref 11)] [] (0, 0) (gh (((rw1 (s2 (rw1 (rw1 (rw1 (rw1 (rw1 (s2 (s2 (s2 H.1 8 0 (A.1 8 0)) 8 1 (A.1 8 1)) 8 2 (A.1 8 2)) 0 (va_cpy (A.1 0) (H.1 0) 0 0 8)) 1 (va_cpy (A.1 1) (H.1 1) 0 0 8)) 2 (va_cpy (A.1 2) (H.1 2) 0 0 8)) 3 (va_cpy (A.1 3) (H.1 3) 0 0 8)) 4 (va_cpy (A.1 4) (H.1 4) 0 0 8)) 8 3 (A.1 8 3)) 5 (va_cpy (A.1 5) (H.1 5) 0 0 8)), H.2), A, K, y) m) := c_becHA_122 (H := ((rw1 (s2 (rw1 (rw1 (rw1 (rw1 (rw1 (s2 (s2 (s2 H.1 8 0 (A.1 8 0)) 8 1 (A.1 8 1)) 8 2 (A.1 8 2)) 0 (va_cpy (A.1 0) (H.1 0) 0 0 8)) 1 (va_cpy (A.1 1) (H.1 1) 0 0 8)) 2 (va_cpy (A.1 2) (H.1 2) 0 0 8)) 3 (va_cpy (A.1 3) (H.1 3) 0 0 8)) 4 (va_cpy (A.1 4) (H.1 4) 0 0 8)) 8 3 (A.1 8 3)) 5 (va_cpy (A.1 5) (H.1 5) 0 0 8)), H.2)) hZ k8
  have k6 : SF mn_H_become Q 107 [some (.ref 1), some (.ref 11)] [] (0, 0) (gh (((s2 (rw1 (rw1 (rw1 (rw1 (rw1 (s2 (s2 (s2 H.1 8 0 (A.1 8 0)) 8 1 (A.1 8 1)) 8 2 (A.1 8 2)) 0 (va_cpy (A.1 0) (H.1 0) 0 0 8)) 1 (va_cpy (A.1 1) (H.1 1) 0 0 8)) 2 (va_cpy (A.1 2) (H.1 2) 0 0 8)) 3 (va_cpy (A.1 3) (H.1 3) 0 0 8)) 4 (va_cpy (A.1 4) (H.1 4) 0 0 8)) 8 3 (A.1 8 3)), H.2), A, K, y) m) := c_becHA_107 (H := ((s2 (rw1 (rw1 (rw1 (rw1 (rw1 (s2 (s2 (s2 H.1 8 0 (A.1 8 0)) 8 1 (A.1 8 1)) 8 2 (A.1 8 2)) 0 (va_cpy (A.1 0) (H.1 0) 0 0 8)) 1 (va_cpy (A.1 1) (H.1 1) 0 0 8)) 2 (va_cpy (A.1 2) (H.1 2) 0 0 8)) 3 (va_cpy (A.1 3) (H.1 3) 0 0 8)) 4 (va_cpy (A.1 4) (H.1 4) 0 0 8)) 8 3 (A.1 8 3)), H.2)) hZ k7
  have k5 : SF mn_H_become Q 99 [some (.ref 1), some (.ref 11)] [] (0, 0) (gh (((rw1 (rw1 (rw1 (rw1 (rw1 (s2 (s2 (s2 H.1 8 0 (A.1 8 0)) 8 1 (A.1 8 1)) 8 2 (A.1 8 2)) 0 (va_cpy (A.1 0) (H.1 0) 0 0 8)) 1 (va_cpy (A.1 1) (H.1 1) 0 0 8)) 2 (va_cpy (A.1 2) (H.1 2) 0 0 8)) 3 (va_cpy (A.1 3) (H.1 3) 0 0 8)) 4 (va_cpy (A.1 4) (H.1 4) 0 0 8)), H.2), A, K, y) m) := c_becHA_99 (H := ((rw1 (rw1 (rw1 (rw1 (rw1 (s2 (s2 (s2 H.1 8 0 (A.1 8 0)) 8 1 (A.1 8 1)) 8 2 (A.1 8 2)) 0 (va_cpy (A.1 0) (H.1 0) 0 0 8)) 1 (va_cpy (A.1 1) (H.1 1) 0 0 8)) 2 (va_cpy (A.1 2) (H.1 2) 0 0 8)) 3 (va_cpy (A.1 3) (H.1 3) 0 0 8)) 4 (va_cpy (A.1 4) (H.1 4) 0 0 8)), H.2)) hZ k6
  have k4 : SF mn_H_become Q 84 [some (.ref 1), some (.ref 11)] [] (0, 0) (gh (((rw1 (rw1 (rw1 (rw1 (s2 (s2 (s2 H.1 8 0 (A.1 8 0)) 8 1 (A.1 8 1)) 8 2 (A.1 8 2)) 0 (va_cpy (A.1 0) (H.1 0) 0 0 8)) 1 (va_cpy (A.1 1) (H.1 1) 0 0 8)) 2 (va_cpy (A.1 2) (H.1 2) 0 0 8)) 3 (va_cpy (A.1 3) (H.1 3) 0 0 8)), H.2), A, K, y) m) := c_becHA_84 (H := ((rw1 (rw1 (rw1 (rw1 (s2 (s2 (s2 H.1 8 0 (A.1 8 0)) 8 1 (A.1 8 1)) 8 2 (A.1 8 2)) 0 (va_cpy (A.1 0) (H.1 0) 0 0 8)) 1 (va_cpy (A.1 1) (H.1 1) 0 0 8)) 2 (va_cpy (A.1 2) (H.1 2) 0 0 8)) 3 (va_cpy (A.1 3) (H.1 3) 0 0 8)), H.2)) hZ k5
  have k3 : SF mn_H_become Q 69 [some (.ref 1), some (.ref 11)] [] (0, 0) (gh (((rw1 (rw1 (rw1 (s2 (s2 (s2 H.1 8 0 (A.1 8 0)) 8 1 (A.1 8 1)) 8 2 (A.1 8 2)) 0 (va_cpy (A.1 0) (H.1 0) 0 0 8)) 1 (va_cpy (A.1 1) (H.1 1) 0 0 8)) 2 (va_cpy (A.1 2) (H.1 2) 0 0 8)), H.2), A, K, y) m) := c_becHA_69 (H := ((rw1 (rw1 (rw1 (s2 (s2 (s2 H.1 8 0 (A.1 8 0)) 8 1 (A.1 8 1)) 8 2 (A.1 8 2)) 0 (va_cpy (A.1 0) (H.1 0) 0 0 8)) 1 (va_cpy (A.1 1) (H.1 1) 0 0 8)) 2 (va_cpy (A.1 2) (H.1 2) 0 0 8)), H.2)) hZ k4
  have k2 : SF mn_H_become Q 54 [some (.ref 1), some (.ref 11)] [] (0, 0) (gh (((rw1 (rw1 (s2 (s2 (s2 H.1 8 0 (A.1 8 0)) 8 1 (A.1 8 1)) 8 2 (A.1 8 2)) 0 (va_cpy (A.1 0) (H.1 0) 0 0 8)) 1 (va_cpy (A.1 1) (H.1 1) 0 0 8)), H.2), A, K, y) m) := c_becHA_54 (H := ((rw1 (rw1 (s2 (s2 (s2 H.1 8 0 (A.1 8 0)) 8 1 (A.1 8 1)) 8 2 (A.1 8 2)) 0 (va_cpy (A.1 0) (H.1 0) 0 0 8)) 1 (va_cpy (A.1 1) (H.1 1) 0 0 8)), H.2)) hZ k3
  have k1 : SF mn_H_become Q 39 [some (.ref 1), some (.ref 11)] [] (0, 0) (gh (((rw1 (s2 (s2 (s2 H.1 8 0 (A.1 8 0)) 8 1 (A.1 8 1)) 8 2 (A.1 8 2)) 0 (va_cpy (A.1 0) (H.1 0) 0 0 8)), H.2), A, K, y) m) := c_becHA_39 (H := ((rw1 (s2 (s2 (s2 H.1 8 0 (A.1 8 0)) 8 1 (A.1 8 1)) 8 2 (A.1 8 2)) 0 (va_cpy (A.1 0) (H.1 0) 0 0 8)), H.2)) hZ k2
  have k0 : SF mn_H_become Q 24 [some (.ref 1), some (.ref 11)] [] (0, 0) (gh (((s2 (s2 (s2 H.1 8 0 (A.1 8 0)) 8 1 (A.1 8 1)) 8 2 (A.1 8 2)), H.2), A, K, y) m) := c_becHA_24 (H := ((s2 (s2 (s2 H.1 8 0 (A.1 8 0)) 8 1 (A.1 8 1)) 8 2 (A.1 8 2)), H.2)) hZ k1
  refine zin hZ 24 30 rfl rfl rfl ?_
  exact k0
set_option maxRecDepth 100000 in
set_option maxHeartbeats 400000 in
theorem c_becKH_24 {SM : zC} {SF : Nat → zQ → zP} (hZ : zZ SM SF) {Q : zQ} {H A K : zHl} {y : zY3} {m : zMs} (k : SF mn_H_become Q 39 [some (.ref 21), some (.ref 1)] [] (0, 0) (gh (H, A, (rw1 K.1 0 (va_cpy (H.1 0) (K.1 0) 0 0 8), K.2), y) m)) : SF mn_H_become Q 24 [some (.ref 21), some (.ref 1)] [] (0, 0) (gh (H, A, K, y) m) := by
  refine zgo hZ 39 20 rfl ?_
  exact ⟨8, 0, 0, rfl, rfl, rfl, by decide, by decide, by decide, by decide, k⟩
set_option maxRecDepth 100000 in
set_option maxHeartbeats 400000 in
theorem c_becKH_39 {SM : zC} {SF : Nat → zQ → zP} (hZ : zZ SM SF) {Q : zQ} {H A K : zHl} {y : zY3} {m : zMs} (k : SF mn_H_become Q 54 [some (.ref 21), some (.ref 1)] [] (0, 0) (gh (H, A, (rw1 K.1 1 (va_cpy (H.1 1) (K.1 1) 0 0 8), K.2), y) m)) : SF mn_H_become Q 39 [some (.ref 21), some (.ref 1)] [] (0, 0) (gh (H, A, K, y) m) := by
  refine zgo hZ 54 20 rfl ?_
  exact ⟨8, 0, 0, rfl, rfl, rfl, by decide, by decide, by decide, by decide, k⟩
set_option maxRecDepth 100000 in
set_option maxHeartbeats 400000 in
theorem c_becKH_54 {SM : zC} {SF : Nat → zQ → zP} (hZ : zZ SM SF) {Q : zQ} {H A K : zHl} {y : zY3} {m : zMs} (k : SF mn_H_become Q 69 [some (.ref 21), some (.ref 1)] [] (0, 0) (gh (H, A, (rw1 K.1 2 (va_cpy (H.1 2) (K.1 2) 0 0 8), K.2), y) m)) : SF mn_H_become Q 54 [some (.ref 21), some (.ref 1)] [] (0, 0) (gh (H, A, K, y) m) := by
  refine zgo hZ 69 20 rfl ?_
  exact ⟨8, 0, 0, rfl, rfl, rfl, by decide, by decide, by decide, by decide, k⟩
set_option maxRecDepth 100000 in
set_option maxHeartbeats 400000 in
theorem c_becKH_69 {SM : zC} {SF : Nat → zQ → zP} (hZ : zZ SM SF) {Q : zQ} {H A K : zHl} {y : zY3} {m : zMs} (k : SF mn_H_become Q 84 [some (.ref 21), some (.ref 1)] [] (0, 0) (gh (H, A, (rw1 K.1 3 (va_cpy (H.1 3) (K.1 3) 0 0 8), K.2), y) m)) : SF mn_H_become Q 69 [some (.ref 21), some (.ref 1)] [] (0, 0) (gh (H, A, K, y) m) := by
  refine zgo hZ 84 20 rfl ?_
  exact ⟨8, 0, 0, rfl, rfl, rfl, by decide, by decide, by decide, by decide, k⟩
set_option maxRecDepth 100000 in
set_option maxHeartbeats 400000 in
theorem c_becKH_84 {SM : zC} {SF : Nat → zQ → zP} (hZ : zZ SM SF) {Q : zQ} {H A K : zHl} {y : zY3} {m : zMs} (k : SF mn_H_become Q 99 [some (.ref 21), some (.ref 1)] [] (0, 0) (gh (H, A, (rw1 K.1 4 (va_cpy (H.1 4) (K.1 4) 0 0 8), K.2), y) m)) : SF mn_H_become Q 84 [some (.ref 21), some (.ref 1)] [] (0, 0) (gh (H, A, K, y) m) := by
  refine zgo hZ 99 20 rfl ?_
  exact ⟨8, 0, 0, rfl, rfl, rfl, by decide, by decide, by decide, by decide, k⟩
set_option maxRecDepth 100000 in
set_option maxHeartbeats 400000 in
theorem c_becKH_107 {SM : zC} {SF : Nat → zQ → zP} (hZ : zZ SM SF) {Q : zQ} {H A K : zHl} {y : zY3} {m : zMs} (k : SF mn_H_become Q 122 [some (.ref 21), some (.ref 1)] [] (0, 0) (gh (H, A, (rw1 K.1 5 (va_cpy (H.1 5) (K.1 5) 0 0 8), K.2), y) m)) : SF mn_H_become Q 107 [some (.ref 21), some (.ref 1)] [] (0, 0) (gh (H, A, K, y) m) := by
  refine zgo hZ 122 20 rfl ?_
  exact ⟨8, 0, 0, rfl, rfl, rfl, by decide, by decide, by decide, by decide, k⟩
set_option maxRecDepth 100000 in
set_option maxHeartbeats 400000 in
theorem c_becKH_122 {SM : zC} {SF : Nat → zQ → zP} (hZ : zZ SM SF) {Q : zQ} {H A K : zHl} {y : zY3} {m : zMs} (k : SF mn_H_become Q 137 [some (.ref 21), some (.ref 1)] [] (0, 0) (gh (H, A, (rw1 K.1 6 (va_cpy (H.1 6) (K.1 6) 0 0 8), K.2), y) m)) : SF mn_H_become Q 122 [some (.ref 21), some (.ref 1)] [] (0, 0) (gh (H, A, K, y) m) := by
  refine zgo hZ 137 20 rfl ?_
  exact ⟨8, 0, 0, rfl, rfl, rfl, by decide, by decide, by decide, by decide, k⟩
set_option maxRecDepth 100000 in
set_option maxHeartbeats 400000 in
theorem c_becKH_137 {SM : zC} {SF : Nat → zQ → zP} (hZ : zZ SM SF) {Q : zQ} {H A K : zHl} {y : zY3} {m : zMs} (k : SF mn_H_become Q 152 [some (.ref 21), some (.ref 1)] [] (0, 0) (gh (H, A, (rw1 K.1 7 (va_cpy (H.1 7) (K.1 7) 0 0 8), K.2), y) m)) : SF mn_H_become Q 137 [some (.ref 21), some (.ref 1)] [] (0, 0) (gh (H, A, K, y) m) := by
  refine zgo hZ 152 20 rfl ?_
  exact ⟨8, 0, 0, rfl, rfl, rfl, by decide, by decide, by decide, by decide, k⟩
set_option maxRecDepth 100000 in
set_option maxHeartbeats 400000 in
theorem c_becKH_99 {SM : zC} {SF : Nat → zQ → zP} (hZ : zZ SM SF) {Q : zQ} {H A K : zHl} {y : zY3} {m : zMs} (k : SF mn_H_become Q 107 [some (.ref 21), some (.ref 1)] [] (0, 0) (gh (H, A, (s2 K.1 8 3 (H.1 8 3), K.2), y) m)) : SF mn_H_become Q 99 [some (.ref 21), some (.ref 1)] [] (0, 0) (gh (H, A, K, y) m) := by
  refine zgo hZ 107 20 rfl ?_
  exact k
set_option maxRecDepth 100000 in
set_option maxHeartbeats 400000 in
theorem c_becomeKH {SM : zC} {SF : Nat → zQ → zP} (hZ : zZ SM SF) {Q : zQ} {H A K : zHl} {y : zY3} {m : zMs} (k : Q none (gh (H, A, (H.1, K.2), y) m)) : SM mn_H_become [.ref 21, .ref 1] (gh (H, A, K, y) m) Q := by
  have k9 : SF mn_H_become Q 152 [some (.ref 21), some (.ref 1)] [] (0, 0) (gh (H, A, (cpZ K.1 H.1, K.2), y) m) := by
    refine zsame hZ (gh (H, A, (H.1, K.2), y) m) (eH_K H.1) ?_
    refine zgo hZ 999 5 rfl ?_
    exact k
  have k8 : SF mn_H_become Q 137 [some (.ref 21), some (.ref 1)] [] (0, 0) (gh (H, A, ((rw1 (rw1 (s2 (rw1 (rw1 (rw1 (rw1 (rw1 (s2 (s2 (s2 K.1 8 0 (H.1 8 0)) 8 1 (H.1 8 1)) 8 2 (H.1 8 2)) 0 (va_cpy (H.1 0) (K.1 0) 0 0 8)) 1 (va_cpy (H.1 1) (K.1 1) 0 0 8)) 2 (va_cpy (H.1 2) (K.1 2) 0 0 8)) 3 (va_cpy (H.1 3) (K.1 3) 0 0 8)) 4 (va_cpy (H.1 4) (K.1 4) 0 0 8)) 8 3 (H.1 8 3)) 5 (va_cpy (H.1 5) (K.1 5) 0 0 8)) 6 (va_cpy (H.1 6) (K.1 6) 0 0 8)), K.2), y) m) := c_becKH_137 (K := ((rw1 (rw1 (s2 (rw1 (rw1 (rw1 (rw1 (rw1 (s2 (s2 (s2 K.1 8 0 (H.1 8 0)) 8 1 (H.1 8 1)) 8 2 (H.1 8 2)) 0 (va_cpy (H.1 0) (K.1 0) 0 0 8)) 1 (va_cpy (H.1 1) (K.1 1) 0 0 8)) 2 (va_cpy (H.1 2) (K.1 2) 0 0 8)) 3 (va_cpy (H.1 3) (K.1 3) 0 0 8)) 4 (va_cpy (H.1 4) (K.1 4) 0 0 8)) 8 3 (H.1 8 3)) 5 (va_cpy (H.1 5) (K.1 5) 0 0 8)) 6 (va_cpy (H.1 6) (K.1 6) 0 0 8)), K.2)) hZ k9
  have k7 : SF mn_H_become Q 122 [some (.ref 21), some (.ref 1)] [] (0, 0) (gh (H, A, ((rw1 (s2 (rw1 (rw1 (rw1 (rw1 (rw1 (s2 (s2 (s2 K.1 8 0 (H.1 8 0)) 8 1 (H.1 8 1)) 8 2 (H.1 8 2)) 0 (va_cpy (H.1 0) (K.1 0) 0 0 8)) 1 (va_cpy (H.1 1) (K.1 1) 0 0 8)) 2 (va_cpy (H.1 2) (K.1 2) 0 0 8)) 3 (va_cpy (H.1 3) (K.1 3) 0 0 8)) 4 (va_cpy (H.1 4) (K.1 4) 0 0 8)) 8 3 (H.1 8 3)) 5 (va_cpy (H.1 5) (K.1 5) 0 0 8)), K.2), y) m) := c_becKH_122 (K := ((rw1 (s2 (rw1 (rw1 (rw1 (rw1 (rw1 (s2 (s2 (s2 K.1 8 0 (H.1 8 0)) 8 1 (H.1 8 1)) 8 2 (H.1 8 2)) 0 (va_cpy (H.1 0) (K.1 0) 0 0 8)) 1 (va_cpy (H.1 1) (K.1 1) 0 0 8)) 2 (va_cpy (H.1 2) (K.1 2) 0 0 8)) 3 (va_cpy (H.1 3) (K.1 3) 0 0 8)) 4 (va_cpy (H.1 4) (K.1 4) 0 0 8)) 8 3 (H.1 8 3)) 5 (va_cpy (H.1 5) (K.1 5) 0 0 8)), K.2)) hZ k8
  have k6 : SF mn_H_become Q 107 [some (.ref 21), some (.ref 1)] [] (0, 0) (gh (H, A, ((s2 (rw1 (rw1 (rw1 (rw1 (rw1 (s2 (s2 (s2 K.1 8 0 (H.1 8 0)) 8 1 (H.1 8 1)) 8 2 (H.1 8 2)) 0 (va_cpy (H.1 0) (K.1 0) 0 0 8)) 1 (va_cpy (H.1 1) (K.1 1) 0 0 8)) 2 (va_cpy (H.1 2) (K.1 2) 0 0 8)) 3 (va_cpy (H.1 3) (K.1 3) 0 0 8)) 4 (va_cpy (H.1 4) (K.1 4) 0 0 8)) 8 3 (H.1 8 3)), K.2), y) m) := c_becKH_107 (K := ((s2 (rw1 (rw1 (rw1 (rw1 (rw1 (s2 (s2 (s2 K.1 8 0 (H.1 8 0)) 8 1 (H.1 8 1)) 8 2 (H.1 8 2)) 0 (va_cpy (H.1 0) (K.1 0) 0 0 8)) 1 (va_cpy (H.1 1) (K.1 1) 0 0 8)) 2 (va_cpy (H.1 2) (K.1 2) 0 0 8)) 3 (va_cpy (H.1 3) (K.1 3) 0 0 8)) 4 (va_cpy (H.1 4) (K.1 4) 0 0 8)) 8 3 (H.1 8 3)), K.2)) hZ k7
  have k5 : SF mn_H_become Q 99 [some (.ref 21), some (.ref 1)] [] (0, 0) (gh (H, A, ((rw1 (rw1 (rw1 (rw1 (rw1 (s2 (s2 (s2 K.1 8 0 (H.1 8 0)) 8 1 (H.1 8 1)) 8 2 (H.1 8 2)) 0 (va_cpy (H.1 0) (K.1 0) 0 0 8)) 1 (va_cpy (H.1 1) (K.1 1) 0 0 8)) 2 (va_cpy (H.1 2) (K.1 2) 0 0 8)) 3 (va_cpy (H.1 3) (K.1 3) 0 0 8)) 4 (va_cpy (H.1 4) (K.1 4) 0 0 8)), K.2), y) m) := c_becKH_99 (K := ((rw1 (rw1 (rw1 (rw1 (rw1 (s2 (s2 (s2 K.1 8 0 (H.1 8 0)) 8 1 (H.1 8 1)) 8 2 (H.1 8 2)) 0 (va_cpy (H.1 0) (K.1 0) 0 0 8)) 1 (va_cpy (H.1 1) (K.1 1) 0 0 8)) 2 (va_cpy (H.1 2) (K.1 2) 0 0 8)) 3 (va_cpy (H.1 3) (K.1 3) 0 0 8)) 4 (va_cpy (H.1 4) (K.1 4) 0 0 8)), K.2)) hZ k6
  have k4 : SF mn_H_become Q 84 [some (.ref 21), some (.ref 1)] [] (0, 0) (gh (H, A, ((rw1 (rw1 (rw1 (rw1 (s2 (s2 (s2 K.1 8 0 (H.1 8 0)) 8 1 (H.1 8 1)) 8 2 (H.1 8 2)) 0 (va_cpy (H.1 0) (K.1 0) 0 0 8)) 1 (va_cpy (H.1 1) (K.1 1) 0 0 8)) 2 (va_cpy (H.1 2) (K.1 2) 0 0 8)) 3 (va_cpy (H.1 3) (K.1 3) 0 0 8)), K.2), y) m) := c_becKH_84 (K := ((rw1 (rw1 (rw1 (rw1 (s2 (s2 (s2 K.1 8 0 (H.1 8 0)) 8 1 (H.1 8 1)) 8 2 (H.1 8 2)) 0 (va_cpy (H.1 0) (K.1 0) 0 0 8)) 1 (va_cpy (H.1 1) (K.1 1) 0 0 8)) 2 (va_cpy (H.1 2) (K.1 2) 0 0 8)) 3 (va_cpy (H.1 3) (K.1 3) 0 0 8)), K.2)) hZ k5
  have k3 : SF mn_H_become Q 69 [some (.ref 21), some (.ref 1)] [] (0, 0) (gh (H, A, ((rw1 (rw1 (rw1 (s2 (s2 (s2 K.1 8 0 (H.1 8 0)) 8 1 (H.1 8 1)) 8 2 (H.1 8 2)) 0 (va_cpy (H.1 0) (K.1 0) 0 0 8)) 1 (va_cpy (H.1 1) (K.1 1) 0 0 8)) 2 (va_cpy (H.1 2) (K.1 2) 0 0 8)), K.2), y) m) := c_becKH_69 (K := ((rw1 (rw1 (rw1 (s2 (s2 (s2 K.1 8 0 (H.1 8 0)) 8 1 (H.1 8 1)) 8 2 (H.1 8 2)) 0 (va_cpy (H.1 0) (K.1 0) 0 0 8)) 1 (va_cpy (H.1 1) (K.1 1) 0 0 8)) 2 (va_cpy (H.1 2) (K.1 2) 0 0 8)), K.2)) hZ k4
  have k2 : SF mn_H_become Q 54 [some (.ref 21), some (.ref 1)] [] (0, 0) (gh (H, A, ((rw1 (rw1 (s2 (s2 (s2 K.1 8 0 (H.1 8 0)) 8 1 (H.1 8 1)) 8 2 (H.1 8 2)) 0 (va_cpy (H.1 0) (K.1 0) 0 0 8)) 1 (va_cpy (H.1 1) (K.1 1) 0 0 8)), K.2), y) m) := c_becKH_54 (K := ((rw1 (rw1 (s2 (s2 (s2 K.1 8 0 (H.1 8 0)) 8 1 (H.1 8 1)) 8 2 (H.1 8 2)) 0 (va_cpy (H.1 0) (K.1 0) 0 0 8)) 1 (va_cpy (H.1 1) (K.1 1) 0 0 8)), K.2)) hZ k3
  have k1 : SF mn_H_become Q 39 [some (.ref 21), some (.ref 1)] [] (0, 0) (gh (H, A, ((rw1 (s2 (s2 (s2 K.1 8 0 (H.1 8 0)) 8 1 (H.1 8 1)) 8 2 (H.1 8 2)) 0 (va_cpy (H.1 0) (K.1 0) 0 0 8)), K.2), y) m) := c_becKH_39 (K := ((rw1 (s2 (s2 (s2 K.1 8 0 (H.1 8 0)) 8 1 (H.1 8 1)) 8 2 (H.1 8 2)) 0 (va_cpy (H.1 0) (K.1 0) 0 0 8)), K.2)) hZ k2
  have k0 : SF mn_H_become Q 24 [some (.ref 21), some (.ref 1)] [] (0, 0) (gh (H, A, ((s2 (s2 (s2 K.1 8 0 (H.1 8 0)) 8 1 (H.1 8 1)) 8 2 (H.1 8 2)), K.2), y) m) := c_becKH_24 (K := ((s2 (s2 (s2 K.1 8 0 (H.1 8 0)) 8 1 (H.1 8 1)) 8 2 (H.1 8 2)), K.2)) hZ k1
  refine zin hZ 24 30 rfl rfl rfl ?_
  exact k0
set_option maxRecDepth 100000 in
set_option maxHeartbeats 400000 in
theorem c_becHK_24 {SM : zC} {SF : Nat → zQ → zP} (hZ : zZ SM SF) {Q : zQ} {H A K : zHl} {y : zY3} {m : zMs} (k : SF mn_H_become Q 39 [some (.ref 1), some (.ref 21)] [] (0, 0) (gh ((rw1 H.1 0 (va_cpy (K.1 0) (H.1 0) 0 0 8), H.2), A, K, y) m)) : SF mn_H_become Q 24 [some (.ref 1), some (.ref 21)] [] (0, 0) (gh (H, A, K, y) m) := by
  refine zgo hZ 39 20 rfl ?_
  exact ⟨8, 0, 0, rfl, rfl, rfl, by decide, by decide, by decide, by decide, k⟩
set_option maxRecDepth 100000 in
set_option maxHeartbeats 400000 in
theorem c_becHK_39 {SM : zC} {SF : Nat → zQ → zP} (hZ : zZ SM SF) {Q : zQ} {H A K : zHl} {y : zY3} {m : zMs} (k : SF mn_H_become Q 54 [some (.ref 1), some (.ref 21)] [] (0, 0) (gh ((rw1 H.1 1 (va_cpy (K.1 1) (H.1 1) 0 0 8), H.2), A, K, y) m)) : SF mn_H_become Q 39 [some (.ref 1), some (.ref 21)] [] (0, 0) (gh (H, A, K, y) m) := by
  refine zgo hZ 54 20 rfl ?_
  exact ⟨8, 0, 0, rfl, rfl, rfl, by decide, by decide, by decide, by decide, k⟩
set_option maxRecDepth 100000 in
set_option maxHeartbeats 400000 in
theorem c_becHK_54 {SM : zC} {SF : Nat → zQ → zP} (hZ : zZ SM SF) {Q : zQ} {H A K : zHl} {y : zY3} {m : zMs} (k : SF mn_H_become Q 69 [some (.ref 1), some (.ref 21)] [] (0, 0) (gh ((rw1 H.1 2 (va_cpy (K.1 2) (H.1 2) 0 0 8), H.2), A, K, y) m)) : SF mn_H_become Q 54 [some (.ref 1), some (.ref 21)] [] (0, 0) (gh (H, A, K, y) m) := by
  refine zgo hZ 69 20 rfl ?_
  exact ⟨8, 0, 0, rfl, rfl, rfl, by decide, by decide, by decide, by decide, k⟩
set_option maxRecDepth 100000 in
set_option maxHeartbeats 400000 in
theorem c_becHK_69 {SM : zC} {SF : Nat → zQ → zP} (hZ : zZ SM SF) {Q : zQ} {H A K : zHl} {y : zY3} {m : zMs} (k : SF mn_H_become Q 84 [some (.ref 1), some (.ref 21)] [] (0, 0) (gh ((rw1 H.1 3 (va_cpy (K.1 3) (H.1 3) 0 0 8), H.2), A, K, y) m)) : SF mn_H_become Q 69 [some (.ref 1), some (.ref 21)] [] (0, 0) (gh (H, A, K, y) m) := by
  refine zgo hZ 84 20 rfl ?_
  exact ⟨8, 0, 0, rfl, rfl, rfl, by decide, by decide, by decide, by decide, k⟩
set_option maxRecDepth 100000 in
set_option maxHeartbeats 400000 in
theorem c_becHK_84 {SM : zC} {SF : Nat → zQ → zP} (hZ : zZ SM SF) {Q : zQ} {H A K : zHl} {y : zY3} {m : zMs} (k : SF mn_H_become Q 99 [some (.ref 1), some (.ref 21)] [] (0, 0) (gh ((rw1 H.1 4 (va_cpy (K.1 4) (H.1 4) 0 0 8), H.2), A, K, y) m)) : SF mn_H_become Q 84 [some (.ref 1), some (.ref 21)] [] (0, 0) (gh (H, A, K, y) m) := by
  refine zgo hZ 99 20 rfl ?_
  exact ⟨8, 0, 0, rfl, rfl, rfl, by decide, by decide, by decide, by decide, k⟩
set_option maxRecDepth 100000 in
set_option maxHeartbeats 400000 in
theorem c_becHK_107 {SM : zC} {SF : Nat → zQ → zP} (hZ : zZ SM SF) {Q : zQ} {H A K : zHl} {y : zY3} {m : zMs} (k : SF mn_H_become Q 122 [some (.ref 1), some (.ref 21)] [] (0, 0) (gh ((rw1 H.1 5 (va_cpy (K.1 5) (H.1 5) 0 0 8), H.2), A, K, y) m)) : SF mn_H_become Q 107 [some (.ref 1), some (.ref 21)] [] (0, 0) (gh (H, A, K, y) m) := by
  refine zgo hZ 122 20 rfl ?_
  exact ⟨8, 0, 0, rfl, rfl, rfl, by decide, by decide, by decide, by decide, k⟩
set_option maxRecDepth 100000 in
set_option maxHeartbeats 400000 in
theorem c_becHK_122 {SM : zC} {SF : Nat → zQ → zP} (hZ : zZ SM SF) {Q : zQ} {H A K : zHl} {y : zY3} {m : zMs} (k : SF mn_H_become Q 137 [some (.ref 1), some (.ref 21)] [] (0, 0) (gh ((rw1 H.1 6 (va_cpy (K.1 6) (H.1 6) 0 0 8), H.2), A, K, y) m)) : SF mn_H_become Q 122 [some (.ref 1), some (.ref 21)] [] (0, 0) (gh (H, A, K, y) m) := by
  refine zgo hZ 137 20 rfl ?_
  exact ⟨8, 0, 0, rfl, rfl, rfl, by decide, by decide, by decide, by decide, k⟩
set_option maxRecDepth 100000 in
set_option maxHeartbeats 400000 in
theorem c_becHK_137 {SM : zC} {SF : Nat → zQ → zP} (hZ : zZ SM SF) {Q : zQ} {H A K : zHl} {y : zY3} {m : zMs} (k : SF mn_H_become Q 152 [some (.ref 1), some (.ref 21)] [] (0, 0) (gh ((rw1 H.1 7 (va_cpy (K.1 7) (H.1 7) 0 0 8), H.2), A, K, y) m)) : SF mn_H_become Q 137 [some (.ref 1), some (.ref 21)] [] (0, 0) (gh (H, A, K, y) m) := by
  refine zgo hZ 152 20 rfl ?_
  exact ⟨8, 0, 0, rfl, rfl, rfl, by decide, by decide, by decide, by decide, k⟩
set_option maxRecDepth 100000 in
set_option maxHeartbeats 400000 in
theorem c_becHK_99 {SM : zC} {SF : Nat → zQ → zP} (hZ : zZ SM SF) {Q : zQ} {H A K : zHl} {y : zY3} {m : zMs} (k : SF mn_H_become Q 107 [some (.ref 1), some (.ref 21)] [] (0, 0) (gh ((s2 H.1 8 3 (K.1 8 3), H.2), A, K, y) m)) : SF mn_H_become Q 99 [some (.ref 1), some (.ref 21)] [] (0, 0) (gh (H, A, K, y) m) := by
  refine zgo hZ 107 20 rfl ?_
  exact k
set_option maxRecDepth 100000 in
set_option maxHeartbeats 400000 in
theorem c_becomeHK {SM : zC} {SF : Nat → zQ → zP} (hZ : zZ SM SF) {Q : zQ} {H A K : zHl} {y : zY3} {m : zMs} (k : Q none (gh ((K.1, H.2), A, K, y) m)) : SM mn_H_become [.ref 1, .ref 21] (gh (H, A, K, y) m) Q := by
  have k9 : SF mn_H_become Q 152 [some (.ref 1), some (.ref 21)] [] (0, 0) (gh ((cpZ H.1 K.1, H.2), A, K, y) m) := by
    refine zsame hZ (gh ((K.1, H.2), A, K, y) m) (eH_H K.1) ?_
    refine zgo hZ 999 5 rfl ?_
    exact k
  have k8 : SF mn_H_become Q 137 [some (.ref 1), some (.ref 21)] [] (0, 0) (gh (((rw1 (rw1 (s2 (rw1 (rw1 (rw1 (rw1 (rw1 (s2 (s2 (s2 H.1 8 0 (K.1 8 0)) 8 1 (K.1 8 1)) 8 2 (K.1 8 2)) 0 (va_cpy (K.1 0) (H.1 0) 0 0 8)) 1 (va_cpy (K.1 1) (H.1 1) 0 0 8)) 2 (va_cpy (K.1 2) (H.1 2) 0 0 8)) 3 (va_cpy (K.1 3) (H.1 3) 0 0 8)) 4 (va_cpy (K.1 4) (H.1 4) 0 0 8)) 8 3 (K.1 8 3)) 5 (va_cpy (K.1 5) (H.1 5) 0 0 8)) 6 (va_cpy (K.1 6) (H.1 6) 0 0 8)), H.2), A, K, y) m) := c_becHK_137 (H := ((rw1 (rw1 (s2 (rw1 (rw1 (rw1 (rw1 (rw1 (s2 (s2 (s2 H.1 8 0 (K.1 8 0)) 8 1 (K.1 8 1)) 8 2 (K.1 8 2)) 0 (va_cpy (K.1 0) (H.1 0) 0 0 8)) 1 (va_cpy (K.1 1) (H.1 1) 0 0 8)) 2 (va_cpy (K.1 2) (H.1 2) 0 0 8)) 3 (va_cpy (K.1 3) (H.1 3) 0 0 8)) 4 (va_cpy (K.1 4) (H.1 4) 0 0 8)) 8 3 (K.1 8 3)) 5 (va_cpy (K.1 5) (H.1 5) 0 0 8)) 6 (va_cpy (K.1 6) (H.1 6) 0 0 8)), H.2)) hZ k9
  have k7 : SF mn_H_become Q 122 [some (.ref 1), some (.ref 21)] [] (0, 0) (gh (((rw1 (s2 (rw1 (rw1 (rw1 (rw1 (rw1 (s2 (s2 (s2 H.1 8 0 (K.1 8 0)) 8 1 (K.1 8 1)) 8 2 (K.1 8 2)) 0 (va_cpy (K.1 0) (H.1 0) 0 0 8)) 1 (va_cpy (K.1 1) (H.1 1) 0 0 8)) 2 (va_cpy (K.1 2) (H.1 2) 0 0 8)) 3 (va_cpy (K.1 3) (H.1 3) 0 0 8)) 4 (va_cpy (K.1 4) (H.1 4) 0 0 8)) 8 3 (K.1 8 3)) 5 (va_cpy (K.1 5) (H.1 5) 0 0 8)), H.2), A, K, y) m) := c_becHK_122 (H := ((rw1 (s2 (rw1 (rw1 (rw1 (rw1 (rw1 (s2 (s2 (s2 H.1 8 0 (K.1 8 0)) 8 1 (K.1 8 1)) 8 2 (K.1 8 2)) 0 (va_cpy (K.1 0) (H.1 0) 0 0 8)) 1 (va_cpy (K.1 1) (H.1 1) 0 0 8)) 2 (va_cpy (K.1 2) (H.1 2) 0 0 8)) 3 (va_cpy (K.1 3) (H.1 3) 0 0 8)) 4 (va_cpy (K.1 4) (H.1 4) 0 0 8)) 8 3 (K.1 8 3)) 5 (va_cpy (K.1 5) (H.1 5) 0 0 8)), H.2)) hZ k8
  have k6 : SF mn_H_become Q 107 [some (.ref 1), some (.ref 21)] [] (0, 0) (gh (((s2 (rw1 (rw1 (rw1 (rw1 (rw1 (s2 (s2 (s2 H.1 8 0 (K.1 8 0)) 8 1 (K.1 8 1)) 8 2 (K.1 8 2)) 0 (va_cpy (K.1 0) (H.1 0) 0 0 8)) 1 (va_cpy (K.1 1) (H.1 1) 0 0 8)) 2 (va_cpy (K.1 2) (H.1 2) 0 0 8)) 3 (va_cpy (K.1 3) (H.1 3) 0 0 8)) 4 (va_cpy (K.1 4) (H.1 4) 0 0 8)) 8 3 (K.1 8 3)), H.2), A, K, y) m) := c_becHK_107 (H := ((s2 (rw1 (rw1 (rw1 (rw1 (rw1 (s2 (s2 (s2 H.1 8 0 (K.1 8 0)) 8 1 (K.1 8 1)) 8 2 (K.1 8 2)) 0 (va_cpy (K.1 0) (H.1 0) 0 0 8)) 1 (va_cpy (K.1 1) (H.1 1) 0 0 8)) 2 (va_cpy (K.1 2) (H.1 2) 0 0 8)) 3 (va_cpy (K.1 3) (H.1 3) 0 0 8)) 4 (va_cpy (K.1 4) (H.1 4) 0 0 8)) 8 3 (K.1 8 3)), H.2)) hZ k7
  have k5 : SF mn_H_become Q 99 [some (.ref 1), some (.ref 21)] [] (0, 0) (gh (((rw1 (rw1 (rw1 (rw1 (rw1 (s2 (s2 (s2 H.1 8 0 (K.1 8 0)) 8 1 (K.1 8 1)) 8 2 (K.1 8 2)) 0 (va_cpy (K.1 0) (H.1 0) 0 0 8)) 1 (va_cpy (K.1 1) (H.1 1) 0 0 8)) 2 (va_cpy (K.1 2) (H.1 2) 0 0 8)) 3 (va_cpy (K.1 3) (H.1 3) 0 0 8)) 4 (va_cpy (K.1 4) (H.1 4) 0 0 8)), H.2), A, K, y) m) := c_becHK_99 (H := ((rw1 (rw1 (rw1 (rw1 (rw1 (s2 (s2 (s2 H.1 8 0 (K.1 8 0)) 8 1 (K.1 8 1)) 8 2 (K.1 8 2)) 0 (va_cpy (K.1 0) (H.1 0) 0 0 8)) 1 (va_cpy (K.1 1) (H.1 1) 0 0 8)) 2 (va_cpy (K.1 2) (H.1 2) 0 0 8)) 3 (va_cpy (K.1 3) (H.1 3) 0 0 8)) 4 (va_cpy (K.1 4) (H.1 4) 0 0 8)), H.2)) hZ k6
  have k4 : SF mn_H_become Q 84 [some (.ref 1), some (.ref 21)] [] (0, 0) (gh (((rw1 (rw1 (rw1 (rw1 (s2 (s2 (s2 H.1 8 0 (K.1 8 0)) 8 1 (K.1 8 1)) 8 2 (K.1 8 2)) 0 (va_cpy (K.1 0) (H.1 0) 0 0 8)) 1 (va_cpy (K.1 1) (H.1 1) 0 0 8)) 2 (va_cpy (K.1 2) (H.1 2) 0 0 8)) 3 (va_cpy (K.1 3) (H.1 3) 0 0 8)), H.2), A, K, y) m) := c_becHK_84 (H := ((rw1 (rw1 (rw1 (rw1 (s2 (s2 (s2 H.1 8 0 (K.1 8 0)) 8 1 (K.1 8 1)) 8 2 (K.1 8 2)) 0 (va_cpy (K.1 0) (H.1 0) 0 0 8)) 1 (va_cpy (K.1 1) (H.1 1) 0 0 8)) 2 (va_cpy (K.1 2) (H.1 2) 0 0 8)) 3 (va_cpy (K.1 3) (H.1 3) 0 0 8)), H.2)) hZ k5
  have k3 : SF mn_H_become Q 69 [some (.ref 1), some (.ref 21)] [] (0, 0) (gh (((rw1 (rw1 (rw1 (s2 (s2 (s2 H.1 8 0 (K.1 8 0)) 8 1 (K.1 8 1)) 8 2 (K.1 8 2)) 0 (va_cpy (K.1 0) (H.1 0) 0 0 8)) 1 (va_cpy (K.1 1) (H.1 1) 0 0 8)) 2 (va_cpy (K.1 2) (H.1 2) 0 0 8)), H.2), A, K, y) m) := c_becHK_69 (H := ((rw1 (rw1 (rw1 (s2 (s2 (s2 H.1 8 0 (K.1 8 0)) 8 1 (K.1 8 1)) 8 2 (K.1 8 2)) 0 (va_cpy (K.1 0) (H.1 0) 0 0 8)) 1 (va_cpy (K.1 1) (H.1 1) 0 0 8)) 2 (va_cpy (K.1 2) (H.1 2) 0 0 8)), H.2)) hZ k4
  have k2 : SF mn_H_become Q 54 [some (.ref 1), some (.ref 21)] [] (0, 0) (gh (((rw1 (rw1 (s2 (s2 (s2 H.1 8 0 (K.1 8 0)) 8 1 (K.1 8 1)) 8 2 (K.1 8 2)) 0 (va_cpy (K.1 0) (H.1 0) 0 0 8)) 1 (va_cpy (K.1 1) (H.1 1) 0 0 8)), H.2), A, K, y) m) := c_becHK_54 (H := ((rw1 (rw1 (s2 (s2 (s2 H.1 8 0 (K.1 8 0)) 8 1 (K.1 8 1)) 8 2 (K.1 8 2)) 0 (va_cpy (K.1 0) (H.1 0) 0 0 8)) 1 (va_cpy (K.1 1) (H.1 1) 0 0 8)), H.2)) hZ k3
  have k1 : SF mn_H_become Q 39 [some (.ref 1), some (.ref 21)] [] (0, 0) (gh (((rw1 (s2 (s2 (s2 H.1 8 0 (K.1 8 0)) 8 1 (K.1 8 1)) 8 2 (K.1 8 2)) 0 (va_cpy (K.1 0) (H.1 0) 0 0 8)), H.2), A, K, y) m) := c_becHK_39 (H := ((rw1 (s2 (s2 (s2 H.1 8 0 (K.1 8 0)) 8 1 (K.1 8 1)) 8 2 (K.1 8 2)) 0 (va_cpy (K.1 0) (H.1 0) 0 0 8)), H.2)) hZ k2
  have k0 : SF mn_H_become Q 24 [some (.ref 1), some (.ref 21)] [] (0, 0) (gh (((s2 (s2 (s2 H.1 8 0 (K.1 8 0)) 8 1 (K.1 8 1)) 8 2 (K.1 8 2)), H.2), A, K, y) m) := c_becHK_24 (H := ((s2 (s2 (s2 H.1 8 0 (K.1 8 0)) 8 1 (K.1 8 1)) 8 2 (K.1 8 2)), H.2)) hZ k1
  refine zin hZ 24 30 rfl rfl rfl ?_
  exact k0
