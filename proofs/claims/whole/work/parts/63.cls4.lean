/-! THE CLASS, fourth part: a hall becomes another -/
abbrev zY3 : Type := Int32 × zTp × (Nat → zSh) × (Nat → Int32)
/-- rows copied, numbers taken over -/
def cpZ (d s : zS) : zS := fun f => cond (Nat.beq f 8) (s 8) (va_cpy (s f) (d f) 0 0 8)
theorem cp8 (f g : Nat → Int32) : ∀ j, j < 8 → va_cpy f g 0 0 8 j = f j := by
  intro j hj
  unfold va_cpy
  rw [if_pos (by omega), Nat.zero_add, Nat.sub_zero]
set_option maxRecDepth 100000 in
theorem eH_A {H A K : zHl} {y : zY3} {m : zMs} (τ : zS) : zm_eH (gh (H, (cpZ A.1 τ, A.2), K, y) m) (gh (H, (τ, A.2), K, y) m) :=
  eH_app ⟨zm_eA_rfl _, zm_eA_rfl _, zm_eA_rfl _, zm_eA_rfl _, zm_eA_rfl _, zm_eA_rfl _, zm_eA_rfl _, zm_eA_rfl _, zm_eA_rfl _, zm_eA_rfl _, zm_eA_rfl _, zm_eA_rfl _, eA_i (cp8 _ _), eA_i (cp8 _ _), eA_i (cp8 _ _), eA_i (cp8 _ _), eA_i (cp8 _ _), eA_i (cp8 _ _), eA_i (cp8 _ _), eA_i (cp8 _ _), zm_eA_rfl _, zm_eA_rfl _, zm_eA_rfl _, zm_eA_rfl _, zm_eA_rfl _, zm_eA_rfl _, zm_eA_rfl _, zm_eA_rfl _, zm_eA_rfl _, zm_eA_rfl _, zm_eA_rfl _, zm_eA_rfl _, zm_eA_rfl _, zm_eA_rfl _, zm_eA_rfl _, zm_eA_rfl _, zm_eA_rfl _, zm_eA_rfl _, zm_eA_rfl _, zm_eA_rfl _, zm_eA_rfl _, zm_eA_rfl _, zm_eA_rfl _, trivial⟩ (zm_eH_rfl _)
set_option maxRecDepth 100000 in
theorem eH_H {H A K : zHl} {y : zY3} {m : zMs} (τ : zS) : zm_eH (gh ((cpZ H.1 τ, H.2), A, K, y) m) (gh ((τ, H.2), A, K, y) m) :=
  eH_app ⟨zm_eA_rfl _, zm_eA_rfl _, eA_i (cp8 _ _), eA_i (cp8 _ _), eA_i (cp8 _ _), eA_i (cp8 _ _), eA_i (cp8 _ _), eA_i (cp8 _ _), eA_i (cp8 _ _), eA_i (cp8 _ _), zm_eA_rfl _, zm_eA_rfl _, zm_eA_rfl _, zm_eA_rfl _, zm_eA_rfl _, zm_eA_rfl _, zm_eA_rfl _, zm_eA_rfl _, zm_eA_rfl _, zm_eA_rfl _, zm_eA_rfl _, zm_eA_rfl _, zm_eA_rfl _, zm_eA_rfl _, zm_eA_rfl _, zm_eA_rfl _, zm_eA_rfl _, zm_eA_rfl _, zm_eA_rfl _, zm_eA_rfl _, zm_eA_rfl _, zm_eA_rfl _, zm_eA_rfl _, zm_eA_rfl _, zm_eA_rfl _, zm_eA_rfl _, zm_eA_rfl _, zm_eA_rfl _, zm_eA_rfl _, zm_eA_rfl _, zm_eA_rfl _, zm_eA_rfl _, zm_eA_rfl _, trivial⟩ (zm_eH_rfl _)
set_option maxRecDepth 100000 in
theorem eH_K {H A K : zHl} {y : zY3} {m : zMs} (τ : zS) : zm_eH (gh (H, A, (cpZ K.1 τ, K.2), y) m) (gh (H, A, (τ, K.2), y) m) :=
  eH_app ⟨zm_eA_rfl _, zm_eA_rfl _, zm_eA_rfl _, zm_eA_rfl _, zm_eA_rfl _, zm_eA_rfl _, zm_eA_rfl _, zm_eA_rfl _, zm_eA_rfl _, zm_eA_rfl _, zm_eA_rfl _, zm_eA_rfl _, zm_eA_rfl _, zm_eA_rfl _, zm_eA_rfl _, zm_eA_rfl _, zm_eA_rfl _, zm_eA_rfl _, zm_eA_rfl _, zm_eA_rfl _, zm_eA_rfl _, zm_eA_rfl _, eA_i (cp8 _ _), eA_i (cp8 _ _), eA_i (cp8 _ _), eA_i (cp8 _ _), eA_i (cp8 _ _), eA_i (cp8 _ _), eA_i (cp8 _ _), eA_i (cp8 _ _), zm_eA_rfl _, zm_eA_rfl _, zm_eA_rfl _, zm_eA_rfl _, zm_eA_rfl _, zm_eA_rfl _, zm_eA_rfl _, zm_eA_rfl _, zm_eA_rfl _, zm_eA_rfl _, zm_eA_rfl _, zm_eA_rfl _, zm_eA_rfl _, trivial⟩ (zm_eH_rfl _)
set_option maxRecDepth 100000 in
set_option maxHeartbeats 400000 in
theorem c_becomeAH {SM : zC} {SF : Nat → zQ → zP} (hZ : zZ SM SF) {Q : zQ} {H A K : zHl} {y : zY3} {m : zMs} (k : Q none (gh (H, (H.1, A.2), K, y) m)) : SM mn_H_become [.ref 11, .ref 1] (gh (H, A, K, y) m) Q := by
  have key : SF mn_H_become Q 152 [some (.ref 11), some (.ref 1)] [] (0, 0) (gh (H, (cpZ A.1 H.1, A.2), K, y) m) := by
    refine zsame hZ (gh (H, (H.1, A.2), K, y) m) (eH_A H.1) ?_
    refine zgo hZ 999 5 rfl ?_
    exact k
  refine zin hZ 152 120 rfl rfl rfl ?_
  refine ⟨8, 0, 0, rfl, rfl, rfl, by decide, by decide, by decide, by decide, ?_⟩
  refine ⟨8, 0, 0, rfl, rfl, rfl, by decide, by decide, by decide, by decide, ?_⟩
  refine ⟨8, 0, 0, rfl, rfl, rfl, by decide, by decide, by decide, by decide, ?_⟩
  refine ⟨8, 0, 0, rfl, rfl, rfl, by decide, by decide, by decide, by decide, ?_⟩
  refine ⟨8, 0, 0, rfl, rfl, rfl, by decide, by decide, by decide, by decide, ?_⟩
  refine ⟨8, 0, 0, rfl, rfl, rfl, by decide, by decide, by decide, by decide, ?_⟩
  refine ⟨8, 0, 0, rfl, rfl, rfl, by decide, by decide, by decide, by decide, ?_⟩
  refine ⟨8, 0, 0, rfl, rfl, rfl, by decide, by decide, by decide, by decide, ?_⟩
  exact key
set_option maxRecDepth 100000 in
set_option maxHeartbeats 400000 in
theorem c_becomeHA {SM : zC} {SF : Nat → zQ → zP} (hZ : zZ SM SF) {Q : zQ} {H A K : zHl} {y : zY3} {m : zMs} (k : Q none (gh ((A.1, H.2), A, K, y) m)) : SM mn_H_become [.ref 1, .ref 11] (gh (H, A, K, y) m) Q := by
  have key : SF mn_H_become Q 152 [some (.ref 1), some (.ref 11)] [] (0, 0) (gh ((cpZ H.1 A.1, H.2), A, K, y) m) := by
    refine zsame hZ (gh ((A.1, H.2), A, K, y) m) (eH_H A.1) ?_
    refine zgo hZ 999 5 rfl ?_
    exact k
  refine zin hZ 152 120 rfl rfl rfl ?_
  refine ⟨8, 0, 0, rfl, rfl, rfl, by decide, by decide, by decide, by decide, ?_⟩
  refine ⟨8, 0, 0, rfl, rfl, rfl, by decide, by decide, by decide, by decide, ?_⟩
  refine ⟨8, 0, 0, rfl, rfl, rfl, by decide, by decide, by decide, by decide, ?_⟩
  refine ⟨8, 0, 0, rfl, rfl, rfl, by decide, by decide, by decide, by decide, ?_⟩
  refine ⟨8, 0, 0, rfl, rfl, rfl, by decide, by decide, by decide, by decide, ?_⟩
  refine ⟨8, 0, 0, rfl, rfl, rfl, by decide, by decide, by decide, by decide, ?_⟩
  refine ⟨8, 0, 0, rfl, rfl, rfl, by decide, by decide, by decide, by decide, ?_⟩
  refine ⟨8, 0, 0, rfl, rfl, rfl, by decide, by decide, by decide, by decide, ?_⟩
  exact key
set_option maxRecDepth 100000 in
set_option maxHeartbeats 400000 in
theorem c_becomeKH {SM : zC} {SF : Nat → zQ → zP} (hZ : zZ SM SF) {Q : zQ} {H A K : zHl} {y : zY3} {m : zMs} (k : Q none (gh (H, A, (H.1, K.2), y) m)) : SM mn_H_become [.ref 21, .ref 1] (gh (H, A, K, y) m) Q := by
  have key : SF mn_H_become Q 152 [some (.ref 21), some (.ref 1)] [] (0, 0) (gh (H, A, (cpZ K.1 H.1, K.2), y) m) := by
    refine zsame hZ (gh (H, A, (H.1, K.2), y) m) (eH_K H.1) ?_
    refine zgo hZ 999 5 rfl ?_
    exact k
  refine zin hZ 152 120 rfl rfl rfl ?_
  refine ⟨8, 0, 0, rfl, rfl, rfl, by decide, by decide, by decide, by decide, ?_⟩
  refine ⟨8, 0, 0, rfl, rfl, rfl, by decide, by decide, by decide, by decide, ?_⟩
  refine ⟨8, 0, 0, rfl, rfl, rfl, by decide, by decide, by decide, by decide, ?_⟩
  refine ⟨8, 0, 0, rfl, rfl, rfl, by decide, by decide, by decide, by decide, ?_⟩
  refine ⟨8, 0, 0, rfl, rfl, rfl, by decide, by decide, by decide, by decide, ?_⟩
  refine ⟨8, 0, 0, rfl, rfl, rfl, by decide, by decide, by decide, by decide, ?_⟩
  refine ⟨8, 0, 0, rfl, rfl, rfl, by decide, by decide, by decide, by decide, ?_⟩
  refine ⟨8, 0, 0, rfl, rfl, rfl, by decide, by decide, by decide, by decide, ?_⟩
  exact key
set_option maxRecDepth 100000 in
set_option maxHeartbeats 400000 in
theorem c_becomeHK {SM : zC} {SF : Nat → zQ → zP} (hZ : zZ SM SF) {Q : zQ} {H A K : zHl} {y : zY3} {m : zMs} (k : Q none (gh ((K.1, H.2), A, K, y) m)) : SM mn_H_become [.ref 1, .ref 21] (gh (H, A, K, y) m) Q := by
  have key : SF mn_H_become Q 152 [some (.ref 1), some (.ref 21)] [] (0, 0) (gh ((cpZ H.1 K.1, H.2), A, K, y) m) := by
    refine zsame hZ (gh ((K.1, H.2), A, K, y) m) (eH_H K.1) ?_
    refine zgo hZ 999 5 rfl ?_
    exact k
  refine zin hZ 152 120 rfl rfl rfl ?_
  refine ⟨8, 0, 0, rfl, rfl, rfl, by decide, by decide, by decide, by decide, ?_⟩
  refine ⟨8, 0, 0, rfl, rfl, rfl, by decide, by decide, by decide, by decide, ?_⟩
  refine ⟨8, 0, 0, rfl, rfl, rfl, by decide, by decide, by decide, by decide, ?_⟩
  refine ⟨8, 0, 0, rfl, rfl, rfl, by decide, by decide, by decide, by decide, ?_⟩
  refine ⟨8, 0, 0, rfl, rfl, rfl, by decide, by decide, by decide, by decide, ?_⟩
  refine ⟨8, 0, 0, rfl, rfl, rfl, by decide, by decide, by decide, by decide, ?_⟩
  refine ⟨8, 0, 0, rfl, rfl, rfl, by decide, by decide, by decide, by decide, ?_⟩
  refine ⟨8, 0, 0, rfl, rfl, rfl, by decide, by decide, by decide, by decide, ?_⟩
  exact key
