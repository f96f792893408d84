/-! AN INSTRUCTION OF THE LAW is sound (by program) -/
def zKl (l : Launch) (b : Nat) (p : Program) (e : Env) (s : State) (m : MethodId) (below : List Frame) (meth : Method) (c : Code) (D : va_G) (κ : zKp) (ad0 : Nat → Nat) : zP :=
  zK p l e room_1 s m #[Value.ref b] below meth c (lw_Z below #[Value.ref b] s) (fun q => s.heap.size ≤ q) D κ ad0 0 4
def zSl (l : Launch) (b n : Nat) (xs : Nat → Int32) (pc : Nat) (o : zO) : Prop := ∀ (p : Program) (e : Env) (s : State) (m : MethodId) (below : List Frame) (meth : Method) (c : Code) (D : va_G) (κ : zKp) (ad0 adV : Nat → Nat) (P : zP) (L : zL) (st : List Value) (u : Nat × Nat) (h : zH),
  zCx p s m #[Value.ref b] c R_law code 4 (fun q => s.heap.size ≤ q) D κ ad0 adV → meth.sig.returnType = ret → meth.locks = false → va_X b n xs s s.heap → b < s.heap.size → ad0 3000 = b → n ≤ 3072 → zLe P (zKl l b p e s m below meth c D κ ad0) → o P (zsm l) zQl L st u h → zKl l b p e s m below meth c D κ ad0 pc L st u h
def zLl (l : Launch) (b n : Nat) (xs : Nat → Int32) (T : zT) : Prop := ∀ q ∈ T, zSl l b n xs q.1 q.2
theorem zll_n {l : Launch} {b n : Nat} {xs : Nat → Int32} : zLl l b n xs [] := fun _ h => absurd h List.not_mem_nil
theorem zll_c {l : Launch} {b n : Nat} {xs : Nat → Int32} {pc : Nat} {o : zO} {T : zT} (h1 : zSl l b n xs pc o) (h2 : zLl l b n xs T) : zLl l b n xs ((pc, o) :: T) := fun q hq => by
  rcases List.mem_cons.mp hq with rfl | hq
  · exact h1
  · exact h2 q hq
section ZL
variable {l : Launch} {b n : Nat} {xs : Nat → Int32} {pc nx : Nat}
theorem zl_iconst {n' : Int} (hd : decode code pc = .ok (.iconst n', 1)) (hn : nx = pc + 1) {v : Int32} (hv : Int32.ofInt n' = v) : zSl l b n xs pc (zo_c (.int v) nx) := fun p e s m below meth c D κ ad0 adV P L st u h X hmr hlk hX hbl hb0 hLn hP k => zk_iconst X hP hd hn hv k
theorem zl_bipush {n' : Int} (hd : decode code pc = .ok (.bipush n', 2)) (hn : nx = pc + 2) {v : Int32} (hv : (Int8.ofInt n').toInt32 = v) : zSl l b n xs pc (zo_c (.int v) nx) := fun p e s m below meth c D κ ad0 adV P L st u h X hmr hlk hX hbl hb0 hLn hP k => zk_bipush X hP hd hn hv k
theorem zl_ldc2 {n' : Nat} (hd : decode code pc = .ok (.ldc2_w n', 3)) (hn : nx = pc + 3) {v : Int64} (hw : Cond.constantLong R_law n' v ∈ zBT) : zSl l b n xs pc (zo_c (.long v) nx) := fun p e s m below meth c D κ ad0 adV P L st u h X hmr hlk hX hbl hb0 hLn hP k => zk_ldc2 X hP hd hn hw k
theorem zl_iln {i : Nat} {j : Fin 4} (hd : decode code pc = .ok (.iload_n j, 1)) (hn : nx = pc + 1) (hi : (j : Nat) = i) : zSl l b n xs pc (zo_il i nx) := fun p e s m below meth c D κ ad0 adV P L st u h X hmr hlk hX hbl hb0 hLn hP k => zk_iln X hP hd hn hi k
theorem zl_aln {i : Nat} {j : Fin 4} (hd : decode code pc = .ok (.aload_n j, 1)) (hn : nx = pc + 1) (hi : (j : Nat) = i) : zSl l b n xs pc (zo_al i nx) := fun p e s m below meth c D κ ad0 adV P L st u h X hmr hlk hX hbl hb0 hLn hP k => zk_aln X hP hd hn hi k
theorem zl_isn {i : Nat} {j : Fin 4} (hd : decode code pc = .ok (.istore_n j, 1)) (hn : nx = pc + 1) (hi : (j : Nat) = i) (hl : i < 4) : zSl l b n xs pc (zo_is i nx) := fun p e s m below meth c D κ ad0 adV P L st u h X hmr hlk hX hbl hb0 hLn hP k => zk_isn X hP hd hn hi hl k
theorem zl_asn {i : Nat} {j : Fin 4} (hd : decode code pc = .ok (.astore_n j, 1)) (hn : nx = pc + 1) (hi : (j : Nat) = i) (hl : i < 4) : zSl l b n xs pc (zo_as i nx) := fun p e s m below meth c D κ ad0 adV P L st u h X hmr hlk hX hbl hb0 hLn hP k => zk_asn X hP hd hn hi hl k
theorem zl_inc {i : Nat} {n' : Int} (hd : decode code pc = .ok (.iinc i n', 3)) (hn : nx = pc + 3) {v : Int32} (hv : Int32.ofInt n' = v) : zSl l b n xs pc (zo_inc i v nx) := fun p e s m below meth c D κ ad0 adV P L st u h X hmr hlk hX hbl hb0 hLn hP k => zk_inc X hP hd hn hv k
theorem zl_iadd (hd : decode code pc = .ok (.iadd, 1)) (hn : nx = pc + 1) : zSl l b n xs pc (zo_iadd nx) := fun p e s m below meth c D κ ad0 adV P L st u h X hmr hlk hX hbl hb0 hLn hP k => zk_iadd X hP hd hn k
theorem zl_isub (hd : decode code pc = .ok (.isub, 1)) (hn : nx = pc + 1) : zSl l b n xs pc (zo_isub nx) := fun p e s m below meth c D κ ad0 adV P L st u h X hmr hlk hX hbl hb0 hLn hP k => zk_isub X hP hd hn k
theorem zl_iand (hd : decode code pc = .ok (.iand, 1)) (hn : nx = pc + 1) : zSl l b n xs pc (zo_iand nx) := fun p e s m below meth c D κ ad0 adV P L st u h X hmr hlk hX hbl hb0 hLn hP k => zk_iand X hP hd hn k
theorem zl_land (hd : decode code pc = .ok (.land, 1)) (hn : nx = pc + 1) : zSl l b n xs pc (zo_land nx) := fun p e s m below meth c D κ ad0 adV P L st u h X hmr hlk hX hbl hb0 hLn hP k => zk_land X hP hd hn k
theorem zl_lor (hd : decode code pc = .ok (.lor, 1)) (hn : nx = pc + 1) : zSl l b n xs pc (zo_lor nx) := fun p e s m below meth c D κ ad0 adV P L st u h X hmr hlk hX hbl hb0 hLn hP k => zk_lor X hP hd hn k
theorem zl_lcmp (hd : decode code pc = .ok (.lcmp, 1)) (hn : nx = pc + 1) : zSl l b n xs pc (zo_lcmp nx) := fun p e s m below meth c D κ ad0 adV P L st u h X hmr hlk hX hbl hb0 hLn hP k => zk_lcmp X hP hd hn k
theorem zl_lshl (hd : decode code pc = .ok (.lshl, 1)) (hn : nx = pc + 1) : zSl l b n xs pc (zo_lshl nx) := fun p e s m below meth c D κ ad0 adV P L st u h X hmr hlk hX hbl hb0 hLn hP k => zk_lshl X hP hd hn k
theorem zl_i2l (hd : decode code pc = .ok (.i2l, 1)) (hn : nx = pc + 1) : zSl l b n xs pc (zo_i2l nx) := fun p e s m below meth c D κ ad0 adV P L st u h X hmr hlk hX hbl hb0 hLn hP k => zk_i2l X hP hd hn k
theorem zl_dup (hd : decode code pc = .ok (.dup, 1)) (hn : nx = pc + 1) : zSl l b n xs pc (zo_dup nx) := fun p e s m below meth c D κ ad0 adV P L st u h X hmr hlk hX hbl hb0 hLn hP k => zk_dup X hP hd hn k
theorem zl_goto {off : Int} {t : Nat} (hd : decode code pc = .ok (.goto off, 3)) (ht : (pc : Int) + off = (t : Int)) : zSl l b n xs pc (zo_goto t) := fun p e s m below meth c D κ ad0 adV P L st u h X hmr hlk hX hbl hb0 hLn hP k => zk_goto X hP hd ht k
theorem zl_ifeq {off : Int} {t : Nat} (hd : decode code pc = .ok (.ifCond .eq off, 3)) (hn : nx = pc + 3) (ht : (pc : Int) + off = (t : Int)) : zSl l b n xs pc (zo_ifeq t nx) := fun p e s m below meth c D κ ad0 adV P L st u h X hmr hlk hX hbl hb0 hLn hP k => zk_ifeq X hP hd hn ht k
theorem zl_ceq {off : Int} {t : Nat} (hd : decode code pc = .ok (.if_icmp .eq off, 3)) (hn : nx = pc + 3) (ht : (pc : Int) + off = (t : Int)) : zSl l b n xs pc (zo_ceq t nx) := fun p e s m below meth c D κ ad0 adV P L st u h X hmr hlk hX hbl hb0 hLn hP k => zk_ceq X hP hd hn ht k
theorem zl_cgt {off : Int} {t : Nat} (hd : decode code pc = .ok (.if_icmp .gt off, 3)) (hn : nx = pc + 3) (ht : (pc : Int) + off = (t : Int)) : zSl l b n xs pc (zo_cgt t nx) := fun p e s m below meth c D κ ad0 adV P L st u h X hmr hlk hX hbl hb0 hLn hP k => zk_cgt X hP hd hn ht k
theorem zl_sw {dflt lo hi : Int} {offs : Array Int} {len d : Nat} {ts : List Nat} (a : Nat) (hd : decode code pc = .ok (.tableswitch dflt lo hi offs, len)) (hlo : lo = (a : Int)) (hhi : hi + 1 = (a + ts.length : Nat)) (hs : a + ts.length ≤ 1000) (hdf : (pc : Int) + dflt = (d : Int)) (hof : ∀ (j t : Nat), ts[j]? = some t → ∃ off, offs[j]? = some off ∧ (pc : Int) + off = (t : Int)) : zSl l b n xs pc (zo_sw (nI a) ts d) := fun p e s m below meth c D κ ad0 adV P L st u h X hmr hlk hX hbl hb0 hLn hP k => zk_sw X hP a hd hlo hhi hs hdf hof k
theorem zl_new {ci : Nat} {CN : String} {T : u_T} {N index : Nat} {fs : List Value} {ty0 : Nat → FieldType} (hd : decode code pc = .ok (.new index, 3)) (hn : nx = pc + 3) (hc : vwCl[ci]? = some (CN, T, N)) (hin : ∀ w ∈ u_ws CN T N, w ∈ zBT) (hty : ∀ k, k < N → parseFieldDescriptor (T k).2.2.1 = some (ty0 k)) (hw1 : Cond.classLink R_law index CN ∈ zBT) (hw2 : Cond.instantiable CN N ∈ zBT) (hw3 : Cond.initialized CN ∈ zBT) (hfs : ∀ j, j < N → defaultValue (ty0 j) = vp_V fs j) (hpl : ∀ ad : Nat → Nat, fs.map (zt ad) = fs) {mc ms : Nat} (hRm : mc ≤ room_1.cells ∧ ms ≤ room_1.slots) : zSl l b n xs pc (zo_new ci fs N mc ms nx) := fun p e s m below meth c D κ ad0 adV P L st u h X hmr hlk hX hbl hb0 hLn hP k => zk_new X hP hd hn hc hin hty hw1 hw2 hw3 hfs hpl hRm k
theorem zl_cv {ci M n' index : Nat} {qc : vw_C} (hd : decode code pc = .ok (.invokevirtual index, 3)) (hn : nx = pc + 3) (hM : zMok M n') (hc : vwCl[ci]? = some qc) (hw1 : Cond.methodLink R_law index (zy M) ∈ zBT) (hw2 : Cond.instanceMethod (zy M) ∈ zBT) (hw3 : Cond.selects qc.1 (zy M) (zy M) ∈ zBT) (hz : zmc M = 0 ∧ zms M = 0) (hR : (zrm M).frames + 1 ≤ room_1.frames ∧ 8 + (zm_nl M + 11) + (zrm M).locals ≤ room_1.locals) : zSl l b n xs pc (zo_cv ci M n' nx) := fun p e s m below meth c D κ ad0 adV P L st u h X hmr hlk hX hbl hb0 hLn hP k => zk_cv X hP hd hn hM hc hw1 hw2 hw3 hz hR k
theorem zl_ci {M n' index mc ms cmc cms : Nat} (hd : decode code pc = .ok (.invokespecial index, 3)) (hn : nx = pc + 3) (hM : zMok M n') (hi : (zy M).name = "<init>") (hrt : zrt M = none) (hw1 : Cond.methodLink R_law index (zy M) ∈ zBT) (hw2 : Cond.instanceMethod (zy M) ∈ zBT) (hz : zmc M = mc ∧ zms M = ms) (hRm : cmc ≤ room_1.cells ∧ cms ≤ room_1.slots) (hR : (zrm M).frames + 1 ≤ room_1.frames ∧ 8 + (zm_nl M + 11) + (zrm M).locals ≤ room_1.locals) : zSl l b n xs pc (zo_ci M n' mc ms cmc cms nx) := fun p e s m below meth c D κ ad0 adV P L st u h X hmr hlk hX hbl hb0 hLn hP k => zk_ci X hP hd hn hM hi hrt hw1 hw2 hz hRm hR k
theorem zl_scr (hd : decode code pc = .ok (.iaload, 1)) (hn : nx = pc + 1) : zSl l b n xs pc (zo_scr xs n nx) := fun p e s m below meth c D κ ad0 adV P L st u h X hmr hlk hX hbl hb0 hLn hP k => zk_scr X hP hd hn hX hbl (Nat.not_le.mpr hbl) hb0 hLn k
theorem zl_scl (hd : decode code pc = .ok (.arraylength, 1)) (hn : nx = pc + 1) : zSl l b n xs pc (zo_scl n nx) := fun p e s m below meth c D κ ad0 adV P L st u h X hmr hlk hX hbl hb0 hLn hP k => zk_scl X hP hd hn hX hbl (Nat.not_le.mpr hbl) hb0 hLn k
theorem zl_zr (hd : decode code pc = .ok (.ireturn, 1)) : zSl l b n xs pc (zo_zr 600000 7302250) := by
  intro p e s m below meth c D κ ad0 adV P L st u h X hmr hlk hX hbl hb0 hLn hP k
  obtain ⟨⟨hx, hb, hml, hown, hts⟩, hK, hA, hG⟩ := X
  intro ad H locs ls h1 h2 h3 h4 h5 h6 h7
  unfold zo_zr at k
  split at k
  · replace k := zcond k
    obtain ⟨c1, k⟩ := k
    replace k := zcond k
    obtain ⟨c2, k⟩ := k
    have e1 := Value.int.inj (Option.some.inj k.2)
    subst e1
    refine W.widen (k := 600000) (n := 7302250) (Nat.le_of_ble_eq_true c1) (Nat.le_of_ble_eq_true c2) ?_
    refine va_forget (fun q hq => h6.2.2 q hq) ?_
    exact lw_ret hx hb hmr hlk hd
  · exact k.elim
end ZL
theorem wk_L_7 : Cond.classLink "PooledInlawsLaw" 7 "PooledInlaws" ∈ zBT := zBT_in (by decide +kernel) (by decide +kernel)
theorem wi_X4 : Cond.instantiable "PooledInlaws" 7 ∈ zBT := zBT_in (by decide +kernel) (by decide +kernel)
theorem wn_X4 : Cond.initialized "PooledInlaws" ∈ zBT := zBT_in (by decide +kernel) (by decide +kernel)
theorem wm_L_9 : Cond.methodLink "PooledInlawsLaw" 9 yX4_init ∈ zBT := zBT_in (by decide +kernel) (by decide +kernel)
theorem wq_X_init : Cond.instanceMethod yX4_init ∈ zBT := zBT_in (by decide +kernel) (by decide +kernel)
theorem wk_L_10 : Cond.classLink "PooledInlawsLaw" 10 "PooledInlawsModel" ∈ zBT := zBT_in (by decide +kernel) (by decide +kernel)
theorem wi_X5 : Cond.instantiable "PooledInlawsModel" 17 ∈ zBT := zBT_in (by decide +kernel) (by decide +kernel)
theorem wn_X5 : Cond.initialized "PooledInlawsModel" ∈ zBT := zBT_in (by decide +kernel) (by decide +kernel)
theorem wm_L_12 : Cond.methodLink "PooledInlawsLaw" 12 yX5_init ∈ zBT := zBT_in (by decide +kernel) (by decide +kernel)
theorem wq_M_init : Cond.instanceMethod yX5_init ∈ zBT := zBT_in (by decide +kernel) (by decide +kernel)
theorem wm_L_13 : Cond.methodLink "PooledInlawsLaw" 13 yX4_fire ∈ zBT := zBT_in (by decide +kernel) (by decide +kernel)
theorem wq_X_fire : Cond.instanceMethod yX4_fire ∈ zBT := zBT_in (by decide +kernel) (by decide +kernel)
theorem ww_X_fire : Cond.selects "PooledInlaws" yX4_fire yX4_fire ∈ zBT := zBT_in (by decide +kernel) (by decide +kernel)
theorem wm_L_17 : Cond.methodLink "PooledInlawsLaw" 17 yX5_fire ∈ zBT := zBT_in (by decide +kernel) (by decide +kernel)
theorem wq_M_fire : Cond.instanceMethod yX5_fire ∈ zBT := zBT_in (by decide +kernel) (by decide +kernel)
theorem ww_M_fire : Cond.selects "PooledInlawsModel" yX5_fire yX5_fire ∈ zBT := zBT_in (by decide +kernel) (by decide +kernel)
theorem wm_L_18 : Cond.methodLink "PooledInlawsLaw" 18 yX4_now ∈ zBT := zBT_in (by decide +kernel) (by decide +kernel)
theorem wq_X_now : Cond.instanceMethod yX4_now ∈ zBT := zBT_in (by decide +kernel) (by decide +kernel)
theorem ww_X_now : Cond.selects "PooledInlaws" yX4_now yX4_now ∈ zBT := zBT_in (by decide +kernel) (by decide +kernel)
theorem wm_L_21 : Cond.methodLink "PooledInlawsLaw" 21 yX5_now ∈ zBT := zBT_in (by decide +kernel) (by decide +kernel)
theorem wq_M_now : Cond.instanceMethod yX5_now ∈ zBT := zBT_in (by decide +kernel) (by decide +kernel)
theorem ww_M_now : Cond.selects "PooledInlawsModel" yX5_now yX5_now ∈ zBT := zBT_in (by decide +kernel) (by decide +kernel)
theorem wm_L_22 : Cond.methodLink "PooledInlawsLaw" 22 yX4_inlaw ∈ zBT := zBT_in (by decide +kernel) (by decide +kernel)
theorem wq_X_inlaw : Cond.instanceMethod yX4_inlaw ∈ zBT := zBT_in (by decide +kernel) (by decide +kernel)
theorem ww_X_inlaw : Cond.selects "PooledInlaws" yX4_inlaw yX4_inlaw ∈ zBT := zBT_in (by decide +kernel) (by decide +kernel)
theorem wm_L_25 : Cond.methodLink "PooledInlawsLaw" 25 yX5_inlaw ∈ zBT := zBT_in (by decide +kernel) (by decide +kernel)
theorem wq_M_inlaw : Cond.instanceMethod yX5_inlaw ∈ zBT := zBT_in (by decide +kernel) (by decide +kernel)
theorem ww_M_inlaw : Cond.selects "PooledInlawsModel" yX5_inlaw yX5_inlaw ∈ zBT := zBT_in (by decide +kernel) (by decide +kernel)
theorem wm_L_26 : Cond.methodLink "PooledInlawsLaw" 26 yX4_of ∈ zBT := zBT_in (by decide +kernel) (by decide +kernel)
theorem wq_X_of : Cond.instanceMethod yX4_of ∈ zBT := zBT_in (by decide +kernel) (by decide +kernel)
theorem ww_X_of : Cond.selects "PooledInlaws" yX4_of yX4_of ∈ zBT := zBT_in (by decide +kernel) (by decide +kernel)
theorem wm_L_30 : Cond.methodLink "PooledInlawsLaw" 30 yX5_of ∈ zBT := zBT_in (by decide +kernel) (by decide +kernel)
theorem wq_M_of : Cond.instanceMethod yX5_of ∈ zBT := zBT_in (by decide +kernel) (by decide +kernel)
theorem ww_M_of : Cond.selects "PooledInlawsModel" yX5_of yX5_of ∈ zBT := zBT_in (by decide +kernel) (by decide +kernel)
theorem wm_L_31 : Cond.methodLink "PooledInlawsLaw" 31 yX4_with ∈ zBT := zBT_in (by decide +kernel) (by decide +kernel)
theorem wq_X_with : Cond.instanceMethod yX4_with ∈ zBT := zBT_in (by decide +kernel) (by decide +kernel)
theorem ww_X_with : Cond.selects "PooledInlaws" yX4_with yX4_with ∈ zBT := zBT_in (by decide +kernel) (by decide +kernel)
theorem wm_L_35 : Cond.methodLink "PooledInlawsLaw" 35 yX5_with ∈ zBT := zBT_in (by decide +kernel) (by decide +kernel)
theorem wq_M_with : Cond.instanceMethod yX5_with ∈ zBT := zBT_in (by decide +kernel) (by decide +kernel)
theorem ww_M_with : Cond.selects "PooledInlawsModel" yX5_with yX5_with ∈ zBT := zBT_in (by decide +kernel) (by decide +kernel)
theorem wm_L_36 : Cond.methodLink "PooledInlawsLaw" 36 yX4_set ∈ zBT := zBT_in (by decide +kernel) (by decide +kernel)
theorem wq_X_set : Cond.instanceMethod yX4_set ∈ zBT := zBT_in (by decide +kernel) (by decide +kernel)
theorem ww_X_set : Cond.selects "PooledInlaws" yX4_set yX4_set ∈ zBT := zBT_in (by decide +kernel) (by decide +kernel)
theorem wm_L_39 : Cond.methodLink "PooledInlawsLaw" 39 yX5_set ∈ zBT := zBT_in (by decide +kernel) (by decide +kernel)
theorem wq_M_set : Cond.instanceMethod yX5_set ∈ zBT := zBT_in (by decide +kernel) (by decide +kernel)
theorem ww_M_set : Cond.selects "PooledInlawsModel" yX5_set yX5_set ∈ zBT := zBT_in (by decide +kernel) (by decide +kernel)
theorem wm_L_40 : Cond.methodLink "PooledInlawsLaw" 40 yX4_turn ∈ zBT := zBT_in (by decide +kernel) (by decide +kernel)
theorem wq_X_turn : Cond.instanceMethod yX4_turn ∈ zBT := zBT_in (by decide +kernel) (by decide +kernel)
theorem ww_X_turn : Cond.selects "PooledInlaws" yX4_turn yX4_turn ∈ zBT := zBT_in (by decide +kernel) (by decide +kernel)
theorem wm_L_43 : Cond.methodLink "PooledInlawsLaw" 43 yX5_turn ∈ zBT := zBT_in (by decide +kernel) (by decide +kernel)
theorem wq_M_turn : Cond.instanceMethod yX5_turn ∈ zBT := zBT_in (by decide +kernel) (by decide +kernel)
theorem ww_M_turn : Cond.selects "PooledInlawsModel" yX5_turn yX5_turn ∈ zBT := zBT_in (by decide +kernel) (by decide +kernel)
theorem wm_L_44 : Cond.methodLink "PooledInlawsLaw" 44 yX4_as ∈ zBT := zBT_in (by decide +kernel) (by decide +kernel)
theorem wq_X_as : Cond.instanceMethod yX4_as ∈ zBT := zBT_in (by decide +kernel) (by decide +kernel)
theorem ww_X_as : Cond.selects "PooledInlaws" yX4_as yX4_as ∈ zBT := zBT_in (by decide +kernel) (by decide +kernel)
theorem wm_L_47 : Cond.methodLink "PooledInlawsLaw" 47 yX5_as ∈ zBT := zBT_in (by decide +kernel) (by decide +kernel)
theorem wq_M_as : Cond.instanceMethod yX5_as ∈ zBT := zBT_in (by decide +kernel) (by decide +kernel)
theorem ww_M_as : Cond.selects "PooledInlawsModel" yX5_as yX5_as ∈ zBT := zBT_in (by decide +kernel) (by decide +kernel)
theorem wm_L_48 : Cond.methodLink "PooledInlawsLaw" 48 yX4_couple ∈ zBT := zBT_in (by decide +kernel) (by decide +kernel)
theorem wq_X_couple : Cond.instanceMethod yX4_couple ∈ zBT := zBT_in (by decide +kernel) (by decide +kernel)
theorem ww_X_couple : Cond.selects "PooledInlaws" yX4_couple yX4_couple ∈ zBT := zBT_in (by decide +kernel) (by decide +kernel)
theorem wm_L_51 : Cond.methodLink "PooledInlawsLaw" 51 yX5_couple ∈ zBT := zBT_in (by decide +kernel) (by decide +kernel)
theorem wq_M_couple : Cond.instanceMethod yX5_couple ∈ zBT := zBT_in (by decide +kernel) (by decide +kernel)
theorem ww_M_couple : Cond.selects "PooledInlawsModel" yX5_couple yX5_couple ∈ zBT := zBT_in (by decide +kernel) (by decide +kernel)
theorem wm_L_52 : Cond.methodLink "PooledInlawsLaw" 52 yX4_coupleOf ∈ zBT := zBT_in (by decide +kernel) (by decide +kernel)
theorem wq_X_coupleOf : Cond.instanceMethod yX4_coupleOf ∈ zBT := zBT_in (by decide +kernel) (by decide +kernel)
theorem ww_X_coupleOf : Cond.selects "PooledInlaws" yX4_coupleOf yX4_coupleOf ∈ zBT := zBT_in (by decide +kernel) (by decide +kernel)
theorem wm_L_55 : Cond.methodLink "PooledInlawsLaw" 55 yX5_coupleOf ∈ zBT := zBT_in (by decide +kernel) (by decide +kernel)
theorem wq_M_coupleOf : Cond.instanceMethod yX5_coupleOf ∈ zBT := zBT_in (by decide +kernel) (by decide +kernel)
theorem ww_M_coupleOf : Cond.selects "PooledInlawsModel" yX5_coupleOf yX5_coupleOf ∈ zBT := zBT_in (by decide +kernel) (by decide +kernel)
theorem wm_L_56 : Cond.methodLink "PooledInlawsLaw" 56 yX4_give ∈ zBT := zBT_in (by decide +kernel) (by decide +kernel)
theorem wq_X_give : Cond.instanceMethod yX4_give ∈ zBT := zBT_in (by decide +kernel) (by decide +kernel)
theorem ww_X_give : Cond.selects "PooledInlaws" yX4_give yX4_give ∈ zBT := zBT_in (by decide +kernel) (by decide +kernel)
theorem wm_L_59 : Cond.methodLink "PooledInlawsLaw" 59 yX5_give ∈ zBT := zBT_in (by decide +kernel) (by decide +kernel)
theorem wq_M_give : Cond.instanceMethod yX5_give ∈ zBT := zBT_in (by decide +kernel) (by decide +kernel)
theorem ww_M_give : Cond.selects "PooledInlawsModel" yX5_give yX5_give ∈ zBT := zBT_in (by decide +kernel) (by decide +kernel)
theorem wm_L_60 : Cond.methodLink "PooledInlawsLaw" 60 yX4_sundays ∈ zBT := zBT_in (by decide +kernel) (by decide +kernel)
theorem wq_X_sundays : Cond.instanceMethod yX4_sundays ∈ zBT := zBT_in (by decide +kernel) (by decide +kernel)
theorem ww_X_sundays : Cond.selects "PooledInlaws" yX4_sundays yX4_sundays ∈ zBT := zBT_in (by decide +kernel) (by decide +kernel)
theorem wm_L_63 : Cond.methodLink "PooledInlawsLaw" 63 yX5_sundays ∈ zBT := zBT_in (by decide +kernel) (by decide +kernel)
theorem wq_M_sundays : Cond.instanceMethod yX5_sundays ∈ zBT := zBT_in (by decide +kernel) (by decide +kernel)
theorem ww_M_sundays : Cond.selects "PooledInlawsModel" yX5_sundays yX5_sundays ∈ zBT := zBT_in (by decide +kernel) (by decide +kernel)
theorem wm_L_64 : Cond.methodLink "PooledInlawsLaw" 64 yX4_on ∈ zBT := zBT_in (by decide +kernel) (by decide +kernel)
theorem wq_X_on : Cond.instanceMethod yX4_on ∈ zBT := zBT_in (by decide +kernel) (by decide +kernel)
theorem ww_X_on : Cond.selects "PooledInlaws" yX4_on yX4_on ∈ zBT := zBT_in (by decide +kernel) (by decide +kernel)
theorem wm_L_67 : Cond.methodLink "PooledInlawsLaw" 67 yX5_on ∈ zBT := zBT_in (by decide +kernel) (by decide +kernel)
theorem wq_M_on : Cond.instanceMethod yX5_on ∈ zBT := zBT_in (by decide +kernel) (by decide +kernel)
theorem ww_M_on : Cond.selects "PooledInlawsModel" yX5_on yX5_on ∈ zBT := zBT_in (by decide +kernel) (by decide +kernel)
theorem wm_L_68 : Cond.methodLink "PooledInlawsLaw" 68 yX4_then ∈ zBT := zBT_in (by decide +kernel) (by decide +kernel)
theorem wq_X_then : Cond.instanceMethod yX4_then ∈ zBT := zBT_in (by decide +kernel) (by decide +kernel)
theorem ww_X_then : Cond.selects "PooledInlaws" yX4_then yX4_then ∈ zBT := zBT_in (by decide +kernel) (by decide +kernel)
theorem wm_L_71 : Cond.methodLink "PooledInlawsLaw" 71 yX5_then ∈ zBT := zBT_in (by decide +kernel) (by decide +kernel)
theorem wq_M_then : Cond.instanceMethod yX5_then ∈ zBT := zBT_in (by decide +kernel) (by decide +kernel)
theorem ww_M_then : Cond.selects "PooledInlawsModel" yX5_then yX5_then ∈ zBT := zBT_in (by decide +kernel) (by decide +kernel)
theorem wm_L_72 : Cond.methodLink "PooledInlawsLaw" 72 yX4_meets ∈ zBT := zBT_in (by decide +kernel) (by decide +kernel)
theorem wq_X_meets : Cond.instanceMethod yX4_meets ∈ zBT := zBT_in (by decide +kernel) (by decide +kernel)
theorem ww_X_meets : Cond.selects "PooledInlaws" yX4_meets yX4_meets ∈ zBT := zBT_in (by decide +kernel) (by decide +kernel)
theorem wm_L_75 : Cond.methodLink "PooledInlawsLaw" 75 yX5_meets ∈ zBT := zBT_in (by decide +kernel) (by decide +kernel)
theorem wq_M_meets : Cond.instanceMethod yX5_meets ∈ zBT := zBT_in (by decide +kernel) (by decide +kernel)
theorem ww_M_meets : Cond.selects "PooledInlawsModel" yX5_meets yX5_meets ∈ zBT := zBT_in (by decide +kernel) (by decide +kernel)
theorem wm_L_76 : Cond.methodLink "PooledInlawsLaw" 76 yX4_well ∈ zBT := zBT_in (by decide +kernel) (by decide +kernel)
theorem wq_X_well : Cond.instanceMethod yX4_well ∈ zBT := zBT_in (by decide +kernel) (by decide +kernel)
theorem ww_X_well : Cond.selects "PooledInlaws" yX4_well yX4_well ∈ zBT := zBT_in (by decide +kernel) (by decide +kernel)
theorem wm_L_79 : Cond.methodLink "PooledInlawsLaw" 79 yX5_well ∈ zBT := zBT_in (by decide +kernel) (by decide +kernel)
theorem wq_M_well : Cond.instanceMethod yX5_well ∈ zBT := zBT_in (by decide +kernel) (by decide +kernel)
theorem ww_M_well : Cond.selects "PooledInlawsModel" yX5_well yX5_well ∈ zBT := zBT_in (by decide +kernel) (by decide +kernel)
theorem wm_L_80 : Cond.methodLink "PooledInlawsLaw" 80 yX4_cold ∈ zBT := zBT_in (by decide +kernel) (by decide +kernel)
theorem wq_X_cold : Cond.instanceMethod yX4_cold ∈ zBT := zBT_in (by decide +kernel) (by decide +kernel)
theorem ww_X_cold : Cond.selects "PooledInlaws" yX4_cold yX4_cold ∈ zBT := zBT_in (by decide +kernel) (by decide +kernel)
theorem wm_L_83 : Cond.methodLink "PooledInlawsLaw" 83 yX5_cold ∈ zBT := zBT_in (by decide +kernel) (by decide +kernel)
theorem wq_M_cold : Cond.instanceMethod yX5_cold ∈ zBT := zBT_in (by decide +kernel) (by decide +kernel)
theorem ww_M_cold : Cond.selects "PooledInlawsModel" yX5_cold yX5_cold ∈ zBT := zBT_in (by decide +kernel) (by decide +kernel)
theorem wm_L_84 : Cond.methodLink "PooledInlawsLaw" 84 yX4_kind ∈ zBT := zBT_in (by decide +kernel) (by decide +kernel)
theorem wq_X_kind : Cond.instanceMethod yX4_kind ∈ zBT := zBT_in (by decide +kernel) (by decide +kernel)
theorem ww_X_kind : Cond.selects "PooledInlaws" yX4_kind yX4_kind ∈ zBT := zBT_in (by decide +kernel) (by decide +kernel)
theorem wm_L_87 : Cond.methodLink "PooledInlawsLaw" 87 yX5_kind ∈ zBT := zBT_in (by decide +kernel) (by decide +kernel)
theorem wq_M_kind : Cond.instanceMethod yX5_kind ∈ zBT := zBT_in (by decide +kernel) (by decide +kernel)
theorem ww_M_kind : Cond.selects "PooledInlawsModel" yX5_kind yX5_kind ∈ zBT := zBT_in (by decide +kernel) (by decide +kernel)
theorem wm_L_88 : Cond.methodLink "PooledInlawsLaw" 88 yX4_warm ∈ zBT := zBT_in (by decide +kernel) (by decide +kernel)
theorem wq_X_warm : Cond.instanceMethod yX4_warm ∈ zBT := zBT_in (by decide +kernel) (by decide +kernel)
theorem ww_X_warm : Cond.selects "PooledInlaws" yX4_warm yX4_warm ∈ zBT := zBT_in (by decide +kernel) (by decide +kernel)
theorem wm_L_91 : Cond.methodLink "PooledInlawsLaw" 91 yX5_warm ∈ zBT := zBT_in (by decide +kernel) (by decide +kernel)
theorem wq_M_warm : Cond.instanceMethod yX5_warm ∈ zBT := zBT_in (by decide +kernel) (by decide +kernel)
theorem ww_M_warm : Cond.selects "PooledInlawsModel" yX5_warm yX5_warm ∈ zBT := zBT_in (by decide +kernel) (by decide +kernel)
theorem wm_L_92 : Cond.methodLink "PooledInlawsLaw" 92 yX4_sit ∈ zBT := zBT_in (by decide +kernel) (by decide +kernel)
theorem wq_X_sit : Cond.instanceMethod yX4_sit ∈ zBT := zBT_in (by decide +kernel) (by decide +kernel)
theorem ww_X_sit : Cond.selects "PooledInlaws" yX4_sit yX4_sit ∈ zBT := zBT_in (by decide +kernel) (by decide +kernel)
theorem wm_L_95 : Cond.methodLink "PooledInlawsLaw" 95 yX5_sit ∈ zBT := zBT_in (by decide +kernel) (by decide +kernel)
theorem wq_M_sit : Cond.instanceMethod yX5_sit ∈ zBT := zBT_in (by decide +kernel) (by decide +kernel)
theorem ww_M_sit : Cond.selects "PooledInlawsModel" yX5_sit yX5_sit ∈ zBT := zBT_in (by decide +kernel) (by decide +kernel)
theorem wm_L_96 : Cond.methodLink "PooledInlawsLaw" 96 yX4_loud ∈ zBT := zBT_in (by decide +kernel) (by decide +kernel)
theorem wq_X_loud : Cond.instanceMethod yX4_loud ∈ zBT := zBT_in (by decide +kernel) (by decide +kernel)
theorem ww_X_loud : Cond.selects "PooledInlaws" yX4_loud yX4_loud ∈ zBT := zBT_in (by decide +kernel) (by decide +kernel)
theorem wm_L_99 : Cond.methodLink "PooledInlawsLaw" 99 yX5_loud ∈ zBT := zBT_in (by decide +kernel) (by decide +kernel)
theorem wq_M_loud : Cond.instanceMethod yX5_loud ∈ zBT := zBT_in (by decide +kernel) (by decide +kernel)
theorem ww_M_loud : Cond.selects "PooledInlawsModel" yX5_loud yX5_loud ∈ zBT := zBT_in (by decide +kernel) (by decide +kernel)
theorem wm_L_100 : Cond.methodLink "PooledInlawsLaw" 100 yX4_stoke ∈ zBT := zBT_in (by decide +kernel) (by decide +kernel)
theorem wq_X_stoke : Cond.instanceMethod yX4_stoke ∈ zBT := zBT_in (by decide +kernel) (by decide +kernel)
theorem ww_X_stoke : Cond.selects "PooledInlaws" yX4_stoke yX4_stoke ∈ zBT := zBT_in (by decide +kernel) (by decide +kernel)
theorem wm_L_103 : Cond.methodLink "PooledInlawsLaw" 103 yX5_stoke ∈ zBT := zBT_in (by decide +kernel) (by decide +kernel)
theorem wq_M_stoke : Cond.instanceMethod yX5_stoke ∈ zBT := zBT_in (by decide +kernel) (by decide +kernel)
theorem ww_M_stoke : Cond.selects "PooledInlawsModel" yX5_stoke yX5_stoke ∈ zBT := zBT_in (by decide +kernel) (by decide +kernel)
theorem wm_L_104 : Cond.methodLink "PooledInlawsLaw" 104 yX4_lonely ∈ zBT := zBT_in (by decide +kernel) (by decide +kernel)
theorem wq_X_lonely : Cond.instanceMethod yX4_lonely ∈ zBT := zBT_in (by decide +kernel) (by decide +kernel)
theorem ww_X_lonely : Cond.selects "PooledInlaws" yX4_lonely yX4_lonely ∈ zBT := zBT_in (by decide +kernel) (by decide +kernel)
theorem wm_L_107 : Cond.methodLink "PooledInlawsLaw" 107 yX5_lonely ∈ zBT := zBT_in (by decide +kernel) (by decide +kernel)
theorem wq_M_lonely : Cond.instanceMethod yX5_lonely ∈ zBT := zBT_in (by decide +kernel) (by decide +kernel)
theorem ww_M_lonely : Cond.selects "PooledInlawsModel" yX5_lonely yX5_lonely ∈ zBT := zBT_in (by decide +kernel) (by decide +kernel)
theorem wm_L_108 : Cond.methodLink "PooledInlawsLaw" 108 yX4_feed ∈ zBT := zBT_in (by decide +kernel) (by decide +kernel)
theorem wq_X_feed : Cond.instanceMethod yX4_feed ∈ zBT := zBT_in (by decide +kernel) (by decide +kernel)
theorem ww_X_feed : Cond.selects "PooledInlaws" yX4_feed yX4_feed ∈ zBT := zBT_in (by decide +kernel) (by decide +kernel)
theorem wm_L_111 : Cond.methodLink "PooledInlawsLaw" 111 yX5_feed ∈ zBT := zBT_in (by decide +kernel) (by decide +kernel)
theorem wq_M_feed : Cond.instanceMethod yX5_feed ∈ zBT := zBT_in (by decide +kernel) (by decide +kernel)
theorem ww_M_feed : Cond.selects "PooledInlawsModel" yX5_feed yX5_feed ∈ zBT := zBT_in (by decide +kernel) (by decide +kernel)
theorem wm_L_112 : Cond.methodLink "PooledInlawsLaw" 112 yX4_wipe ∈ zBT := zBT_in (by decide +kernel) (by decide +kernel)
theorem wq_X_wipe : Cond.instanceMethod yX4_wipe ∈ zBT := zBT_in (by decide +kernel) (by decide +kernel)
theorem ww_X_wipe : Cond.selects "PooledInlaws" yX4_wipe yX4_wipe ∈ zBT := zBT_in (by decide +kernel) (by decide +kernel)
theorem wm_L_116 : Cond.methodLink "PooledInlawsLaw" 116 yX5_wipe ∈ zBT := zBT_in (by decide +kernel) (by decide +kernel)
theorem wq_M_wipe : Cond.instanceMethod yX5_wipe ∈ zBT := zBT_in (by decide +kernel) (by decide +kernel)
theorem ww_M_wipe : Cond.selects "PooledInlawsModel" yX5_wipe yX5_wipe ∈ zBT := zBT_in (by decide +kernel) (by decide +kernel)
theorem wm_L_117 : Cond.methodLink "PooledInlawsLaw" 117 yX4_institute ∈ zBT := zBT_in (by decide +kernel) (by decide +kernel)
theorem wq_X_institute : Cond.instanceMethod yX4_institute ∈ zBT := zBT_in (by decide +kernel) (by decide +kernel)
theorem ww_X_institute : Cond.selects "PooledInlaws" yX4_institute yX4_institute ∈ zBT := zBT_in (by decide +kernel) (by decide +kernel)
theorem wm_L_120 : Cond.methodLink "PooledInlawsLaw" 120 yX5_institute ∈ zBT := zBT_in (by decide +kernel) (by decide +kernel)
theorem wq_M_institute : Cond.instanceMethod yX5_institute ∈ zBT := zBT_in (by decide +kernel) (by decide +kernel)
theorem ww_M_institute : Cond.selects "PooledInlawsModel" yX5_institute yX5_institute ∈ zBT := zBT_in (by decide +kernel) (by decide +kernel)
theorem wm_L_121 : Cond.methodLink "PooledInlawsLaw" 121 yX4_sheet ∈ zBT := zBT_in (by decide +kernel) (by decide +kernel)
theorem wq_X_sheet : Cond.instanceMethod yX4_sheet ∈ zBT := zBT_in (by decide +kernel) (by decide +kernel)
theorem ww_X_sheet : Cond.selects "PooledInlaws" yX4_sheet yX4_sheet ∈ zBT := zBT_in (by decide +kernel) (by decide +kernel)
theorem wm_L_124 : Cond.methodLink "PooledInlawsLaw" 124 yX5_sheet ∈ zBT := zBT_in (by decide +kernel) (by decide +kernel)
theorem wq_M_sheet : Cond.instanceMethod yX5_sheet ∈ zBT := zBT_in (by decide +kernel) (by decide +kernel)
theorem ww_M_sheet : Cond.selects "PooledInlawsModel" yX5_sheet yX5_sheet ∈ zBT := zBT_in (by decide +kernel) (by decide +kernel)
theorem wc_L_125 : Cond.constantLong "PooledInlawsLaw" 125 (4294967295) ∈ zBT := zBT_in (by decide +kernel) (by decide +kernel)
theorem wm_L_127 : Cond.methodLink "PooledInlawsLaw" 127 yX4_write ∈ zBT := zBT_in (by decide +kernel) (by decide +kernel)
theorem wq_X_write : Cond.instanceMethod yX4_write ∈ zBT := zBT_in (by decide +kernel) (by decide +kernel)
theorem ww_X_write : Cond.selects "PooledInlaws" yX4_write yX4_write ∈ zBT := zBT_in (by decide +kernel) (by decide +kernel)
theorem wm_L_131 : Cond.methodLink "PooledInlawsLaw" 131 yX5_write ∈ zBT := zBT_in (by decide +kernel) (by decide +kernel)
theorem wq_M_write : Cond.instanceMethod yX5_write ∈ zBT := zBT_in (by decide +kernel) (by decide +kernel)
theorem ww_M_write : Cond.selects "PooledInlawsModel" yX5_write yX5_write ∈ zBT := zBT_in (by decide +kernel) (by decide +kernel)
theorem wm_L_132 : Cond.methodLink "PooledInlawsLaw" 132 yX4_copy ∈ zBT := zBT_in (by decide +kernel) (by decide +kernel)
theorem wq_X_copy : Cond.instanceMethod yX4_copy ∈ zBT := zBT_in (by decide +kernel) (by decide +kernel)
theorem ww_X_copy : Cond.selects "PooledInlaws" yX4_copy yX4_copy ∈ zBT := zBT_in (by decide +kernel) (by decide +kernel)
theorem wm_L_136 : Cond.methodLink "PooledInlawsLaw" 136 yX5_copy ∈ zBT := zBT_in (by decide +kernel) (by decide +kernel)
theorem wq_M_copy : Cond.instanceMethod yX5_copy ∈ zBT := zBT_in (by decide +kernel) (by decide +kernel)
theorem ww_M_copy : Cond.selects "PooledInlawsModel" yX5_copy yX5_copy ∈ zBT := zBT_in (by decide +kernel) (by decide +kernel)
theorem wm_L_137 : Cond.methodLink "PooledInlawsLaw" 137 yX4_lays ∈ zBT := zBT_in (by decide +kernel) (by decide +kernel)
theorem wq_X_lays : Cond.instanceMethod yX4_lays ∈ zBT := zBT_in (by decide +kernel) (by decide +kernel)
theorem ww_X_lays : Cond.selects "PooledInlaws" yX4_lays yX4_lays ∈ zBT := zBT_in (by decide +kernel) (by decide +kernel)
theorem wm_L_140 : Cond.methodLink "PooledInlawsLaw" 140 yX5_lays ∈ zBT := zBT_in (by decide +kernel) (by decide +kernel)
theorem wq_M_lays : Cond.instanceMethod yX5_lays ∈ zBT := zBT_in (by decide +kernel) (by decide +kernel)
theorem ww_M_lays : Cond.selects "PooledInlawsModel" yX5_lays yX5_lays ∈ zBT := zBT_in (by decide +kernel) (by decide +kernel)
theorem wm_L_141 : Cond.methodLink "PooledInlawsLaw" 141 yX4_book ∈ zBT := zBT_in (by decide +kernel) (by decide +kernel)
theorem wq_X_book : Cond.instanceMethod yX4_book ∈ zBT := zBT_in (by decide +kernel) (by decide +kernel)
theorem ww_X_book : Cond.selects "PooledInlaws" yX4_book yX4_book ∈ zBT := zBT_in (by decide +kernel) (by decide +kernel)
theorem wm_L_144 : Cond.methodLink "PooledInlawsLaw" 144 yX5_book ∈ zBT := zBT_in (by decide +kernel) (by decide +kernel)
theorem wq_M_book : Cond.instanceMethod yX5_book ∈ zBT := zBT_in (by decide +kernel) (by decide +kernel)
theorem ww_M_book : Cond.selects "PooledInlawsModel" yX5_book yX5_book ∈ zBT := zBT_in (by decide +kernel) (by decide +kernel)
theorem wm_L_145 : Cond.methodLink "PooledInlawsLaw" 145 yX4_read ∈ zBT := zBT_in (by decide +kernel) (by decide +kernel)
theorem wq_X_read : Cond.instanceMethod yX4_read ∈ zBT := zBT_in (by decide +kernel) (by decide +kernel)
theorem ww_X_read : Cond.selects "PooledInlaws" yX4_read yX4_read ∈ zBT := zBT_in (by decide +kernel) (by decide +kernel)
theorem wm_L_148 : Cond.methodLink "PooledInlawsLaw" 148 yX5_read ∈ zBT := zBT_in (by decide +kernel) (by decide +kernel)
theorem wq_M_read : Cond.instanceMethod yX5_read ∈ zBT := zBT_in (by decide +kernel) (by decide +kernel)
theorem ww_M_read : Cond.selects "PooledInlawsModel" yX5_read yX5_read ∈ zBT := zBT_in (by decide +kernel) (by decide +kernel)
theorem wm_L_149 : Cond.methodLink "PooledInlawsLaw" 149 yX4_image ∈ zBT := zBT_in (by decide +kernel) (by decide +kernel)
theorem wq_X_image : Cond.instanceMethod yX4_image ∈ zBT := zBT_in (by decide +kernel) (by decide +kernel)
theorem ww_X_image : Cond.selects "PooledInlaws" yX4_image yX4_image ∈ zBT := zBT_in (by decide +kernel) (by decide +kernel)
theorem wm_L_152 : Cond.methodLink "PooledInlawsLaw" 152 yX5_image ∈ zBT := zBT_in (by decide +kernel) (by decide +kernel)
theorem wq_M_image : Cond.instanceMethod yX5_image ∈ zBT := zBT_in (by decide +kernel) (by decide +kernel)
theorem ww_M_image : Cond.selects "PooledInlawsModel" yX5_image yX5_image ∈ zBT := zBT_in (by decide +kernel) (by decide +kernel)
theorem wm_L_153 : Cond.methodLink "PooledInlawsLaw" 153 yX4_undo ∈ zBT := zBT_in (by decide +kernel) (by decide +kernel)
theorem wq_X_undo : Cond.instanceMethod yX4_undo ∈ zBT := zBT_in (by decide +kernel) (by decide +kernel)
theorem ww_X_undo : Cond.selects "PooledInlaws" yX4_undo yX4_undo ∈ zBT := zBT_in (by decide +kernel) (by decide +kernel)
theorem wm_L_156 : Cond.methodLink "PooledInlawsLaw" 156 yX5_undo ∈ zBT := zBT_in (by decide +kernel) (by decide +kernel)
theorem wq_M_undo : Cond.instanceMethod yX5_undo ∈ zBT := zBT_in (by decide +kernel) (by decide +kernel)
theorem ww_M_undo : Cond.selects "PooledInlawsModel" yX5_undo yX5_undo ∈ zBT := zBT_in (by decide +kernel) (by decide +kernel)
theorem wm_L_157 : Cond.methodLink "PooledInlawsLaw" 157 yX4_tear ∈ zBT := zBT_in (by decide +kernel) (by decide +kernel)
theorem wq_X_tear : Cond.instanceMethod yX4_tear ∈ zBT := zBT_in (by decide +kernel) (by decide +kernel)
theorem ww_X_tear : Cond.selects "PooledInlaws" yX4_tear yX4_tear ∈ zBT := zBT_in (by decide +kernel) (by decide +kernel)
theorem wm_L_160 : Cond.methodLink "PooledInlawsLaw" 160 yX5_tear ∈ zBT := zBT_in (by decide +kernel) (by decide +kernel)
theorem wq_M_tear : Cond.instanceMethod yX5_tear ∈ zBT := zBT_in (by decide +kernel) (by decide +kernel)
theorem ww_M_tear : Cond.selects "PooledInlawsModel" yX5_tear yX5_tear ∈ zBT := zBT_in (by decide +kernel) (by decide +kernel)
theorem wm_L_161 : Cond.methodLink "PooledInlawsLaw" 161 yX4_count ∈ zBT := zBT_in (by decide +kernel) (by decide +kernel)
theorem wq_X_count : Cond.instanceMethod yX4_count ∈ zBT := zBT_in (by decide +kernel) (by decide +kernel)
theorem ww_X_count : Cond.selects "PooledInlaws" yX4_count yX4_count ∈ zBT := zBT_in (by decide +kernel) (by decide +kernel)
theorem wm_L_164 : Cond.methodLink "PooledInlawsLaw" 164 yX5_count ∈ zBT := zBT_in (by decide +kernel) (by decide +kernel)
theorem wq_M_count : Cond.instanceMethod yX5_count ∈ zBT := zBT_in (by decide +kernel) (by decide +kernel)
theorem ww_M_count : Cond.selects "PooledInlawsModel" yX5_count yX5_count ∈ zBT := zBT_in (by decide +kernel) (by decide +kernel)
theorem wm_L_165 : Cond.methodLink "PooledInlawsLaw" 165 yX4_status ∈ zBT := zBT_in (by decide +kernel) (by decide +kernel)
theorem wq_X_status : Cond.instanceMethod yX4_status ∈ zBT := zBT_in (by decide +kernel) (by decide +kernel)
theorem ww_X_status : Cond.selects "PooledInlaws" yX4_status yX4_status ∈ zBT := zBT_in (by decide +kernel) (by decide +kernel)
theorem wm_L_168 : Cond.methodLink "PooledInlawsLaw" 168 yX5_status ∈ zBT := zBT_in (by decide +kernel) (by decide +kernel)
theorem wq_M_status : Cond.instanceMethod yX5_status ∈ zBT := zBT_in (by decide +kernel) (by decide +kernel)
theorem ww_M_status : Cond.selects "PooledInlawsModel" yX5_status yX5_status ∈ zBT := zBT_in (by decide +kernel) (by decide +kernel)
theorem mk_X_init : zMok 46 0 := ⟨zBT_in (by decide +kernel) (by decide +kernel), zBT_in (by decide +kernel) (by decide +kernel), ⟨by decide +kernel, by decide +kernel⟩, by decide +kernel⟩
theorem mk_M_init : zMok 92 0 := ⟨zBT_in (by decide +kernel) (by decide +kernel), zBT_in (by decide +kernel) (by decide +kernel), ⟨by decide +kernel, by decide +kernel⟩, by decide +kernel⟩
theorem mk_X_fire : zMok 47 1 := ⟨zBT_in (by decide +kernel) (by decide +kernel), zBT_in (by decide +kernel) (by decide +kernel), ⟨by decide +kernel, by decide +kernel⟩, by decide +kernel⟩
theorem mk_M_fire : zMok 110 1 := ⟨zBT_in (by decide +kernel) (by decide +kernel), zBT_in (by decide +kernel) (by decide +kernel), ⟨by decide +kernel, by decide +kernel⟩, by decide +kernel⟩
theorem mk_X_now : zMok 48 1 := ⟨zBT_in (by decide +kernel) (by decide +kernel), zBT_in (by decide +kernel) (by decide +kernel), ⟨by decide +kernel, by decide +kernel⟩, by decide +kernel⟩
theorem mk_M_now : zMok 113 1 := ⟨zBT_in (by decide +kernel) (by decide +kernel), zBT_in (by decide +kernel) (by decide +kernel), ⟨by decide +kernel, by decide +kernel⟩, by decide +kernel⟩
theorem mk_X_inlaw : zMok 49 1 := ⟨zBT_in (by decide +kernel) (by decide +kernel), zBT_in (by decide +kernel) (by decide +kernel), ⟨by decide +kernel, by decide +kernel⟩, by decide +kernel⟩
theorem mk_M_inlaw : zMok 119 1 := ⟨zBT_in (by decide +kernel) (by decide +kernel), zBT_in (by decide +kernel) (by decide +kernel), ⟨by decide +kernel, by decide +kernel⟩, by decide +kernel⟩
theorem mk_X_of : zMok 50 2 := ⟨zBT_in (by decide +kernel) (by decide +kernel), zBT_in (by decide +kernel) (by decide +kernel), ⟨by decide +kernel, by decide +kernel⟩, by decide +kernel⟩
theorem mk_M_of : zMok 120 2 := ⟨zBT_in (by decide +kernel) (by decide +kernel), zBT_in (by decide +kernel) (by decide +kernel), ⟨by decide +kernel, by decide +kernel⟩, by decide +kernel⟩
theorem mk_X_with : zMok 51 3 := ⟨zBT_in (by decide +kernel) (by decide +kernel), zBT_in (by decide +kernel) (by decide +kernel), ⟨by decide +kernel, by decide +kernel⟩, by decide +kernel⟩
theorem mk_M_with : zMok 121 3 := ⟨zBT_in (by decide +kernel) (by decide +kernel), zBT_in (by decide +kernel) (by decide +kernel), ⟨by decide +kernel, by decide +kernel⟩, by decide +kernel⟩
theorem mk_X_set : zMok 52 3 := ⟨zBT_in (by decide +kernel) (by decide +kernel), zBT_in (by decide +kernel) (by decide +kernel), ⟨by decide +kernel, by decide +kernel⟩, by decide +kernel⟩
theorem mk_M_set : zMok 122 3 := ⟨zBT_in (by decide +kernel) (by decide +kernel), zBT_in (by decide +kernel) (by decide +kernel), ⟨by decide +kernel, by decide +kernel⟩, by decide +kernel⟩
theorem mk_X_turn : zMok 53 2 := ⟨zBT_in (by decide +kernel) (by decide +kernel), zBT_in (by decide +kernel) (by decide +kernel), ⟨by decide +kernel, by decide +kernel⟩, by decide +kernel⟩
theorem mk_M_turn : zMok 123 2 := ⟨zBT_in (by decide +kernel) (by decide +kernel), zBT_in (by decide +kernel) (by decide +kernel), ⟨by decide +kernel, by decide +kernel⟩, by decide +kernel⟩
theorem mk_X_as : zMok 54 2 := ⟨zBT_in (by decide +kernel) (by decide +kernel), zBT_in (by decide +kernel) (by decide +kernel), ⟨by decide +kernel, by decide +kernel⟩, by decide +kernel⟩
theorem mk_M_as : zMok 125 2 := ⟨zBT_in (by decide +kernel) (by decide +kernel), zBT_in (by decide +kernel) (by decide +kernel), ⟨by decide +kernel, by decide +kernel⟩, by decide +kernel⟩
theorem mk_X_couple : zMok 55 1 := ⟨zBT_in (by decide +kernel) (by decide +kernel), zBT_in (by decide +kernel) (by decide +kernel), ⟨by decide +kernel, by decide +kernel⟩, by decide +kernel⟩
theorem mk_M_couple : zMok 127 1 := ⟨zBT_in (by decide +kernel) (by decide +kernel), zBT_in (by decide +kernel) (by decide +kernel), ⟨by decide +kernel, by decide +kernel⟩, by decide +kernel⟩
theorem mk_X_coupleOf : zMok 56 2 := ⟨zBT_in (by decide +kernel) (by decide +kernel), zBT_in (by decide +kernel) (by decide +kernel), ⟨by decide +kernel, by decide +kernel⟩, by decide +kernel⟩
theorem mk_M_coupleOf : zMok 129 2 := ⟨zBT_in (by decide +kernel) (by decide +kernel), zBT_in (by decide +kernel) (by decide +kernel), ⟨by decide +kernel, by decide +kernel⟩, by decide +kernel⟩
theorem mk_X_give : zMok 57 3 := ⟨zBT_in (by decide +kernel) (by decide +kernel), zBT_in (by decide +kernel) (by decide +kernel), ⟨by decide +kernel, by decide +kernel⟩, by decide +kernel⟩
theorem mk_M_give : zMok 130 3 := ⟨zBT_in (by decide +kernel) (by decide +kernel), zBT_in (by decide +kernel) (by decide +kernel), ⟨by decide +kernel, by decide +kernel⟩, by decide +kernel⟩
theorem mk_X_sundays : zMok 58 1 := ⟨zBT_in (by decide +kernel) (by decide +kernel), zBT_in (by decide +kernel) (by decide +kernel), ⟨by decide +kernel, by decide +kernel⟩, by decide +kernel⟩
theorem mk_M_sundays : zMok 136 1 := ⟨zBT_in (by decide +kernel) (by decide +kernel), zBT_in (by decide +kernel) (by decide +kernel), ⟨by decide +kernel, by decide +kernel⟩, by decide +kernel⟩
theorem mk_X_on : zMok 59 3 := ⟨zBT_in (by decide +kernel) (by decide +kernel), zBT_in (by decide +kernel) (by decide +kernel), ⟨by decide +kernel, by decide +kernel⟩, by decide +kernel⟩
theorem mk_M_on : zMok 139 3 := ⟨zBT_in (by decide +kernel) (by decide +kernel), zBT_in (by decide +kernel) (by decide +kernel), ⟨by decide +kernel, by decide +kernel⟩, by decide +kernel⟩
theorem mk_X_then : zMok 60 3 := ⟨zBT_in (by decide +kernel) (by decide +kernel), zBT_in (by decide +kernel) (by decide +kernel), ⟨by decide +kernel, by decide +kernel⟩, by decide +kernel⟩
theorem mk_M_then : zMok 140 3 := ⟨zBT_in (by decide +kernel) (by decide +kernel), zBT_in (by decide +kernel) (by decide +kernel), ⟨by decide +kernel, by decide +kernel⟩, by decide +kernel⟩
theorem mk_X_meets : zMok 61 2 := ⟨zBT_in (by decide +kernel) (by decide +kernel), zBT_in (by decide +kernel) (by decide +kernel), ⟨by decide +kernel, by decide +kernel⟩, by decide +kernel⟩
theorem mk_M_meets : zMok 141 2 := ⟨zBT_in (by decide +kernel) (by decide +kernel), zBT_in (by decide +kernel) (by decide +kernel), ⟨by decide +kernel, by decide +kernel⟩, by decide +kernel⟩
theorem mk_X_well : zMok 62 2 := ⟨zBT_in (by decide +kernel) (by decide +kernel), zBT_in (by decide +kernel) (by decide +kernel), ⟨by decide +kernel, by decide +kernel⟩, by decide +kernel⟩
theorem mk_M_well : zMok 142 2 := ⟨zBT_in (by decide +kernel) (by decide +kernel), zBT_in (by decide +kernel) (by decide +kernel), ⟨by decide +kernel, by decide +kernel⟩, by decide +kernel⟩
theorem mk_X_cold : zMok 63 1 := ⟨zBT_in (by decide +kernel) (by decide +kernel), zBT_in (by decide +kernel) (by decide +kernel), ⟨by decide +kernel, by decide +kernel⟩, by decide +kernel⟩
theorem mk_M_cold : zMok 143 1 := ⟨zBT_in (by decide +kernel) (by decide +kernel), zBT_in (by decide +kernel) (by decide +kernel), ⟨by decide +kernel, by decide +kernel⟩, by decide +kernel⟩
theorem mk_X_kind : zMok 64 2 := ⟨zBT_in (by decide +kernel) (by decide +kernel), zBT_in (by decide +kernel) (by decide +kernel), ⟨by decide +kernel, by decide +kernel⟩, by decide +kernel⟩
theorem mk_M_kind : zMok 146 2 := ⟨zBT_in (by decide +kernel) (by decide +kernel), zBT_in (by decide +kernel) (by decide +kernel), ⟨by decide +kernel, by decide +kernel⟩, by decide +kernel⟩
theorem mk_X_warm : zMok 65 3 := ⟨zBT_in (by decide +kernel) (by decide +kernel), zBT_in (by decide +kernel) (by decide +kernel), ⟨by decide +kernel, by decide +kernel⟩, by decide +kernel⟩
theorem mk_M_warm : zMok 147 3 := ⟨zBT_in (by decide +kernel) (by decide +kernel), zBT_in (by decide +kernel) (by decide +kernel), ⟨by decide +kernel, by decide +kernel⟩, by decide +kernel⟩
theorem mk_X_sit : zMok 66 1 := ⟨zBT_in (by decide +kernel) (by decide +kernel), zBT_in (by decide +kernel) (by decide +kernel), ⟨by decide +kernel, by decide +kernel⟩, by decide +kernel⟩
theorem mk_M_sit : zMok 148 1 := ⟨zBT_in (by decide +kernel) (by decide +kernel), zBT_in (by decide +kernel) (by decide +kernel), ⟨by decide +kernel, by decide +kernel⟩, by decide +kernel⟩
theorem mk_X_loud : zMok 67 2 := ⟨zBT_in (by decide +kernel) (by decide +kernel), zBT_in (by decide +kernel) (by decide +kernel), ⟨by decide +kernel, by decide +kernel⟩, by decide +kernel⟩
theorem mk_M_loud : zMok 149 2 := ⟨zBT_in (by decide +kernel) (by decide +kernel), zBT_in (by decide +kernel) (by decide +kernel), ⟨by decide +kernel, by decide +kernel⟩, by decide +kernel⟩
theorem mk_X_stoke : zMok 68 1 := ⟨zBT_in (by decide +kernel) (by decide +kernel), zBT_in (by decide +kernel) (by decide +kernel), ⟨by decide +kernel, by decide +kernel⟩, by decide +kernel⟩
theorem mk_M_stoke : zMok 150 1 := ⟨zBT_in (by decide +kernel) (by decide +kernel), zBT_in (by decide +kernel) (by decide +kernel), ⟨by decide +kernel, by decide +kernel⟩, by decide +kernel⟩
theorem mk_X_lonely : zMok 69 1 := ⟨zBT_in (by decide +kernel) (by decide +kernel), zBT_in (by decide +kernel) (by decide +kernel), ⟨by decide +kernel, by decide +kernel⟩, by decide +kernel⟩
theorem mk_M_lonely : zMok 151 1 := ⟨zBT_in (by decide +kernel) (by decide +kernel), zBT_in (by decide +kernel) (by decide +kernel), ⟨by decide +kernel, by decide +kernel⟩, by decide +kernel⟩
theorem mk_X_feed : zMok 70 2 := ⟨zBT_in (by decide +kernel) (by decide +kernel), zBT_in (by decide +kernel) (by decide +kernel), ⟨by decide +kernel, by decide +kernel⟩, by decide +kernel⟩
theorem mk_M_feed : zMok 152 2 := ⟨zBT_in (by decide +kernel) (by decide +kernel), zBT_in (by decide +kernel) (by decide +kernel), ⟨by decide +kernel, by decide +kernel⟩, by decide +kernel⟩
theorem mk_X_wipe : zMok 71 0 := ⟨zBT_in (by decide +kernel) (by decide +kernel), zBT_in (by decide +kernel) (by decide +kernel), ⟨by decide +kernel, by decide +kernel⟩, by decide +kernel⟩
theorem mk_M_wipe : zMok 153 0 := ⟨zBT_in (by decide +kernel) (by decide +kernel), zBT_in (by decide +kernel) (by decide +kernel), ⟨by decide +kernel, by decide +kernel⟩, by decide +kernel⟩
theorem mk_X_institute : zMok 72 0 := ⟨zBT_in (by decide +kernel) (by decide +kernel), zBT_in (by decide +kernel) (by decide +kernel), ⟨by decide +kernel, by decide +kernel⟩, by decide +kernel⟩
theorem mk_M_institute : zMok 167 0 := ⟨zBT_in (by decide +kernel) (by decide +kernel), zBT_in (by decide +kernel) (by decide +kernel), ⟨by decide +kernel, by decide +kernel⟩, by decide +kernel⟩
theorem mk_X_sheet : zMok 73 3 := ⟨zBT_in (by decide +kernel) (by decide +kernel), zBT_in (by decide +kernel) (by decide +kernel), ⟨by decide +kernel, by decide +kernel⟩, by decide +kernel⟩
theorem mk_M_sheet : zMok 169 3 := ⟨zBT_in (by decide +kernel) (by decide +kernel), zBT_in (by decide +kernel) (by decide +kernel), ⟨by decide +kernel, by decide +kernel⟩, by decide +kernel⟩
theorem mk_X_write : zMok 74 3 := ⟨zBT_in (by decide +kernel) (by decide +kernel), zBT_in (by decide +kernel) (by decide +kernel), ⟨by decide +kernel, by decide +kernel⟩, by decide +kernel⟩
theorem mk_M_write : zMok 172 3 := ⟨zBT_in (by decide +kernel) (by decide +kernel), zBT_in (by decide +kernel) (by decide +kernel), ⟨by decide +kernel, by decide +kernel⟩, by decide +kernel⟩
theorem mk_X_copy : zMok 75 5 := ⟨zBT_in (by decide +kernel) (by decide +kernel), zBT_in (by decide +kernel) (by decide +kernel), ⟨by decide +kernel, by decide +kernel⟩, by decide +kernel⟩
theorem mk_M_copy : zMok 173 5 := ⟨zBT_in (by decide +kernel) (by decide +kernel), zBT_in (by decide +kernel) (by decide +kernel), ⟨by decide +kernel, by decide +kernel⟩, by decide +kernel⟩
theorem mk_X_lays : zMok 76 1 := ⟨zBT_in (by decide +kernel) (by decide +kernel), zBT_in (by decide +kernel) (by decide +kernel), ⟨by decide +kernel, by decide +kernel⟩, by decide +kernel⟩
theorem mk_M_lays : zMok 174 1 := ⟨zBT_in (by decide +kernel) (by decide +kernel), zBT_in (by decide +kernel) (by decide +kernel), ⟨by decide +kernel, by decide +kernel⟩, by decide +kernel⟩
theorem mk_X_book : zMok 77 2 := ⟨zBT_in (by decide +kernel) (by decide +kernel), zBT_in (by decide +kernel) (by decide +kernel), ⟨by decide +kernel, by decide +kernel⟩, by decide +kernel⟩
theorem mk_M_book : zMok 175 2 := ⟨zBT_in (by decide +kernel) (by decide +kernel), zBT_in (by decide +kernel) (by decide +kernel), ⟨by decide +kernel, by decide +kernel⟩, by decide +kernel⟩
theorem mk_X_read : zMok 78 3 := ⟨zBT_in (by decide +kernel) (by decide +kernel), zBT_in (by decide +kernel) (by decide +kernel), ⟨by decide +kernel, by decide +kernel⟩, by decide +kernel⟩
theorem mk_M_read : zMok 177 3 := ⟨zBT_in (by decide +kernel) (by decide +kernel), zBT_in (by decide +kernel) (by decide +kernel), ⟨by decide +kernel, by decide +kernel⟩, by decide +kernel⟩
theorem mk_X_image : zMok 79 0 := ⟨zBT_in (by decide +kernel) (by decide +kernel), zBT_in (by decide +kernel) (by decide +kernel), ⟨by decide +kernel, by decide +kernel⟩, by decide +kernel⟩
theorem mk_M_image : zMok 178 0 := ⟨zBT_in (by decide +kernel) (by decide +kernel), zBT_in (by decide +kernel) (by decide +kernel), ⟨by decide +kernel, by decide +kernel⟩, by decide +kernel⟩
theorem mk_X_undo : zMok 80 0 := ⟨zBT_in (by decide +kernel) (by decide +kernel), zBT_in (by decide +kernel) (by decide +kernel), ⟨by decide +kernel, by decide +kernel⟩, by decide +kernel⟩
theorem mk_M_undo : zMok 179 0 := ⟨zBT_in (by decide +kernel) (by decide +kernel), zBT_in (by decide +kernel) (by decide +kernel), ⟨by decide +kernel, by decide +kernel⟩, by decide +kernel⟩
theorem mk_X_tear : zMok 81 0 := ⟨zBT_in (by decide +kernel) (by decide +kernel), zBT_in (by decide +kernel) (by decide +kernel), ⟨by decide +kernel, by decide +kernel⟩, by decide +kernel⟩
theorem mk_M_tear : zMok 180 0 := ⟨zBT_in (by decide +kernel) (by decide +kernel), zBT_in (by decide +kernel) (by decide +kernel), ⟨by decide +kernel, by decide +kernel⟩, by decide +kernel⟩
theorem mk_X_count : zMok 82 1 := ⟨zBT_in (by decide +kernel) (by decide +kernel), zBT_in (by decide +kernel) (by decide +kernel), ⟨by decide +kernel, by decide +kernel⟩, by decide +kernel⟩
theorem mk_M_count : zMok 181 1 := ⟨zBT_in (by decide +kernel) (by decide +kernel), zBT_in (by decide +kernel) (by decide +kernel), ⟨by decide +kernel, by decide +kernel⟩, by decide +kernel⟩
theorem mk_X_status : zMok 83 1 := ⟨zBT_in (by decide +kernel) (by decide +kernel), zBT_in (by decide +kernel) (by decide +kernel), ⟨by decide +kernel, by decide +kernel⟩, by decide +kernel⟩
theorem mk_M_status : zMok 182 1 := ⟨zBT_in (by decide +kernel) (by decide +kernel), zBT_in (by decide +kernel) (by decide +kernel), ⟨by decide +kernel, by decide +kernel⟩, by decide +kernel⟩
