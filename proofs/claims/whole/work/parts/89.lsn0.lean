/-! THE LAW'S TABLES ARE SOUND (by program) -/
set_option maxRecDepth 100000 in
set_option maxHeartbeats 4000000 in
theorem sl_0 (l : Launch) (b n : Nat) (xs : Nat → Int32) : zLl l b n xs (lwt_0 xs n) :=
  zll_c (zl_aln (j := 1) (by decide +kernel) rfl rfl) <|
  zll_c (zl_aln (j := 0) (by decide +kernel) rfl rfl) <|
  zll_c (zl_iln (j := 3) (by decide +kernel) rfl rfl) <|
  zll_c (zl_iconst (n' := 1) (by decide +kernel) rfl rfl) <|
  zll_c (zl_iadd (by decide +kernel) rfl) <|
  zll_c (zl_scr (by decide +kernel) rfl) <|
  zll_c (zl_cv (index := 13) (qc := (RX4, TX4, 7)) (by decide +kernel) rfl mk_X_fire rfl wm_L_13 wq_X_fire ww_X_fire ⟨rfl, rfl⟩ ⟨Nat.le_of_ble_eq_true rfl, Nat.le_of_ble_eq_true rfl⟩) <|
  zll_c (zl_aln (j := 2) (by decide +kernel) rfl rfl) <|
  zll_c (zl_aln (j := 0) (by decide +kernel) rfl rfl) <|
  zll_c (zl_iln (j := 3) (by decide +kernel) rfl rfl) <|
  zll_c (zl_iconst (n' := 1) (by decide +kernel) rfl rfl) <|
  zll_c (zl_iadd (by decide +kernel) rfl) <|
  zll_c (zl_scr (by decide +kernel) rfl) <|
  zll_c (zl_cv (index := 17) (qc := (RX5, TX5, 17)) (by decide +kernel) rfl mk_M_fire rfl wm_L_17 wq_M_fire ww_M_fire ⟨rfl, rfl⟩ ⟨Nat.le_of_ble_eq_true rfl, Nat.le_of_ble_eq_true rfl⟩) <|
  zll_c (zl_ceq (off := 1134) (by decide +kernel) rfl rfl) <|
  zll_c (zl_iconst (n' := 0) (by decide +kernel) rfl rfl) <|
  zll_c (zl_zr (by decide +kernel)) <|
  zll_n
set_option maxRecDepth 100000 in
set_option maxHeartbeats 4000000 in
theorem sl_1 (l : Launch) (b n : Nat) (xs : Nat → Int32) : zLl l b n xs (lwt_1 xs n) :=
  zll_c (zl_aln (j := 1) (by decide +kernel) rfl rfl) <|
  zll_c (zl_aln (j := 0) (by decide +kernel) rfl rfl) <|
  zll_c (zl_iln (j := 3) (by decide +kernel) rfl rfl) <|
  zll_c (zl_iconst (n' := 1) (by decide +kernel) rfl rfl) <|
  zll_c (zl_iadd (by decide +kernel) rfl) <|
  zll_c (zl_scr (by decide +kernel) rfl) <|
  zll_c (zl_cv (index := 18) (qc := (RX4, TX4, 7)) (by decide +kernel) rfl mk_X_now rfl wm_L_18 wq_X_now ww_X_now ⟨rfl, rfl⟩ ⟨Nat.le_of_ble_eq_true rfl, Nat.le_of_ble_eq_true rfl⟩) <|
  zll_c (zl_aln (j := 2) (by decide +kernel) rfl rfl) <|
  zll_c (zl_aln (j := 0) (by decide +kernel) rfl rfl) <|
  zll_c (zl_iln (j := 3) (by decide +kernel) rfl rfl) <|
  zll_c (zl_iconst (n' := 1) (by decide +kernel) rfl rfl) <|
  zll_c (zl_iadd (by decide +kernel) rfl) <|
  zll_c (zl_scr (by decide +kernel) rfl) <|
  zll_c (zl_cv (index := 21) (qc := (RX5, TX5, 17)) (by decide +kernel) rfl mk_M_now rfl wm_L_21 wq_M_now ww_M_now ⟨rfl, rfl⟩ ⟨Nat.le_of_ble_eq_true rfl, Nat.le_of_ble_eq_true rfl⟩) <|
  zll_c (zl_ceq (off := 1111) (by decide +kernel) rfl rfl) <|
  zll_c (zl_iconst (n' := 0) (by decide +kernel) rfl rfl) <|
  zll_c (zl_zr (by decide +kernel)) <|
  zll_n
set_option maxRecDepth 100000 in
set_option maxHeartbeats 4000000 in
theorem sl_2 (l : Launch) (b n : Nat) (xs : Nat → Int32) : zLl l b n xs (lwt_2 xs n) :=
  zll_c (zl_aln (j := 1) (by decide +kernel) rfl rfl) <|
  zll_c (zl_aln (j := 0) (by decide +kernel) rfl rfl) <|
  zll_c (zl_iln (j := 3) (by decide +kernel) rfl rfl) <|
  zll_c (zl_iconst (n' := 1) (by decide +kernel) rfl rfl) <|
  zll_c (zl_iadd (by decide +kernel) rfl) <|
  zll_c (zl_scr (by decide +kernel) rfl) <|
  zll_c (zl_cv (index := 22) (qc := (RX4, TX4, 7)) (by decide +kernel) rfl mk_X_inlaw rfl wm_L_22 wq_X_inlaw ww_X_inlaw ⟨rfl, rfl⟩ ⟨Nat.le_of_ble_eq_true rfl, Nat.le_of_ble_eq_true rfl⟩) <|
  zll_c (zl_aln (j := 2) (by decide +kernel) rfl rfl) <|
  zll_c (zl_aln (j := 0) (by decide +kernel) rfl rfl) <|
  zll_c (zl_iln (j := 3) (by decide +kernel) rfl rfl) <|
  zll_c (zl_iconst (n' := 1) (by decide +kernel) rfl rfl) <|
  zll_c (zl_iadd (by decide +kernel) rfl) <|
  zll_c (zl_scr (by decide +kernel) rfl) <|
  zll_c (zl_cv (index := 25) (qc := (RX5, TX5, 17)) (by decide +kernel) rfl mk_M_inlaw rfl wm_L_25 wq_M_inlaw ww_M_inlaw ⟨rfl, rfl⟩ ⟨Nat.le_of_ble_eq_true rfl, Nat.le_of_ble_eq_true rfl⟩) <|
  zll_c (zl_ceq (off := 1088) (by decide +kernel) rfl rfl) <|
  zll_c (zl_iconst (n' := 0) (by decide +kernel) rfl rfl) <|
  zll_c (zl_zr (by decide +kernel)) <|
  zll_n
set_option maxRecDepth 100000 in
set_option maxHeartbeats 4000000 in
theorem sl_3 (l : Launch) (b n : Nat) (xs : Nat → Int32) : zLl l b n xs (lwt_3 xs n) :=
  zll_c (zl_aln (j := 1) (by decide +kernel) rfl rfl) <|
  zll_c (zl_aln (j := 0) (by decide +kernel) rfl rfl) <|
  zll_c (zl_iln (j := 3) (by decide +kernel) rfl rfl) <|
  zll_c (zl_iconst (n' := 1) (by decide +kernel) rfl rfl) <|
  zll_c (zl_iadd (by decide +kernel) rfl) <|
  zll_c (zl_scr (by decide +kernel) rfl) <|
  zll_c (zl_aln (j := 0) (by decide +kernel) rfl rfl) <|
  zll_c (zl_iln (j := 3) (by decide +kernel) rfl rfl) <|
  zll_c (zl_iconst (n' := 2) (by decide +kernel) rfl rfl) <|
  zll_c (zl_iadd (by decide +kernel) rfl) <|
  zll_c (zl_scr (by decide +kernel) rfl) <|
  zll_c (zl_cv (index := 26) (qc := (RX4, TX4, 7)) (by decide +kernel) rfl mk_X_of rfl wm_L_26 wq_X_of ww_X_of ⟨rfl, rfl⟩ ⟨Nat.le_of_ble_eq_true rfl, Nat.le_of_ble_eq_true rfl⟩) <|
  zll_c (zl_aln (j := 2) (by decide +kernel) rfl rfl) <|
  zll_c (zl_aln (j := 0) (by decide +kernel) rfl rfl) <|
  zll_c (zl_iln (j := 3) (by decide +kernel) rfl rfl) <|
  zll_c (zl_iconst (n' := 1) (by decide +kernel) rfl rfl) <|
  zll_c (zl_iadd (by decide +kernel) rfl) <|
  zll_c (zl_scr (by decide +kernel) rfl) <|
  zll_c (zl_aln (j := 0) (by decide +kernel) rfl rfl) <|
  zll_c (zl_iln (j := 3) (by decide +kernel) rfl rfl) <|
  zll_c (zl_iconst (n' := 2) (by decide +kernel) rfl rfl) <|
  zll_c (zl_iadd (by decide +kernel) rfl) <|
  zll_c (zl_scr (by decide +kernel) rfl) <|
  zll_c (zl_cv (index := 30) (qc := (RX5, TX5, 17)) (by decide +kernel) rfl mk_M_of rfl wm_L_30 wq_M_of ww_M_of ⟨rfl, rfl⟩ ⟨Nat.le_of_ble_eq_true rfl, Nat.le_of_ble_eq_true rfl⟩) <|
  zll_c (zl_ceq (off := 1055) (by decide +kernel) rfl rfl) <|
  zll_c (zl_iconst (n' := 0) (by decide +kernel) rfl rfl) <|
  zll_c (zl_zr (by decide +kernel)) <|
  zll_n
set_option maxRecDepth 100000 in
set_option maxHeartbeats 4000000 in
theorem sl_4 (l : Launch) (b n : Nat) (xs : Nat → Int32) : zLl l b n xs (lwt_4 xs n) :=
  zll_c (zl_aln (j := 1) (by decide +kernel) rfl rfl) <|
  zll_c (zl_aln (j := 0) (by decide +kernel) rfl rfl) <|
  zll_c (zl_iln (j := 3) (by decide +kernel) rfl rfl) <|
  zll_c (zl_iconst (n' := 1) (by decide +kernel) rfl rfl) <|
  zll_c (zl_iadd (by decide +kernel) rfl) <|
  zll_c (zl_scr (by decide +kernel) rfl) <|
  zll_c (zl_aln (j := 0) (by decide +kernel) rfl rfl) <|
  zll_c (zl_iln (j := 3) (by decide +kernel) rfl rfl) <|
  zll_c (zl_iconst (n' := 2) (by decide +kernel) rfl rfl) <|
  zll_c (zl_iadd (by decide +kernel) rfl) <|
  zll_c (zl_scr (by decide +kernel) rfl) <|
  zll_c (zl_aln (j := 0) (by decide +kernel) rfl rfl) <|
  zll_c (zl_iln (j := 3) (by decide +kernel) rfl rfl) <|
  zll_c (zl_iconst (n' := 3) (by decide +kernel) rfl rfl) <|
  zll_c (zl_iadd (by decide +kernel) rfl) <|
  zll_c (zl_scr (by decide +kernel) rfl) <|
  zll_c (zl_cv (index := 31) (qc := (RX4, TX4, 7)) (by decide +kernel) rfl mk_X_with rfl wm_L_31 wq_X_with ww_X_with ⟨rfl, rfl⟩ ⟨Nat.le_of_ble_eq_true rfl, Nat.le_of_ble_eq_true rfl⟩) <|
  zll_c (zl_aln (j := 2) (by decide +kernel) rfl rfl) <|
  zll_c (zl_aln (j := 0) (by decide +kernel) rfl rfl) <|
  zll_c (zl_iln (j := 3) (by decide +kernel) rfl rfl) <|
  zll_c (zl_iconst (n' := 1) (by decide +kernel) rfl rfl) <|
  zll_c (zl_iadd (by decide +kernel) rfl) <|
  zll_c (zl_scr (by decide +kernel) rfl) <|
  zll_c (zl_aln (j := 0) (by decide +kernel) rfl rfl) <|
  zll_c (zl_iln (j := 3) (by decide +kernel) rfl rfl) <|
  zll_c (zl_iconst (n' := 2) (by decide +kernel) rfl rfl) <|
  zll_c (zl_iadd (by decide +kernel) rfl) <|
  zll_c (zl_scr (by decide +kernel) rfl) <|
  zll_c (zl_aln (j := 0) (by decide +kernel) rfl rfl) <|
  zll_c (zl_iln (j := 3) (by decide +kernel) rfl rfl) <|
  zll_c (zl_iconst (n' := 3) (by decide +kernel) rfl rfl) <|
  zll_c (zl_iadd (by decide +kernel) rfl) <|
  zll_c (zl_scr (by decide +kernel) rfl) <|
  zll_c (zl_cv (index := 35) (qc := (RX5, TX5, 17)) (by decide +kernel) rfl mk_M_with rfl wm_L_35 wq_M_with ww_M_with ⟨rfl, rfl⟩ ⟨Nat.le_of_ble_eq_true rfl, Nat.le_of_ble_eq_true rfl⟩) <|
  zll_c (zl_ceq (off := 1012) (by decide +kernel) rfl rfl) <|
  zll_c (zl_iconst (n' := 0) (by decide +kernel) rfl rfl) <|
  zll_c (zl_zr (by decide +kernel)) <|
  zll_n
set_option maxRecDepth 100000 in
set_option maxHeartbeats 4000000 in
theorem sl_5 (l : Launch) (b n : Nat) (xs : Nat → Int32) : zLl l b n xs (lwt_5 xs n) :=
  zll_c (zl_aln (j := 1) (by decide +kernel) rfl rfl) <|
  zll_c (zl_aln (j := 0) (by decide +kernel) rfl rfl) <|
  zll_c (zl_iln (j := 3) (by decide +kernel) rfl rfl) <|
  zll_c (zl_iconst (n' := 1) (by decide +kernel) rfl rfl) <|
  zll_c (zl_iadd (by decide +kernel) rfl) <|
  zll_c (zl_scr (by decide +kernel) rfl) <|
  zll_c (zl_aln (j := 0) (by decide +kernel) rfl rfl) <|
  zll_c (zl_iln (j := 3) (by decide +kernel) rfl rfl) <|
  zll_c (zl_iconst (n' := 2) (by decide +kernel) rfl rfl) <|
  zll_c (zl_iadd (by decide +kernel) rfl) <|
  zll_c (zl_scr (by decide +kernel) rfl) <|
  zll_c (zl_aln (j := 0) (by decide +kernel) rfl rfl) <|
  zll_c (zl_iln (j := 3) (by decide +kernel) rfl rfl) <|
  zll_c (zl_iconst (n' := 3) (by decide +kernel) rfl rfl) <|
  zll_c (zl_iadd (by decide +kernel) rfl) <|
  zll_c (zl_scr (by decide +kernel) rfl) <|
  zll_c (zl_cv (index := 36) (qc := (RX4, TX4, 7)) (by decide +kernel) rfl mk_X_set rfl wm_L_36 wq_X_set ww_X_set ⟨rfl, rfl⟩ ⟨Nat.le_of_ble_eq_true rfl, Nat.le_of_ble_eq_true rfl⟩) <|
  zll_c (zl_aln (j := 2) (by decide +kernel) rfl rfl) <|
  zll_c (zl_aln (j := 0) (by decide +kernel) rfl rfl) <|
  zll_c (zl_iln (j := 3) (by decide +kernel) rfl rfl) <|
  zll_c (zl_iconst (n' := 1) (by decide +kernel) rfl rfl) <|
  zll_c (zl_iadd (by decide +kernel) rfl) <|
  zll_c (zl_scr (by decide +kernel) rfl) <|
  zll_c (zl_aln (j := 0) (by decide +kernel) rfl rfl) <|
  zll_c (zl_iln (j := 3) (by decide +kernel) rfl rfl) <|
  zll_c (zl_iconst (n' := 2) (by decide +kernel) rfl rfl) <|
  zll_c (zl_iadd (by decide +kernel) rfl) <|
  zll_c (zl_scr (by decide +kernel) rfl) <|
  zll_c (zl_aln (j := 0) (by decide +kernel) rfl rfl) <|
  zll_c (zl_iln (j := 3) (by decide +kernel) rfl rfl) <|
  zll_c (zl_iconst (n' := 3) (by decide +kernel) rfl rfl) <|
  zll_c (zl_iadd (by decide +kernel) rfl) <|
  zll_c (zl_scr (by decide +kernel) rfl) <|
  zll_c (zl_cv (index := 39) (qc := (RX5, TX5, 17)) (by decide +kernel) rfl mk_M_set rfl wm_L_39 wq_M_set ww_M_set ⟨rfl, rfl⟩ ⟨Nat.le_of_ble_eq_true rfl, Nat.le_of_ble_eq_true rfl⟩) <|
  zll_c (zl_ceq (off := 969) (by decide +kernel) rfl rfl) <|
  zll_c (zl_iconst (n' := 0) (by decide +kernel) rfl rfl) <|
  zll_c (zl_zr (by decide +kernel)) <|
  zll_n
set_option maxRecDepth 100000 in
set_option maxHeartbeats 4000000 in
theorem sl_6 (l : Launch) (b n : Nat) (xs : Nat → Int32) : zLl l b n xs (lwt_6 xs n) :=
  zll_c (zl_aln (j := 1) (by decide +kernel) rfl rfl) <|
  zll_c (zl_aln (j := 0) (by decide +kernel) rfl rfl) <|
  zll_c (zl_iln (j := 3) (by decide +kernel) rfl rfl) <|
  zll_c (zl_iconst (n' := 1) (by decide +kernel) rfl rfl) <|
  zll_c (zl_iadd (by decide +kernel) rfl) <|
  zll_c (zl_scr (by decide +kernel) rfl) <|
  zll_c (zl_aln (j := 0) (by decide +kernel) rfl rfl) <|
  zll_c (zl_iln (j := 3) (by decide +kernel) rfl rfl) <|
  zll_c (zl_iconst (n' := 2) (by decide +kernel) rfl rfl) <|
  zll_c (zl_iadd (by decide +kernel) rfl) <|
  zll_c (zl_scr (by decide +kernel) rfl) <|
  zll_c (zl_cv (index := 40) (qc := (RX4, TX4, 7)) (by decide +kernel) rfl mk_X_turn rfl wm_L_40 wq_X_turn ww_X_turn ⟨rfl, rfl⟩ ⟨Nat.le_of_ble_eq_true rfl, Nat.le_of_ble_eq_true rfl⟩) <|
  zll_c (zl_aln (j := 2) (by decide +kernel) rfl rfl) <|
  zll_c (zl_aln (j := 0) (by decide +kernel) rfl rfl) <|
  zll_c (zl_iln (j := 3) (by decide +kernel) rfl rfl) <|
  zll_c (zl_iconst (n' := 1) (by decide +kernel) rfl rfl) <|
  zll_c (zl_iadd (by decide +kernel) rfl) <|
  zll_c (zl_scr (by decide +kernel) rfl) <|
  zll_c (zl_aln (j := 0) (by decide +kernel) rfl rfl) <|
  zll_c (zl_iln (j := 3) (by decide +kernel) rfl rfl) <|
  zll_c (zl_iconst (n' := 2) (by decide +kernel) rfl rfl) <|
  zll_c (zl_iadd (by decide +kernel) rfl) <|
  zll_c (zl_scr (by decide +kernel) rfl) <|
  zll_c (zl_cv (index := 43) (qc := (RX5, TX5, 17)) (by decide +kernel) rfl mk_M_turn rfl wm_L_43 wq_M_turn ww_M_turn ⟨rfl, rfl⟩ ⟨Nat.le_of_ble_eq_true rfl, Nat.le_of_ble_eq_true rfl⟩) <|
  zll_c (zl_ceq (off := 936) (by decide +kernel) rfl rfl) <|
  zll_c (zl_iconst (n' := 0) (by decide +kernel) rfl rfl) <|
  zll_c (zl_zr (by decide +kernel)) <|
  zll_n
set_option maxRecDepth 100000 in
set_option maxHeartbeats 4000000 in
theorem sl_7 (l : Launch) (b n : Nat) (xs : Nat → Int32) : zLl l b n xs (lwt_7 xs n) :=
  zll_c (zl_aln (j := 1) (by decide +kernel) rfl rfl) <|
  zll_c (zl_aln (j := 0) (by decide +kernel) rfl rfl) <|
  zll_c (zl_iln (j := 3) (by decide +kernel) rfl rfl) <|
  zll_c (zl_iconst (n' := 1) (by decide +kernel) rfl rfl) <|
  zll_c (zl_iadd (by decide +kernel) rfl) <|
  zll_c (zl_scr (by decide +kernel) rfl) <|
  zll_c (zl_aln (j := 0) (by decide +kernel) rfl rfl) <|
  zll_c (zl_iln (j := 3) (by decide +kernel) rfl rfl) <|
  zll_c (zl_iconst (n' := 2) (by decide +kernel) rfl rfl) <|
  zll_c (zl_iadd (by decide +kernel) rfl) <|
  zll_c (zl_scr (by decide +kernel) rfl) <|
  zll_c (zl_cv (index := 44) (qc := (RX4, TX4, 7)) (by decide +kernel) rfl mk_X_as rfl wm_L_44 wq_X_as ww_X_as ⟨rfl, rfl⟩ ⟨Nat.le_of_ble_eq_true rfl, Nat.le_of_ble_eq_true rfl⟩) <|
  zll_c (zl_aln (j := 2) (by decide +kernel) rfl rfl) <|
  zll_c (zl_aln (j := 0) (by decide +kernel) rfl rfl) <|
  zll_c (zl_iln (j := 3) (by decide +kernel) rfl rfl) <|
  zll_c (zl_iconst (n' := 1) (by decide +kernel) rfl rfl) <|
  zll_c (zl_iadd (by decide +kernel) rfl) <|
  zll_c (zl_scr (by decide +kernel) rfl) <|
  zll_c (zl_aln (j := 0) (by decide +kernel) rfl rfl) <|
  zll_c (zl_iln (j := 3) (by decide +kernel) rfl rfl) <|
  zll_c (zl_iconst (n' := 2) (by decide +kernel) rfl rfl) <|
  zll_c (zl_iadd (by decide +kernel) rfl) <|
  zll_c (zl_scr (by decide +kernel) rfl) <|
  zll_c (zl_cv (index := 47) (qc := (RX5, TX5, 17)) (by decide +kernel) rfl mk_M_as rfl wm_L_47 wq_M_as ww_M_as ⟨rfl, rfl⟩ ⟨Nat.le_of_ble_eq_true rfl, Nat.le_of_ble_eq_true rfl⟩) <|
  zll_c (zl_ceq (off := 903) (by decide +kernel) rfl rfl) <|
  zll_c (zl_iconst (n' := 0) (by decide +kernel) rfl rfl) <|
  zll_c (zl_zr (by decide +kernel)) <|
  zll_n
set_option maxRecDepth 100000 in
set_option maxHeartbeats 4000000 in
theorem sl_8 (l : Launch) (b n : Nat) (xs : Nat → Int32) : zLl l b n xs (lwt_8 xs n) :=
  zll_c (zl_aln (j := 1) (by decide +kernel) rfl rfl) <|
  zll_c (zl_aln (j := 0) (by decide +kernel) rfl rfl) <|
  zll_c (zl_iln (j := 3) (by decide +kernel) rfl rfl) <|
  zll_c (zl_iconst (n' := 1) (by decide +kernel) rfl rfl) <|
  zll_c (zl_iadd (by decide +kernel) rfl) <|
  zll_c (zl_scr (by decide +kernel) rfl) <|
  zll_c (zl_cv (index := 48) (qc := (RX4, TX4, 7)) (by decide +kernel) rfl mk_X_couple rfl wm_L_48 wq_X_couple ww_X_couple ⟨rfl, rfl⟩ ⟨Nat.le_of_ble_eq_true rfl, Nat.le_of_ble_eq_true rfl⟩) <|
  zll_c (zl_aln (j := 2) (by decide +kernel) rfl rfl) <|
  zll_c (zl_aln (j := 0) (by decide +kernel) rfl rfl) <|
  zll_c (zl_iln (j := 3) (by decide +kernel) rfl rfl) <|
  zll_c (zl_iconst (n' := 1) (by decide +kernel) rfl rfl) <|
  zll_c (zl_iadd (by decide +kernel) rfl) <|
  zll_c (zl_scr (by decide +kernel) rfl) <|
  zll_c (zl_cv (index := 51) (qc := (RX5, TX5, 17)) (by decide +kernel) rfl mk_M_couple rfl wm_L_51 wq_M_couple ww_M_couple ⟨rfl, rfl⟩ ⟨Nat.le_of_ble_eq_true rfl, Nat.le_of_ble_eq_true rfl⟩) <|
  zll_c (zl_ceq (off := 880) (by decide +kernel) rfl rfl) <|
  zll_c (zl_iconst (n' := 0) (by decide +kernel) rfl rfl) <|
  zll_c (zl_zr (by decide +kernel)) <|
  zll_n
set_option maxRecDepth 100000 in
set_option maxHeartbeats 4000000 in
theorem sl_9 (l : Launch) (b n : Nat) (xs : Nat → Int32) : zLl l b n xs (lwt_9 xs n) :=
  zll_c (zl_aln (j := 1) (by decide +kernel) rfl rfl) <|
  zll_c (zl_aln (j := 0) (by decide +kernel) rfl rfl) <|
  zll_c (zl_iln (j := 3) (by decide +kernel) rfl rfl) <|
  zll_c (zl_iconst (n' := 1) (by decide +kernel) rfl rfl) <|
  zll_c (zl_iadd (by decide +kernel) rfl) <|
  zll_c (zl_scr (by decide +kernel) rfl) <|
  zll_c (zl_aln (j := 0) (by decide +kernel) rfl rfl) <|
  zll_c (zl_iln (j := 3) (by decide +kernel) rfl rfl) <|
  zll_c (zl_iconst (n' := 2) (by decide +kernel) rfl rfl) <|
  zll_c (zl_iadd (by decide +kernel) rfl) <|
  zll_c (zl_scr (by decide +kernel) rfl) <|
  zll_c (zl_cv (index := 52) (qc := (RX4, TX4, 7)) (by decide +kernel) rfl mk_X_coupleOf rfl wm_L_52 wq_X_coupleOf ww_X_coupleOf ⟨rfl, rfl⟩ ⟨Nat.le_of_ble_eq_true rfl, Nat.le_of_ble_eq_true rfl⟩) <|
  zll_c (zl_aln (j := 2) (by decide +kernel) rfl rfl) <|
  zll_c (zl_aln (j := 0) (by decide +kernel) rfl rfl) <|
  zll_c (zl_iln (j := 3) (by decide +kernel) rfl rfl) <|
  zll_c (zl_iconst (n' := 1) (by decide +kernel) rfl rfl) <|
  zll_c (zl_iadd (by decide +kernel) rfl) <|
  zll_c (zl_scr (by decide +kernel) rfl) <|
  zll_c (zl_aln (j := 0) (by decide +kernel) rfl rfl) <|
  zll_c (zl_iln (j := 3) (by decide +kernel) rfl rfl) <|
  zll_c (zl_iconst (n' := 2) (by decide +kernel) rfl rfl) <|
  zll_c (zl_iadd (by decide +kernel) rfl) <|
  zll_c (zl_scr (by decide +kernel) rfl) <|
  zll_c (zl_cv (index := 55) (qc := (RX5, TX5, 17)) (by decide +kernel) rfl mk_M_coupleOf rfl wm_L_55 wq_M_coupleOf ww_M_coupleOf ⟨rfl, rfl⟩ ⟨Nat.le_of_ble_eq_true rfl, Nat.le_of_ble_eq_true rfl⟩) <|
  zll_c (zl_ceq (off := 847) (by decide +kernel) rfl rfl) <|
  zll_c (zl_iconst (n' := 0) (by decide +kernel) rfl rfl) <|
  zll_c (zl_zr (by decide +kernel)) <|
  zll_n
