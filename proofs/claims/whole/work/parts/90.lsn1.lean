/-! THE LAW'S TABLES ARE SOUND (by program) -/
set_option maxRecDepth 100000 in
set_option maxHeartbeats 4000000 in
theorem sl_10 (l : Launch) (b n : Nat) (xs : Nat → Int32) : zLl l b n xs (lwt_10 xs n) :=
  zll_c (zl_aln (j := 1) (by decide +kernel) rfl rfl) <|
  zll_c (zl_aln (j := 0) (by decide +kernel) rfl rfl) <|
  zll_c (zl_iln (j := 3) (by decide +kernel) rfl rfl) <|
  zll_c (zl_iconst (n' := 1) (by decide +kernel) rfl rfl) <|
  zll_c (zl_iadd (by decide +kernel) rfl) <|
  zll_c (zl_scr (by decide +kernel) rfl) <|
  zll_c (zl_aln (j := 0) (by decide +kernel) rfl rfl) <|
  zll_c (zl_iln (j := 3) (by decide +kernel) rfl rfl) <|
  zll_c (zl_iconst (n' := 2) (by decide +kernel) rfl rfl) <|
  zll_c (zl_iadd (by decide +kernel) rfl) <|
  zll_c (zl_scr (by decide +kernel) rfl) <|
  zll_c (zl_aln (j := 0) (by decide +kernel) rfl rfl) <|
  zll_c (zl_iln (j := 3) (by decide +kernel) rfl rfl) <|
  zll_c (zl_iconst (n' := 3) (by decide +kernel) rfl rfl) <|
  zll_c (zl_iadd (by decide +kernel) rfl) <|
  zll_c (zl_scr (by decide +kernel) rfl) <|
  zll_c (zl_cv (index := 56) (qc := (RX4, TX4, 7)) (by decide +kernel) rfl mk_X_give rfl wm_L_56 wq_X_give ww_X_give ⟨rfl, rfl⟩ ⟨Nat.le_of_ble_eq_true rfl, Nat.le_of_ble_eq_true rfl⟩) <|
  zll_c (zl_aln (j := 2) (by decide +kernel) rfl rfl) <|
  zll_c (zl_aln (j := 0) (by decide +kernel) rfl rfl) <|
  zll_c (zl_iln (j := 3) (by decide +kernel) rfl rfl) <|
  zll_c (zl_iconst (n' := 1) (by decide +kernel) rfl rfl) <|
  zll_c (zl_iadd (by decide +kernel) rfl) <|
  zll_c (zl_scr (by decide +kernel) rfl) <|
  zll_c (zl_aln (j := 0) (by decide +kernel) rfl rfl) <|
  zll_c (zl_iln (j := 3) (by decide +kernel) rfl rfl) <|
  zll_c (zl_iconst (n' := 2) (by decide +kernel) rfl rfl) <|
  zll_c (zl_iadd (by decide +kernel) rfl) <|
  zll_c (zl_scr (by decide +kernel) rfl) <|
  zll_c (zl_aln (j := 0) (by decide +kernel) rfl rfl) <|
  zll_c (zl_iln (j := 3) (by decide +kernel) rfl rfl) <|
  zll_c (zl_iconst (n' := 3) (by decide +kernel) rfl rfl) <|
  zll_c (zl_iadd (by decide +kernel) rfl) <|
  zll_c (zl_scr (by decide +kernel) rfl) <|
  zll_c (zl_cv (index := 59) (qc := (RX5, TX5, 17)) (by decide +kernel) rfl mk_M_give rfl wm_L_59 wq_M_give ww_M_give ⟨rfl, rfl⟩ ⟨Nat.le_of_ble_eq_true rfl, Nat.le_of_ble_eq_true rfl⟩) <|
  zll_c (zl_ceq (off := 804) (by decide +kernel) rfl rfl) <|
  zll_c (zl_iconst (n' := 0) (by decide +kernel) rfl rfl) <|
  zll_c (zl_zr (by decide +kernel)) <|
  zll_n
set_option maxRecDepth 100000 in
set_option maxHeartbeats 4000000 in
theorem sl_11 (l : Launch) (b n : Nat) (xs : Nat → Int32) : zLl l b n xs (lwt_11 xs n) :=
  zll_c (zl_aln (j := 1) (by decide +kernel) rfl rfl) <|
  zll_c (zl_aln (j := 0) (by decide +kernel) rfl rfl) <|
  zll_c (zl_iln (j := 3) (by decide +kernel) rfl rfl) <|
  zll_c (zl_iconst (n' := 1) (by decide +kernel) rfl rfl) <|
  zll_c (zl_iadd (by decide +kernel) rfl) <|
  zll_c (zl_scr (by decide +kernel) rfl) <|
  zll_c (zl_cv (index := 60) (qc := (RX4, TX4, 7)) (by decide +kernel) rfl mk_X_sundays rfl wm_L_60 wq_X_sundays ww_X_sundays ⟨rfl, rfl⟩ ⟨Nat.le_of_ble_eq_true rfl, Nat.le_of_ble_eq_true rfl⟩) <|
  zll_c (zl_aln (j := 2) (by decide +kernel) rfl rfl) <|
  zll_c (zl_aln (j := 0) (by decide +kernel) rfl rfl) <|
  zll_c (zl_iln (j := 3) (by decide +kernel) rfl rfl) <|
  zll_c (zl_iconst (n' := 1) (by decide +kernel) rfl rfl) <|
  zll_c (zl_iadd (by decide +kernel) rfl) <|
  zll_c (zl_scr (by decide +kernel) rfl) <|
  zll_c (zl_cv (index := 63) (qc := (RX5, TX5, 17)) (by decide +kernel) rfl mk_M_sundays rfl wm_L_63 wq_M_sundays ww_M_sundays ⟨rfl, rfl⟩ ⟨Nat.le_of_ble_eq_true rfl, Nat.le_of_ble_eq_true rfl⟩) <|
  zll_c (zl_ceq (off := 781) (by decide +kernel) rfl rfl) <|
  zll_c (zl_iconst (n' := 0) (by decide +kernel) rfl rfl) <|
  zll_c (zl_zr (by decide +kernel)) <|
  zll_n
set_option maxRecDepth 100000 in
set_option maxHeartbeats 4000000 in
theorem sl_12 (l : Launch) (b n : Nat) (xs : Nat → Int32) : zLl l b n xs (lwt_12 xs n) :=
  zll_c (zl_aln (j := 1) (by decide +kernel) rfl rfl) <|
  zll_c (zl_aln (j := 0) (by decide +kernel) rfl rfl) <|
  zll_c (zl_iln (j := 3) (by decide +kernel) rfl rfl) <|
  zll_c (zl_iconst (n' := 1) (by decide +kernel) rfl rfl) <|
  zll_c (zl_iadd (by decide +kernel) rfl) <|
  zll_c (zl_scr (by decide +kernel) rfl) <|
  zll_c (zl_aln (j := 0) (by decide +kernel) rfl rfl) <|
  zll_c (zl_iln (j := 3) (by decide +kernel) rfl rfl) <|
  zll_c (zl_iconst (n' := 2) (by decide +kernel) rfl rfl) <|
  zll_c (zl_iadd (by decide +kernel) rfl) <|
  zll_c (zl_scr (by decide +kernel) rfl) <|
  zll_c (zl_aln (j := 0) (by decide +kernel) rfl rfl) <|
  zll_c (zl_iln (j := 3) (by decide +kernel) rfl rfl) <|
  zll_c (zl_iconst (n' := 3) (by decide +kernel) rfl rfl) <|
  zll_c (zl_iadd (by decide +kernel) rfl) <|
  zll_c (zl_scr (by decide +kernel) rfl) <|
  zll_c (zl_cv (index := 64) (qc := (RX4, TX4, 7)) (by decide +kernel) rfl mk_X_on rfl wm_L_64 wq_X_on ww_X_on ⟨rfl, rfl⟩ ⟨Nat.le_of_ble_eq_true rfl, Nat.le_of_ble_eq_true rfl⟩) <|
  zll_c (zl_aln (j := 2) (by decide +kernel) rfl rfl) <|
  zll_c (zl_aln (j := 0) (by decide +kernel) rfl rfl) <|
  zll_c (zl_iln (j := 3) (by decide +kernel) rfl rfl) <|
  zll_c (zl_iconst (n' := 1) (by decide +kernel) rfl rfl) <|
  zll_c (zl_iadd (by decide +kernel) rfl) <|
  zll_c (zl_scr (by decide +kernel) rfl) <|
  zll_c (zl_aln (j := 0) (by decide +kernel) rfl rfl) <|
  zll_c (zl_iln (j := 3) (by decide +kernel) rfl rfl) <|
  zll_c (zl_iconst (n' := 2) (by decide +kernel) rfl rfl) <|
  zll_c (zl_iadd (by decide +kernel) rfl) <|
  zll_c (zl_scr (by decide +kernel) rfl) <|
  zll_c (zl_aln (j := 0) (by decide +kernel) rfl rfl) <|
  zll_c (zl_iln (j := 3) (by decide +kernel) rfl rfl) <|
  zll_c (zl_iconst (n' := 3) (by decide +kernel) rfl rfl) <|
  zll_c (zl_iadd (by decide +kernel) rfl) <|
  zll_c (zl_scr (by decide +kernel) rfl) <|
  zll_c (zl_cv (index := 67) (qc := (RX5, TX5, 17)) (by decide +kernel) rfl mk_M_on rfl wm_L_67 wq_M_on ww_M_on ⟨rfl, rfl⟩ ⟨Nat.le_of_ble_eq_true rfl, Nat.le_of_ble_eq_true rfl⟩) <|
  zll_c (zl_ceq (off := 738) (by decide +kernel) rfl rfl) <|
  zll_c (zl_iconst (n' := 0) (by decide +kernel) rfl rfl) <|
  zll_c (zl_zr (by decide +kernel)) <|
  zll_n
set_option maxRecDepth 100000 in
set_option maxHeartbeats 4000000 in
theorem sl_13 (l : Launch) (b n : Nat) (xs : Nat → Int32) : zLl l b n xs (lwt_13 xs n) :=
  zll_c (zl_aln (j := 1) (by decide +kernel) rfl rfl) <|
  zll_c (zl_aln (j := 0) (by decide +kernel) rfl rfl) <|
  zll_c (zl_iln (j := 3) (by decide +kernel) rfl rfl) <|
  zll_c (zl_iconst (n' := 1) (by decide +kernel) rfl rfl) <|
  zll_c (zl_iadd (by decide +kernel) rfl) <|
  zll_c (zl_scr (by decide +kernel) rfl) <|
  zll_c (zl_aln (j := 0) (by decide +kernel) rfl rfl) <|
  zll_c (zl_iln (j := 3) (by decide +kernel) rfl rfl) <|
  zll_c (zl_iconst (n' := 2) (by decide +kernel) rfl rfl) <|
  zll_c (zl_iadd (by decide +kernel) rfl) <|
  zll_c (zl_scr (by decide +kernel) rfl) <|
  zll_c (zl_aln (j := 0) (by decide +kernel) rfl rfl) <|
  zll_c (zl_iln (j := 3) (by decide +kernel) rfl rfl) <|
  zll_c (zl_iconst (n' := 3) (by decide +kernel) rfl rfl) <|
  zll_c (zl_iadd (by decide +kernel) rfl) <|
  zll_c (zl_scr (by decide +kernel) rfl) <|
  zll_c (zl_cv (index := 68) (qc := (RX4, TX4, 7)) (by decide +kernel) rfl mk_X_then rfl wm_L_68 wq_X_then ww_X_then ⟨rfl, rfl⟩ ⟨Nat.le_of_ble_eq_true rfl, Nat.le_of_ble_eq_true rfl⟩) <|
  zll_c (zl_aln (j := 2) (by decide +kernel) rfl rfl) <|
  zll_c (zl_aln (j := 0) (by decide +kernel) rfl rfl) <|
  zll_c (zl_iln (j := 3) (by decide +kernel) rfl rfl) <|
  zll_c (zl_iconst (n' := 1) (by decide +kernel) rfl rfl) <|
  zll_c (zl_iadd (by decide +kernel) rfl) <|
  zll_c (zl_scr (by decide +kernel) rfl) <|
  zll_c (zl_aln (j := 0) (by decide +kernel) rfl rfl) <|
  zll_c (zl_iln (j := 3) (by decide +kernel) rfl rfl) <|
  zll_c (zl_iconst (n' := 2) (by decide +kernel) rfl rfl) <|
  zll_c (zl_iadd (by decide +kernel) rfl) <|
  zll_c (zl_scr (by decide +kernel) rfl) <|
  zll_c (zl_aln (j := 0) (by decide +kernel) rfl rfl) <|
  zll_c (zl_iln (j := 3) (by decide +kernel) rfl rfl) <|
  zll_c (zl_iconst (n' := 3) (by decide +kernel) rfl rfl) <|
  zll_c (zl_iadd (by decide +kernel) rfl) <|
  zll_c (zl_scr (by decide +kernel) rfl) <|
  zll_c (zl_cv (index := 71) (qc := (RX5, TX5, 17)) (by decide +kernel) rfl mk_M_then rfl wm_L_71 wq_M_then ww_M_then ⟨rfl, rfl⟩ ⟨Nat.le_of_ble_eq_true rfl, Nat.le_of_ble_eq_true rfl⟩) <|
  zll_c (zl_ceq (off := 695) (by decide +kernel) rfl rfl) <|
  zll_c (zl_iconst (n' := 0) (by decide +kernel) rfl rfl) <|
  zll_c (zl_zr (by decide +kernel)) <|
  zll_n
set_option maxRecDepth 100000 in
set_option maxHeartbeats 4000000 in
theorem sl_14 (l : Launch) (b n : Nat) (xs : Nat → Int32) : zLl l b n xs (lwt_14 xs n) :=
  zll_c (zl_aln (j := 1) (by decide +kernel) rfl rfl) <|
  zll_c (zl_aln (j := 0) (by decide +kernel) rfl rfl) <|
  zll_c (zl_iln (j := 3) (by decide +kernel) rfl rfl) <|
  zll_c (zl_iconst (n' := 1) (by decide +kernel) rfl rfl) <|
  zll_c (zl_iadd (by decide +kernel) rfl) <|
  zll_c (zl_scr (by decide +kernel) rfl) <|
  zll_c (zl_aln (j := 0) (by decide +kernel) rfl rfl) <|
  zll_c (zl_iln (j := 3) (by decide +kernel) rfl rfl) <|
  zll_c (zl_iconst (n' := 2) (by decide +kernel) rfl rfl) <|
  zll_c (zl_iadd (by decide +kernel) rfl) <|
  zll_c (zl_scr (by decide +kernel) rfl) <|
  zll_c (zl_cv (index := 72) (qc := (RX4, TX4, 7)) (by decide +kernel) rfl mk_X_meets rfl wm_L_72 wq_X_meets ww_X_meets ⟨rfl, rfl⟩ ⟨Nat.le_of_ble_eq_true rfl, Nat.le_of_ble_eq_true rfl⟩) <|
  zll_c (zl_aln (j := 2) (by decide +kernel) rfl rfl) <|
  zll_c (zl_aln (j := 0) (by decide +kernel) rfl rfl) <|
  zll_c (zl_iln (j := 3) (by decide +kernel) rfl rfl) <|
  zll_c (zl_iconst (n' := 1) (by decide +kernel) rfl rfl) <|
  zll_c (zl_iadd (by decide +kernel) rfl) <|
  zll_c (zl_scr (by decide +kernel) rfl) <|
  zll_c (zl_aln (j := 0) (by decide +kernel) rfl rfl) <|
  zll_c (zl_iln (j := 3) (by decide +kernel) rfl rfl) <|
  zll_c (zl_iconst (n' := 2) (by decide +kernel) rfl rfl) <|
  zll_c (zl_iadd (by decide +kernel) rfl) <|
  zll_c (zl_scr (by decide +kernel) rfl) <|
  zll_c (zl_cv (index := 75) (qc := (RX5, TX5, 17)) (by decide +kernel) rfl mk_M_meets rfl wm_L_75 wq_M_meets ww_M_meets ⟨rfl, rfl⟩ ⟨Nat.le_of_ble_eq_true rfl, Nat.le_of_ble_eq_true rfl⟩) <|
  zll_c (zl_ceq (off := 662) (by decide +kernel) rfl rfl) <|
  zll_c (zl_iconst (n' := 0) (by decide +kernel) rfl rfl) <|
  zll_c (zl_zr (by decide +kernel)) <|
  zll_n
set_option maxRecDepth 100000 in
set_option maxHeartbeats 4000000 in
theorem sl_15 (l : Launch) (b n : Nat) (xs : Nat → Int32) : zLl l b n xs (lwt_15 xs n) :=
  zll_c (zl_aln (j := 1) (by decide +kernel) rfl rfl) <|
  zll_c (zl_aln (j := 0) (by decide +kernel) rfl rfl) <|
  zll_c (zl_iln (j := 3) (by decide +kernel) rfl rfl) <|
  zll_c (zl_iconst (n' := 1) (by decide +kernel) rfl rfl) <|
  zll_c (zl_iadd (by decide +kernel) rfl) <|
  zll_c (zl_scr (by decide +kernel) rfl) <|
  zll_c (zl_aln (j := 0) (by decide +kernel) rfl rfl) <|
  zll_c (zl_iln (j := 3) (by decide +kernel) rfl rfl) <|
  zll_c (zl_iconst (n' := 2) (by decide +kernel) rfl rfl) <|
  zll_c (zl_iadd (by decide +kernel) rfl) <|
  zll_c (zl_scr (by decide +kernel) rfl) <|
  zll_c (zl_cv (index := 76) (qc := (RX4, TX4, 7)) (by decide +kernel) rfl mk_X_well rfl wm_L_76 wq_X_well ww_X_well ⟨rfl, rfl⟩ ⟨Nat.le_of_ble_eq_true rfl, Nat.le_of_ble_eq_true rfl⟩) <|
  zll_c (zl_aln (j := 2) (by decide +kernel) rfl rfl) <|
  zll_c (zl_aln (j := 0) (by decide +kernel) rfl rfl) <|
  zll_c (zl_iln (j := 3) (by decide +kernel) rfl rfl) <|
  zll_c (zl_iconst (n' := 1) (by decide +kernel) rfl rfl) <|
  zll_c (zl_iadd (by decide +kernel) rfl) <|
  zll_c (zl_scr (by decide +kernel) rfl) <|
  zll_c (zl_aln (j := 0) (by decide +kernel) rfl rfl) <|
  zll_c (zl_iln (j := 3) (by decide +kernel) rfl rfl) <|
  zll_c (zl_iconst (n' := 2) (by decide +kernel) rfl rfl) <|
  zll_c (zl_iadd (by decide +kernel) rfl) <|
  zll_c (zl_scr (by decide +kernel) rfl) <|
  zll_c (zl_cv (index := 79) (qc := (RX5, TX5, 17)) (by decide +kernel) rfl mk_M_well rfl wm_L_79 wq_M_well ww_M_well ⟨rfl, rfl⟩ ⟨Nat.le_of_ble_eq_true rfl, Nat.le_of_ble_eq_true rfl⟩) <|
  zll_c (zl_ceq (off := 629) (by decide +kernel) rfl rfl) <|
  zll_c (zl_iconst (n' := 0) (by decide +kernel) rfl rfl) <|
  zll_c (zl_zr (by decide +kernel)) <|
  zll_n
set_option maxRecDepth 100000 in
set_option maxHeartbeats 4000000 in
theorem sl_16 (l : Launch) (b n : Nat) (xs : Nat → Int32) : zLl l b n xs (lwt_16 xs n) :=
  zll_c (zl_aln (j := 1) (by decide +kernel) rfl rfl) <|
  zll_c (zl_aln (j := 0) (by decide +kernel) rfl rfl) <|
  zll_c (zl_iln (j := 3) (by decide +kernel) rfl rfl) <|
  zll_c (zl_iconst (n' := 1) (by decide +kernel) rfl rfl) <|
  zll_c (zl_iadd (by decide +kernel) rfl) <|
  zll_c (zl_scr (by decide +kernel) rfl) <|
  zll_c (zl_cv (index := 80) (qc := (RX4, TX4, 7)) (by decide +kernel) rfl mk_X_cold rfl wm_L_80 wq_X_cold ww_X_cold ⟨rfl, rfl⟩ ⟨Nat.le_of_ble_eq_true rfl, Nat.le_of_ble_eq_true rfl⟩) <|
  zll_c (zl_aln (j := 2) (by decide +kernel) rfl rfl) <|
  zll_c (zl_aln (j := 0) (by decide +kernel) rfl rfl) <|
  zll_c (zl_iln (j := 3) (by decide +kernel) rfl rfl) <|
  zll_c (zl_iconst (n' := 1) (by decide +kernel) rfl rfl) <|
  zll_c (zl_iadd (by decide +kernel) rfl) <|
  zll_c (zl_scr (by decide +kernel) rfl) <|
  zll_c (zl_cv (index := 83) (qc := (RX5, TX5, 17)) (by decide +kernel) rfl mk_M_cold rfl wm_L_83 wq_M_cold ww_M_cold ⟨rfl, rfl⟩ ⟨Nat.le_of_ble_eq_true rfl, Nat.le_of_ble_eq_true rfl⟩) <|
  zll_c (zl_ceq (off := 606) (by decide +kernel) rfl rfl) <|
  zll_c (zl_iconst (n' := 0) (by decide +kernel) rfl rfl) <|
  zll_c (zl_zr (by decide +kernel)) <|
  zll_n
set_option maxRecDepth 100000 in
set_option maxHeartbeats 4000000 in
theorem sl_17 (l : Launch) (b n : Nat) (xs : Nat → Int32) : zLl l b n xs (lwt_17 xs n) :=
  zll_c (zl_aln (j := 1) (by decide +kernel) rfl rfl) <|
  zll_c (zl_aln (j := 0) (by decide +kernel) rfl rfl) <|
  zll_c (zl_iln (j := 3) (by decide +kernel) rfl rfl) <|
  zll_c (zl_iconst (n' := 1) (by decide +kernel) rfl rfl) <|
  zll_c (zl_iadd (by decide +kernel) rfl) <|
  zll_c (zl_scr (by decide +kernel) rfl) <|
  zll_c (zl_aln (j := 0) (by decide +kernel) rfl rfl) <|
  zll_c (zl_iln (j := 3) (by decide +kernel) rfl rfl) <|
  zll_c (zl_iconst (n' := 2) (by decide +kernel) rfl rfl) <|
  zll_c (zl_iadd (by decide +kernel) rfl) <|
  zll_c (zl_scr (by decide +kernel) rfl) <|
  zll_c (zl_cv (index := 84) (qc := (RX4, TX4, 7)) (by decide +kernel) rfl mk_X_kind rfl wm_L_84 wq_X_kind ww_X_kind ⟨rfl, rfl⟩ ⟨Nat.le_of_ble_eq_true rfl, Nat.le_of_ble_eq_true rfl⟩) <|
  zll_c (zl_aln (j := 2) (by decide +kernel) rfl rfl) <|
  zll_c (zl_aln (j := 0) (by decide +kernel) rfl rfl) <|
  zll_c (zl_iln (j := 3) (by decide +kernel) rfl rfl) <|
  zll_c (zl_iconst (n' := 1) (by decide +kernel) rfl rfl) <|
  zll_c (zl_iadd (by decide +kernel) rfl) <|
  zll_c (zl_scr (by decide +kernel) rfl) <|
  zll_c (zl_aln (j := 0) (by decide +kernel) rfl rfl) <|
  zll_c (zl_iln (j := 3) (by decide +kernel) rfl rfl) <|
  zll_c (zl_iconst (n' := 2) (by decide +kernel) rfl rfl) <|
  zll_c (zl_iadd (by decide +kernel) rfl) <|
  zll_c (zl_scr (by decide +kernel) rfl) <|
  zll_c (zl_cv (index := 87) (qc := (RX5, TX5, 17)) (by decide +kernel) rfl mk_M_kind rfl wm_L_87 wq_M_kind ww_M_kind ⟨rfl, rfl⟩ ⟨Nat.le_of_ble_eq_true rfl, Nat.le_of_ble_eq_true rfl⟩) <|
  zll_c (zl_ceq (off := 573) (by decide +kernel) rfl rfl) <|
  zll_c (zl_iconst (n' := 0) (by decide +kernel) rfl rfl) <|
  zll_c (zl_zr (by decide +kernel)) <|
  zll_n
