/-! THE LAW'S TABLES ARE SOUND (by program) -/
set_option maxRecDepth 100000 in
set_option maxHeartbeats 4000000 in
theorem sl_28 (l : Launch) (b n : Nat) (xs : Nat → Int32) : zLl l b n xs (lwt_28 xs n) :=
  zll_c (zl_aln (j := 1) (by decide +kernel) rfl rfl) <|
  zll_c (zl_aln (j := 0) (by decide +kernel) rfl rfl) <|
  zll_c (zl_iln (j := 3) (by decide +kernel) rfl rfl) <|
  zll_c (zl_iconst (n' := 1) (by decide +kernel) rfl rfl) <|
  zll_c (zl_iadd (by decide +kernel) rfl) <|
  zll_c (zl_scr (by decide +kernel) rfl) <|
  zll_c (zl_aln (j := 0) (by decide +kernel) rfl rfl) <|
  zll_c (zl_iln (j := 3) (by decide +kernel) rfl rfl) <|
  zll_c (zl_iconst (n' := 2) (by decide +kernel) rfl rfl) <|
  zll_c (zl_iadd (by decide +kernel) rfl) <|
  zll_c (zl_scr (by decide +kernel) rfl) <|
  zll_c (zl_aln (j := 0) (by decide +kernel) rfl rfl) <|
  zll_c (zl_iln (j := 3) (by decide +kernel) rfl rfl) <|
  zll_c (zl_iconst (n' := 3) (by decide +kernel) rfl rfl) <|
  zll_c (zl_iadd (by decide +kernel) rfl) <|
  zll_c (zl_scr (by decide +kernel) rfl) <|
  zll_c (zl_aln (j := 0) (by decide +kernel) rfl rfl) <|
  zll_c (zl_iln (j := 3) (by decide +kernel) rfl rfl) <|
  zll_c (zl_iconst (n' := 4) (by decide +kernel) rfl rfl) <|
  zll_c (zl_iadd (by decide +kernel) rfl) <|
  zll_c (zl_scr (by decide +kernel) rfl) <|
  zll_c (zl_aln (j := 0) (by decide +kernel) rfl rfl) <|
  zll_c (zl_iln (j := 3) (by decide +kernel) rfl rfl) <|
  zll_c (zl_iconst (n' := 5) (by decide +kernel) rfl rfl) <|
  zll_c (zl_iadd (by decide +kernel) rfl) <|
  zll_c (zl_scr (by decide +kernel) rfl) <|
  zll_c (zl_cv (index := 132) (qc := (RX4, TX4, 7)) (by decide +kernel) rfl mk_X_copy rfl wm_L_132 wq_X_copy ww_X_copy ⟨rfl, rfl⟩ ⟨Nat.le_of_ble_eq_true rfl, Nat.le_of_ble_eq_true rfl⟩) <|
  zll_c (zl_aln (j := 2) (by decide +kernel) rfl rfl) <|
  zll_c (zl_aln (j := 0) (by decide +kernel) rfl rfl) <|
  zll_c (zl_iln (j := 3) (by decide +kernel) rfl rfl) <|
  zll_c (zl_iconst (n' := 1) (by decide +kernel) rfl rfl) <|
  zll_c (zl_iadd (by decide +kernel) rfl) <|
  zll_c (zl_scr (by decide +kernel) rfl) <|
  zll_c (zl_aln (j := 0) (by decide +kernel) rfl rfl) <|
  zll_c (zl_iln (j := 3) (by decide +kernel) rfl rfl) <|
  zll_c (zl_iconst (n' := 2) (by decide +kernel) rfl rfl) <|
  zll_c (zl_iadd (by decide +kernel) rfl) <|
  zll_c (zl_scr (by decide +kernel) rfl) <|
  zll_c (zl_aln (j := 0) (by decide +kernel) rfl rfl) <|
  zll_c (zl_iln (j := 3) (by decide +kernel) rfl rfl) <|
  zll_c (zl_iconst (n' := 3) (by decide +kernel) rfl rfl) <|
  zll_c (zl_iadd (by decide +kernel) rfl) <|
  zll_c (zl_scr (by decide +kernel) rfl) <|
  zll_c (zl_aln (j := 0) (by decide +kernel) rfl rfl) <|
  zll_c (zl_iln (j := 3) (by decide +kernel) rfl rfl) <|
  zll_c (zl_iconst (n' := 4) (by decide +kernel) rfl rfl) <|
  zll_c (zl_iadd (by decide +kernel) rfl) <|
  zll_c (zl_scr (by decide +kernel) rfl) <|
  zll_c (zl_aln (j := 0) (by decide +kernel) rfl rfl) <|
  zll_c (zl_iln (j := 3) (by decide +kernel) rfl rfl) <|
  zll_c (zl_iconst (n' := 5) (by decide +kernel) rfl rfl) <|
  zll_c (zl_iadd (by decide +kernel) rfl) <|
  zll_c (zl_scr (by decide +kernel) rfl) <|
  zll_c (zl_cv (index := 136) (qc := (RX5, TX5, 17)) (by decide +kernel) rfl mk_M_copy rfl wm_L_136 wq_M_copy ww_M_copy ⟨rfl, rfl⟩ ⟨Nat.le_of_ble_eq_true rfl, Nat.le_of_ble_eq_true rfl⟩) <|
  zll_c (zl_ceq (off := 189) (by decide +kernel) rfl rfl) <|
  zll_c (zl_iconst (n' := 0) (by decide +kernel) rfl rfl) <|
  zll_c (zl_zr (by decide +kernel)) <|
  zll_n
set_option maxRecDepth 100000 in
set_option maxHeartbeats 4000000 in
theorem sl_29 (l : Launch) (b n : Nat) (xs : Nat → Int32) : zLl l b n xs (lwt_29 xs n) :=
  zll_c (zl_aln (j := 1) (by decide +kernel) rfl rfl) <|
  zll_c (zl_aln (j := 0) (by decide +kernel) rfl rfl) <|
  zll_c (zl_iln (j := 3) (by decide +kernel) rfl rfl) <|
  zll_c (zl_iconst (n' := 1) (by decide +kernel) rfl rfl) <|
  zll_c (zl_iadd (by decide +kernel) rfl) <|
  zll_c (zl_scr (by decide +kernel) rfl) <|
  zll_c (zl_cv (index := 137) (qc := (RX4, TX4, 7)) (by decide +kernel) rfl mk_X_lays rfl wm_L_137 wq_X_lays ww_X_lays ⟨rfl, rfl⟩ ⟨Nat.le_of_ble_eq_true rfl, Nat.le_of_ble_eq_true rfl⟩) <|
  zll_c (zl_aln (j := 2) (by decide +kernel) rfl rfl) <|
  zll_c (zl_aln (j := 0) (by decide +kernel) rfl rfl) <|
  zll_c (zl_iln (j := 3) (by decide +kernel) rfl rfl) <|
  zll_c (zl_iconst (n' := 1) (by decide +kernel) rfl rfl) <|
  zll_c (zl_iadd (by decide +kernel) rfl) <|
  zll_c (zl_scr (by decide +kernel) rfl) <|
  zll_c (zl_cv (index := 140) (qc := (RX5, TX5, 17)) (by decide +kernel) rfl mk_M_lays rfl wm_L_140 wq_M_lays ww_M_lays ⟨rfl, rfl⟩ ⟨Nat.le_of_ble_eq_true rfl, Nat.le_of_ble_eq_true rfl⟩) <|
  zll_c (zl_ceq (off := 166) (by decide +kernel) rfl rfl) <|
  zll_c (zl_iconst (n' := 0) (by decide +kernel) rfl rfl) <|
  zll_c (zl_zr (by decide +kernel)) <|
  zll_n
set_option maxRecDepth 100000 in
set_option maxHeartbeats 4000000 in
theorem sl_30 (l : Launch) (b n : Nat) (xs : Nat → Int32) : zLl l b n xs (lwt_30 xs n) :=
  zll_c (zl_aln (j := 1) (by decide +kernel) rfl rfl) <|
  zll_c (zl_aln (j := 0) (by decide +kernel) rfl rfl) <|
  zll_c (zl_iln (j := 3) (by decide +kernel) rfl rfl) <|
  zll_c (zl_iconst (n' := 1) (by decide +kernel) rfl rfl) <|
  zll_c (zl_iadd (by decide +kernel) rfl) <|
  zll_c (zl_scr (by decide +kernel) rfl) <|
  zll_c (zl_aln (j := 0) (by decide +kernel) rfl rfl) <|
  zll_c (zl_iln (j := 3) (by decide +kernel) rfl rfl) <|
  zll_c (zl_iconst (n' := 2) (by decide +kernel) rfl rfl) <|
  zll_c (zl_iadd (by decide +kernel) rfl) <|
  zll_c (zl_scr (by decide +kernel) rfl) <|
  zll_c (zl_cv (index := 141) (qc := (RX4, TX4, 7)) (by decide +kernel) rfl mk_X_book rfl wm_L_141 wq_X_book ww_X_book ⟨rfl, rfl⟩ ⟨Nat.le_of_ble_eq_true rfl, Nat.le_of_ble_eq_true rfl⟩) <|
  zll_c (zl_aln (j := 2) (by decide +kernel) rfl rfl) <|
  zll_c (zl_aln (j := 0) (by decide +kernel) rfl rfl) <|
  zll_c (zl_iln (j := 3) (by decide +kernel) rfl rfl) <|
  zll_c (zl_iconst (n' := 1) (by decide +kernel) rfl rfl) <|
  zll_c (zl_iadd (by decide +kernel) rfl) <|
  zll_c (zl_scr (by decide +kernel) rfl) <|
  zll_c (zl_aln (j := 0) (by decide +kernel) rfl rfl) <|
  zll_c (zl_iln (j := 3) (by decide +kernel) rfl rfl) <|
  zll_c (zl_iconst (n' := 2) (by decide +kernel) rfl rfl) <|
  zll_c (zl_iadd (by decide +kernel) rfl) <|
  zll_c (zl_scr (by decide +kernel) rfl) <|
  zll_c (zl_cv (index := 144) (qc := (RX5, TX5, 17)) (by decide +kernel) rfl mk_M_book rfl wm_L_144 wq_M_book ww_M_book ⟨rfl, rfl⟩ ⟨Nat.le_of_ble_eq_true rfl, Nat.le_of_ble_eq_true rfl⟩) <|
  zll_c (zl_ceq (off := 133) (by decide +kernel) rfl rfl) <|
  zll_c (zl_iconst (n' := 0) (by decide +kernel) rfl rfl) <|
  zll_c (zl_zr (by decide +kernel)) <|
  zll_n
set_option maxRecDepth 100000 in
set_option maxHeartbeats 4000000 in
theorem sl_31 (l : Launch) (b n : Nat) (xs : Nat → Int32) : zLl l b n xs (lwt_31 xs n) :=
  zll_c (zl_aln (j := 1) (by decide +kernel) rfl rfl) <|
  zll_c (zl_aln (j := 0) (by decide +kernel) rfl rfl) <|
  zll_c (zl_iln (j := 3) (by decide +kernel) rfl rfl) <|
  zll_c (zl_iconst (n' := 1) (by decide +kernel) rfl rfl) <|
  zll_c (zl_iadd (by decide +kernel) rfl) <|
  zll_c (zl_scr (by decide +kernel) rfl) <|
  zll_c (zl_aln (j := 0) (by decide +kernel) rfl rfl) <|
  zll_c (zl_iln (j := 3) (by decide +kernel) rfl rfl) <|
  zll_c (zl_iconst (n' := 2) (by decide +kernel) rfl rfl) <|
  zll_c (zl_iadd (by decide +kernel) rfl) <|
  zll_c (zl_scr (by decide +kernel) rfl) <|
  zll_c (zl_aln (j := 0) (by decide +kernel) rfl rfl) <|
  zll_c (zl_iln (j := 3) (by decide +kernel) rfl rfl) <|
  zll_c (zl_iconst (n' := 3) (by decide +kernel) rfl rfl) <|
  zll_c (zl_iadd (by decide +kernel) rfl) <|
  zll_c (zl_scr (by decide +kernel) rfl) <|
  zll_c (zl_cv (index := 145) (qc := (RX4, TX4, 7)) (by decide +kernel) rfl mk_X_read rfl wm_L_145 wq_X_read ww_X_read ⟨rfl, rfl⟩ ⟨Nat.le_of_ble_eq_true rfl, Nat.le_of_ble_eq_true rfl⟩) <|
  zll_c (zl_aln (j := 2) (by decide +kernel) rfl rfl) <|
  zll_c (zl_aln (j := 0) (by decide +kernel) rfl rfl) <|
  zll_c (zl_iln (j := 3) (by decide +kernel) rfl rfl) <|
  zll_c (zl_iconst (n' := 1) (by decide +kernel) rfl rfl) <|
  zll_c (zl_iadd (by decide +kernel) rfl) <|
  zll_c (zl_scr (by decide +kernel) rfl) <|
  zll_c (zl_aln (j := 0) (by decide +kernel) rfl rfl) <|
  zll_c (zl_iln (j := 3) (by decide +kernel) rfl rfl) <|
  zll_c (zl_iconst (n' := 2) (by decide +kernel) rfl rfl) <|
  zll_c (zl_iadd (by decide +kernel) rfl) <|
  zll_c (zl_scr (by decide +kernel) rfl) <|
  zll_c (zl_aln (j := 0) (by decide +kernel) rfl rfl) <|
  zll_c (zl_iln (j := 3) (by decide +kernel) rfl rfl) <|
  zll_c (zl_iconst (n' := 3) (by decide +kernel) rfl rfl) <|
  zll_c (zl_iadd (by decide +kernel) rfl) <|
  zll_c (zl_scr (by decide +kernel) rfl) <|
  zll_c (zl_cv (index := 148) (qc := (RX5, TX5, 17)) (by decide +kernel) rfl mk_M_read rfl wm_L_148 wq_M_read ww_M_read ⟨rfl, rfl⟩ ⟨Nat.le_of_ble_eq_true rfl, Nat.le_of_ble_eq_true rfl⟩) <|
  zll_c (zl_ceq (off := 90) (by decide +kernel) rfl rfl) <|
  zll_c (zl_iconst (n' := 0) (by decide +kernel) rfl rfl) <|
  zll_c (zl_zr (by decide +kernel)) <|
  zll_n
set_option maxRecDepth 100000 in
set_option maxHeartbeats 4000000 in
theorem sl_32 (l : Launch) (b n : Nat) (xs : Nat → Int32) : zLl l b n xs (lwt_32 xs n) :=
  zll_c (zl_aln (j := 1) (by decide +kernel) rfl rfl) <|
  zll_c (zl_cv (index := 149) (qc := (RX4, TX4, 7)) (by decide +kernel) rfl mk_X_image rfl wm_L_149 wq_X_image ww_X_image ⟨rfl, rfl⟩ ⟨Nat.le_of_ble_eq_true rfl, Nat.le_of_ble_eq_true rfl⟩) <|
  zll_c (zl_aln (j := 2) (by decide +kernel) rfl rfl) <|
  zll_c (zl_cv (index := 152) (qc := (RX5, TX5, 17)) (by decide +kernel) rfl mk_M_image rfl wm_L_152 wq_M_image ww_M_image ⟨rfl, rfl⟩ ⟨Nat.le_of_ble_eq_true rfl, Nat.le_of_ble_eq_true rfl⟩) <|
  zll_c (zl_ceq (off := 77) (by decide +kernel) rfl rfl) <|
  zll_c (zl_iconst (n' := 0) (by decide +kernel) rfl rfl) <|
  zll_c (zl_zr (by decide +kernel)) <|
  zll_n
set_option maxRecDepth 100000 in
set_option maxHeartbeats 4000000 in
theorem sl_33 (l : Launch) (b n : Nat) (xs : Nat → Int32) : zLl l b n xs (lwt_33 xs n) :=
  zll_c (zl_aln (j := 1) (by decide +kernel) rfl rfl) <|
  zll_c (zl_cv (index := 153) (qc := (RX4, TX4, 7)) (by decide +kernel) rfl mk_X_undo rfl wm_L_153 wq_X_undo ww_X_undo ⟨rfl, rfl⟩ ⟨Nat.le_of_ble_eq_true rfl, Nat.le_of_ble_eq_true rfl⟩) <|
  zll_c (zl_aln (j := 2) (by decide +kernel) rfl rfl) <|
  zll_c (zl_cv (index := 156) (qc := (RX5, TX5, 17)) (by decide +kernel) rfl mk_M_undo rfl wm_L_156 wq_M_undo ww_M_undo ⟨rfl, rfl⟩ ⟨Nat.le_of_ble_eq_true rfl, Nat.le_of_ble_eq_true rfl⟩) <|
  zll_c (zl_ceq (off := 64) (by decide +kernel) rfl rfl) <|
  zll_c (zl_iconst (n' := 0) (by decide +kernel) rfl rfl) <|
  zll_c (zl_zr (by decide +kernel)) <|
  zll_n
set_option maxRecDepth 100000 in
set_option maxHeartbeats 4000000 in
theorem sl_34 (l : Launch) (b n : Nat) (xs : Nat → Int32) : zLl l b n xs (lwt_34 xs n) :=
  zll_c (zl_aln (j := 1) (by decide +kernel) rfl rfl) <|
  zll_c (zl_cv (index := 157) (qc := (RX4, TX4, 7)) (by decide +kernel) rfl mk_X_tear rfl wm_L_157 wq_X_tear ww_X_tear ⟨rfl, rfl⟩ ⟨Nat.le_of_ble_eq_true rfl, Nat.le_of_ble_eq_true rfl⟩) <|
  zll_c (zl_aln (j := 2) (by decide +kernel) rfl rfl) <|
  zll_c (zl_cv (index := 160) (qc := (RX5, TX5, 17)) (by decide +kernel) rfl mk_M_tear rfl wm_L_160 wq_M_tear ww_M_tear ⟨rfl, rfl⟩ ⟨Nat.le_of_ble_eq_true rfl, Nat.le_of_ble_eq_true rfl⟩) <|
  zll_c (zl_ceq (off := 51) (by decide +kernel) rfl rfl) <|
  zll_c (zl_iconst (n' := 0) (by decide +kernel) rfl rfl) <|
  zll_c (zl_zr (by decide +kernel)) <|
  zll_n
set_option maxRecDepth 100000 in
set_option maxHeartbeats 4000000 in
theorem sl_35 (l : Launch) (b n : Nat) (xs : Nat → Int32) : zLl l b n xs (lwt_35 xs n) :=
  zll_c (zl_aln (j := 1) (by decide +kernel) rfl rfl) <|
  zll_c (zl_aln (j := 0) (by decide +kernel) rfl rfl) <|
  zll_c (zl_iln (j := 3) (by decide +kernel) rfl rfl) <|
  zll_c (zl_iconst (n' := 1) (by decide +kernel) rfl rfl) <|
  zll_c (zl_iadd (by decide +kernel) rfl) <|
  zll_c (zl_scr (by decide +kernel) rfl) <|
  zll_c (zl_cv (index := 161) (qc := (RX4, TX4, 7)) (by decide +kernel) rfl mk_X_count rfl wm_L_161 wq_X_count ww_X_count ⟨rfl, rfl⟩ ⟨Nat.le_of_ble_eq_true rfl, Nat.le_of_ble_eq_true rfl⟩) <|
  zll_c (zl_aln (j := 2) (by decide +kernel) rfl rfl) <|
  zll_c (zl_aln (j := 0) (by decide +kernel) rfl rfl) <|
  zll_c (zl_iln (j := 3) (by decide +kernel) rfl rfl) <|
  zll_c (zl_iconst (n' := 1) (by decide +kernel) rfl rfl) <|
  zll_c (zl_iadd (by decide +kernel) rfl) <|
  zll_c (zl_scr (by decide +kernel) rfl) <|
  zll_c (zl_cv (index := 164) (qc := (RX5, TX5, 17)) (by decide +kernel) rfl mk_M_count rfl wm_L_164 wq_M_count ww_M_count ⟨rfl, rfl⟩ ⟨Nat.le_of_ble_eq_true rfl, Nat.le_of_ble_eq_true rfl⟩) <|
  zll_c (zl_ceq (off := 28) (by decide +kernel) rfl rfl) <|
  zll_c (zl_iconst (n' := 0) (by decide +kernel) rfl rfl) <|
  zll_c (zl_zr (by decide +kernel)) <|
  zll_n
set_option maxRecDepth 100000 in
set_option maxHeartbeats 4000000 in
theorem sl_36 (l : Launch) (b n : Nat) (xs : Nat → Int32) : zLl l b n xs (lwt_36 xs n) :=
  zll_c (zl_aln (j := 1) (by decide +kernel) rfl rfl) <|
  zll_c (zl_aln (j := 0) (by decide +kernel) rfl rfl) <|
  zll_c (zl_iln (j := 3) (by decide +kernel) rfl rfl) <|
  zll_c (zl_iconst (n' := 1) (by decide +kernel) rfl rfl) <|
  zll_c (zl_iadd (by decide +kernel) rfl) <|
  zll_c (zl_scr (by decide +kernel) rfl) <|
  zll_c (zl_cv (index := 165) (qc := (RX4, TX4, 7)) (by decide +kernel) rfl mk_X_status rfl wm_L_165 wq_X_status ww_X_status ⟨rfl, rfl⟩ ⟨Nat.le_of_ble_eq_true rfl, Nat.le_of_ble_eq_true rfl⟩) <|
  zll_c (zl_aln (j := 2) (by decide +kernel) rfl rfl) <|
  zll_c (zl_aln (j := 0) (by decide +kernel) rfl rfl) <|
  zll_c (zl_iln (j := 3) (by decide +kernel) rfl rfl) <|
  zll_c (zl_iconst (n' := 1) (by decide +kernel) rfl rfl) <|
  zll_c (zl_iadd (by decide +kernel) rfl) <|
  zll_c (zl_scr (by decide +kernel) rfl) <|
  zll_c (zl_cv (index := 168) (qc := (RX5, TX5, 17)) (by decide +kernel) rfl mk_M_status rfl wm_L_168 wq_M_status ww_M_status ⟨rfl, rfl⟩ ⟨Nat.le_of_ble_eq_true rfl, Nat.le_of_ble_eq_true rfl⟩) <|
  zll_c (zl_ceq (off := 5) (by decide +kernel) rfl rfl) <|
  zll_c (zl_iconst (n' := 0) (by decide +kernel) rfl rfl) <|
  zll_c (zl_zr (by decide +kernel)) <|
  zll_n
set_option maxRecDepth 100000 in
set_option maxHeartbeats 4000000 in
theorem sl_37 (l : Launch) (b n : Nat) (xs : Nat → Int32) : zLl l b n xs (lwt_37 xs n) :=
  zll_c (zl_new (CN := RX4) (T := TX4) (index := 7) (ty0 := tyX4) (by decide +kernel) rfl rfl uw_X4 tyX4_ok wk_L_7 wi_X4 wn_X4 (by decide +kernel) (fun _ => rfl) ⟨Nat.le_of_ble_eq_true rfl, Nat.le_of_ble_eq_true rfl⟩) <|
  zll_c (zl_dup (by decide +kernel) rfl) <|
  zll_c (zl_ci (index := 9) (by decide +kernel) rfl mk_X_init rfl rfl wm_L_9 wq_X_init ⟨rfl, rfl⟩ ⟨Nat.le_of_ble_eq_true rfl, Nat.le_of_ble_eq_true rfl⟩ ⟨Nat.le_of_ble_eq_true rfl, Nat.le_of_ble_eq_true rfl⟩) <|
  zll_c (zl_asn (j := 1) (by decide +kernel) rfl rfl (Nat.le_of_ble_eq_true rfl)) <|
  zll_c (zl_new (CN := RX5) (T := TX5) (index := 10) (ty0 := tyX5) (by decide +kernel) rfl rfl uw_X5 tyX5_ok wk_L_10 wi_X5 wn_X5 (by decide +kernel) (fun _ => rfl) ⟨Nat.le_of_ble_eq_true rfl, Nat.le_of_ble_eq_true rfl⟩) <|
  zll_c (zl_dup (by decide +kernel) rfl) <|
  zll_c (zl_ci (index := 12) (by decide +kernel) rfl mk_M_init rfl rfl wm_L_12 wq_M_init ⟨rfl, rfl⟩ ⟨Nat.le_of_ble_eq_true rfl, Nat.le_of_ble_eq_true rfl⟩ ⟨Nat.le_of_ble_eq_true rfl, Nat.le_of_ble_eq_true rfl⟩) <|
  zll_c (zl_asn (j := 2) (by decide +kernel) rfl rfl (Nat.le_of_ble_eq_true rfl)) <|
  zll_c (zl_iconst (n' := 0) (by decide +kernel) rfl rfl) <|
  zll_c (zl_isn (j := 3) (by decide +kernel) rfl rfl (Nat.le_of_ble_eq_true rfl)) <|
  zll_c (zl_iln (j := 3) (by decide +kernel) rfl rfl) <|
  zll_c (zl_aln (j := 0) (by decide +kernel) rfl rfl) <|
  zll_c (zl_scl (by decide +kernel) rfl) <|
  zll_c (zl_bipush (n' := 6) (by decide +kernel) rfl rfl) <|
  zll_c (zl_isub (by decide +kernel) rfl) <|
  zll_c (zl_cgt (off := 1330) (by decide +kernel) rfl rfl) <|
  zll_c (zl_aln (j := 0) (by decide +kernel) rfl rfl) <|
  zll_c (zl_iln (j := 3) (by decide +kernel) rfl rfl) <|
  zll_c (zl_scr (by decide +kernel) rfl) <|
  zll_c (zl_bipush (n' := 63) (by decide +kernel) rfl rfl) <|
  zll_c (zl_iand (by decide +kernel) rfl) <|
  zll_c (zl_sw (dflt := 1315) (lo := 0) (hi := 36) (offs := #[163, 186, 209, 232, 265, 308, 351, 384, 417, 440, 473, 516, 539, 582, 625, 658, 691, 714, 747, 790, 813, 846, 869, 892, 925, 938, 951, 994, 1068, 1131, 1154, 1187, 1230, 1243, 1256, 1269, 1292]) (len := 163) 0 (by decide +kernel) rfl rfl (by decide) rfl (zsw_of (by decide +kernel))) <|
  zll_c (zl_inc (n' := 6) (by decide +kernel) rfl rfl) <|
  zll_c (zl_goto (off := -1333) (by decide +kernel) rfl) <|
  zll_c (zl_iconst (n' := 1) (by decide +kernel) rfl rfl) <|
  zll_c (zl_zr (by decide +kernel)) <|
  zll_n
