/-! THE SMALL MACHINE IS THE MACHINE: what is said over zm_tab for any closed pair of judgements holds of the contracts -/
theorem zcp {b : Bool} {x y : MethodName} (h1 : plainName x.cls = true) (h2 : plainName y.cls = true) : plainName (cond b x y).cls = true := by cases b <;> assumption
set_option maxRecDepth 100000 in
theorem zy_plain (M : Nat) : plainName (zy M).cls = true := zcp (zcp (zcp (zcp (zcp (zcp (zcp (by decide) (by decide)) (zcp (by decide) (zcp (by decide) (by decide)))) (zcp (zcp (by decide) (zcp (by decide) (by decide))) (zcp (by decide) (zcp (by decide) (by decide))))) (zcp (zcp (zcp (by decide) (by decide)) (zcp (by decide) (zcp (by decide) (by decide)))) (zcp (zcp (by decide) (zcp (by decide) (by decide))) (zcp (by decide) (zcp (by decide) (by decide)))))) (zcp (zcp (zcp (zcp (by decide) (by decide)) (zcp (by decide) (zcp (by decide) (by decide)))) (zcp (zcp (by decide) (zcp (by decide) (by decide))) (zcp (by decide) (zcp (by decide) (by decide))))) (zcp (zcp (zcp (by decide) (zcp (by decide) (by decide))) (zcp (by decide) (zcp (by decide) (by decide)))) (zcp (zcp (by decide) (zcp (by decide) (by decide))) (zcp (by decide) (zcp (by decide) (by decide))))))) (zcp (zcp (zcp (zcp (zcp (by decide) (by decide)) (zcp (by decide) (zcp (by decide) (by decide)))) (zcp (zcp (by decide) (zcp (by decide) (by decide))) (zcp (by decide) (zcp (by decide) (by decide))))) (zcp (zcp (zcp (by decide) (zcp (by decide) (by decide))) (zcp (by decide) (zcp (by decide) (by decide)))) (zcp (zcp (by decide) (zcp (by decide) (by decide))) (zcp (by decide) (zcp (by decide) (by decide)))))) (zcp (zcp (zcp (zcp (by decide) (by decide)) (zcp (by decide) (zcp (by decide) (by decide)))) (zcp (zcp (by decide) (zcp (by decide) (by decide))) (zcp (by decide) (zcp (by decide) (by decide))))) (zcp (zcp (zcp (by decide) (zcp (by decide) (by decide))) (zcp (by decide) (zcp (by decide) (by decide)))) (zcp (zcp (by decide) (zcp (by decide) (by decide))) (zcp (by decide) (zcp (by decide) (by decide)))))))) (zcp (zcp (zcp (zcp (zcp (zcp (by decide) (by decide)) (zcp (by decide) (zcp (by decide) (by decide)))) (zcp (zcp (by decide) (zcp (by decide) (by decide))) (zcp (by decide) (zcp (by decide) (by decide))))) (zcp (zcp (zcp (by decide) (zcp (by decide) (by decide))) (zcp (by decide) (zcp (by decide) (by decide)))) (zcp (zcp (by decide) (zcp (by decide) (by decide))) (zcp (by decide) (zcp (by decide) (by decide)))))) (zcp (zcp (zcp (zcp (by decide) (by decide)) (zcp (by decide) (zcp (by decide) (by decide)))) (zcp (zcp (by decide) (zcp (by decide) (by decide))) (zcp (by decide) (zcp (by decide) (by decide))))) (zcp (zcp (zcp (by decide) (zcp (by decide) (by decide))) (zcp (by decide) (zcp (by decide) (by decide)))) (zcp (zcp (by decide) (zcp (by decide) (by decide))) (zcp (by decide) (zcp (by decide) (by decide))))))) (zcp (zcp (zcp (zcp (zcp (by decide) (by decide)) (zcp (by decide) (zcp (by decide) (by decide)))) (zcp (zcp (by decide) (zcp (by decide) (by decide))) (zcp (by decide) (zcp (by decide) (by decide))))) (zcp (zcp (zcp (by decide) (zcp (by decide) (by decide))) (zcp (by decide) (zcp (by decide) (by decide)))) (zcp (zcp (by decide) (zcp (by decide) (by decide))) (zcp (by decide) (zcp (by decide) (by decide)))))) (zcp (zcp (zcp (zcp (by decide) (by decide)) (zcp (by decide) (zcp (by decide) (by decide)))) (zcp (zcp (by decide) (zcp (by decide) (by decide))) (zcp (by decide) (zcp (by decide) (by decide))))) (zcp (zcp (zcp (by decide) (zcp (by decide) (by decide))) (zcp (by decide) (zcp (by decide) (by decide)))) (zcp (zcp (by decide) (zcp (by decide) (by decide))) (zcp (by decide) (zcp (by decide) (by decide))))))))
theorem za_1 (l : Launch) : ∀ M, M < 1 → zAl l M (zm_tab M) := lt_s (p := fun M => zAl l M (zm_tab M)) (lt_0) (sn_K_isUnder l)
theorem za_2 (l : Launch) : ∀ M, M < 2 → zAl l M (zm_tab M) := lt_s (p := fun M => zAl l M (zm_tab M)) (za_1 l) (sn_K_nameOf l)
theorem za_3 (l : Launch) : ∀ M, M < 3 → zAl l M (zm_tab M) := lt_s (p := fun M => zAl l M (zm_tab M)) (za_2 l) (sn_K_charms l)
theorem za_4 (l : Launch) : ∀ M, M < 4 → zAl l M (zm_tab M) := lt_s (p := fun M => zAl l M (zm_tab M)) (za_3 l) (sn_K_does l)
theorem za_5 (l : Launch) : ∀ M, M < 5 → zAl l M (zm_tab M) := lt_s (p := fun M => zAl l M (zm_tab M)) (za_4 l) (sn_K_thaws l)
theorem za_6 (l : Launch) : ∀ M, M < 6 → zAl l M (zm_tab M) := lt_s (p := fun M => zAl l M (zm_tab M)) (za_5 l) (sn_K_chills l)
theorem za_7 (l : Launch) : ∀ M, M < 7 → zAl l M (zm_tab M) := lt_s (p := fun M => zAl l M (zm_tab M)) (za_6 l) (sn_J_fill l)
theorem za_8 (l : Launch) : ∀ M, M < 8 → zAl l M (zm_tab M) := lt_s (p := fun M => zAl l M (zm_tab M)) (za_7 l) (sn_S_init l)
theorem za_9 (l : Launch) : ∀ M, M < 9 → zAl l M (zm_tab M) := lt_s (p := fun M => zAl l M (zm_tab M)) (za_8 l) (sn_S_isMissing l)
theorem za_10 (l : Launch) : ∀ M, M < 10 → zAl l M (zm_tab M) := lt_s (p := fun M => zAl l M (zm_tab M)) (za_9 l) (sn_S_lay l)
theorem za_11 (l : Launch) : ∀ M, M < 11 → zAl l M (zm_tab M) := lt_s (p := fun M => zAl l M (zm_tab M)) (za_10 l) (sn_S_put l)
theorem za_12 (l : Launch) : ∀ M, M < 12 → zAl l M (zm_tab M) := lt_s (p := fun M => zAl l M (zm_tab M)) (za_11 l) (sn_S_hasRun l)
theorem za_13 (l : Launch) : ∀ M, M < 13 → zAl l M (zm_tab M) := lt_s (p := fun M => zAl l M (zm_tab M)) (za_12 l) (sn_H_init l)
theorem za_14 (l : Launch) : ∀ M, M < 14 → zAl l M (zm_tab M) := lt_s (p := fun M => zAl l M (zm_tab M)) (za_13 l) (sn_H_become l)
theorem za_15 (l : Launch) : ∀ M, M < 15 → zAl l M (zm_tab M) := lt_s (p := fun M => zAl l M (zm_tab M)) (za_14 l) (sn_H_addInlaw l)
theorem za_16 (l : Launch) : ∀ M, M < 16 → zAl l M (zm_tab M) := lt_s (p := fun M => zAl l M (zm_tab M)) (za_15 l) (sn_H_addCouple l)
theorem za_17 (l : Launch) : ∀ M, M < 17 → zAl l M (zm_tab M) := lt_s (p := fun M => zAl l M (zm_tab M)) (za_16 l) (sn_H_firstCouple l)
theorem za_18 (l : Launch) : ∀ M, M < 18 → zAl l M (zm_tab M) := lt_s (p := fun M => zAl l M (zm_tab M)) (za_17 l) (sn_H_satOnes l)
theorem za_19 (l : Launch) : ∀ M, M < 19 → zAl l M (zm_tab M) := lt_s (p := fun M => zAl l M (zm_tab M)) (za_18 l) (sn_H_wellOfAll l)
theorem za_20 (l : Launch) : ∀ M, M < 20 → zAl l M (zm_tab M) := lt_s (p := fun M => zAl l M (zm_tab M)) (za_19 l) (sn_H_warmOfAll l)
theorem za_21 (l : Launch) : ∀ M, M < 21 → zAl l M (zm_tab M) := lt_s (p := fun M => zAl l M (zm_tab M)) (za_20 l) (sn_H_hadOfAll l)
theorem za_22 (l : Launch) : ∀ M, M < 22 → zAl l M (zm_tab M) := lt_s (p := fun M => zAl l M (zm_tab M)) (za_21 l) (sn_H_charmsOf l)
theorem za_23 (l : Launch) : ∀ M, M < 23 → zAl l M (zm_tab M) := lt_s (p := fun M => zAl l M (zm_tab M)) (za_22 l) (sn_H_doesOf l)
theorem za_24 (l : Launch) : ∀ M, M < 24 → zAl l M (zm_tab M) := lt_s (p := fun M => zAl l M (zm_tab M)) (za_23 l) (sn_H_thawsOf l)
theorem za_25 (l : Launch) : ∀ M, M < 25 → zAl l M (zm_tab M) := lt_s (p := fun M => zAl l M (zm_tab M)) (za_24 l) (sn_H_chillsOf l)
theorem za_26 (l : Launch) : ∀ M, M < 26 → zAl l M (zm_tab M) := lt_s (p := fun M => zAl l M (zm_tab M)) (za_25 l) (sn_H_goSundays l)
theorem za_27 (l : Launch) : ∀ M, M < 27 → zAl l M (zm_tab M) := lt_s (p := fun M => zAl l M (zm_tab M)) (za_26 l) (sn_H_goOneSunday l)
theorem za_28 (l : Launch) : ∀ M, M < 28 → zAl l M (zm_tab M) := lt_s (p := fun M => zAl l M (zm_tab M)) (za_27 l) (sn_H_receive l)
theorem za_29 (l : Launch) : ∀ M, M < 29 → zAl l M (zm_tab M) := lt_s (p := fun M => zAl l M (zm_tab M)) (za_28 l) (sn_H_chosenBy l)
theorem za_30 (l : Launch) : ∀ M, M < 30 → zAl l M (zm_tab M) := lt_s (p := fun M => zAl l M (zm_tab M)) (za_29 l) (sn_H_isFree l)
theorem za_31 (l : Launch) : ∀ M, M < 31 → zAl l M (zm_tab M) := lt_s (p := fun M => zAl l M (zm_tab M)) (za_30 l) (sn_H_sum l)
theorem za_32 (l : Launch) : ∀ M, M < 32 → zAl l M (zm_tab M) := lt_s (p := fun M => zAl l M (zm_tab M)) (za_31 l) (sn_H_hold l)
theorem za_33 (l : Launch) : ∀ M, M < 33 → zAl l M (zm_tab M) := lt_s (p := fun M => zAl l M (zm_tab M)) (za_32 l) (sn_T_init l)
theorem za_34 (l : Launch) : ∀ M, M < 34 → zAl l M (zm_tab M) := lt_s (p := fun M => zAl l M (zm_tab M)) (za_33 l) (sn_T_tellTo l)
theorem za_35 (l : Launch) : ∀ M, M < 35 → zAl l M (zm_tab M) := lt_s (p := fun M => zAl l M (zm_tab M)) (za_34 l) (sn_T_tellItem l)
theorem za_36 (l : Launch) : ∀ M, M < 36 → zAl l M (zm_tab M) := lt_s (p := fun M => zAl l M (zm_tab M)) (za_35 l) (sn_T_tellInlaw l)
theorem za_37 (l : Launch) : ∀ M, M < 37 → zAl l M (zm_tab M) := lt_s (p := fun M => zAl l M (zm_tab M)) (za_36 l) (sn_T_tellCouple l)
theorem za_38 (l : Launch) : ∀ M, M < 38 → zAl l M (zm_tab M) := lt_s (p := fun M => zAl l M (zm_tab M)) (za_37 l) (sn_T_tellFire l)
theorem za_39 (l : Launch) : ∀ M, M < 39 → zAl l M (zm_tab M) := lt_s (p := fun M => zAl l M (zm_tab M)) (za_38 l) (sn_T_tellSit l)
theorem za_40 (l : Launch) : ∀ M, M < 40 → zAl l M (zm_tab M) := lt_s (p := fun M => zAl l M (zm_tab M)) (za_39 l) (sn_T_advance l)
theorem za_41 (l : Launch) : ∀ M, M < 41 → zAl l M (zm_tab M) := lt_s (p := fun M => zAl l M (zm_tab M)) (za_40 l) (sn_T_takeWord l)
theorem za_42 (l : Launch) : ∀ M, M < 42 → zAl l M (zm_tab M) := lt_s (p := fun M => zAl l M (zm_tab M)) (za_41 l) (sn_T_takeNumber l)
theorem za_43 (l : Launch) : ∀ M, M < 43 → zAl l M (zm_tab M) := lt_s (p := fun M => zAl l M (zm_tab M)) (za_42 l) (sn_T_isWord l)
theorem za_44 (l : Launch) : ∀ M, M < 44 → zAl l M (zm_tab M) := lt_s (p := fun M => zAl l M (zm_tab M)) (za_43 l) (sn_T_isNumberTo l)
theorem za_45 (l : Launch) : ∀ M, M < 45 → zAl l M (zm_tab M) := lt_s (p := fun M => zAl l M (zm_tab M)) (za_44 l) (sn_T_isLetter l)
theorem za_46 (l : Launch) : ∀ M, M < 46 → zAl l M (zm_tab M) := lt_s (p := fun M => zAl l M (zm_tab M)) (za_45 l) (sn_T_isDigit l)
theorem za_47 (l : Launch) : ∀ M, M < 47 → zAl l M (zm_tab M) := lt_s (p := fun M => zAl l M (zm_tab M)) (za_46 l) (sn_X_init l)
theorem za_48 (l : Launch) : ∀ M, M < 48 → zAl l M (zm_tab M) := lt_s (p := fun M => zAl l M (zm_tab M)) (za_47 l) (sn_X_fire l)
theorem za_49 (l : Launch) : ∀ M, M < 49 → zAl l M (zm_tab M) := lt_s (p := fun M => zAl l M (zm_tab M)) (za_48 l) (sn_X_now l)
theorem za_50 (l : Launch) : ∀ M, M < 50 → zAl l M (zm_tab M) := lt_s (p := fun M => zAl l M (zm_tab M)) (za_49 l) (sn_X_inlaw l)
theorem za_51 (l : Launch) : ∀ M, M < 51 → zAl l M (zm_tab M) := lt_s (p := fun M => zAl l M (zm_tab M)) (za_50 l) (sn_X_of l)
theorem za_52 (l : Launch) : ∀ M, M < 52 → zAl l M (zm_tab M) := lt_s (p := fun M => zAl l M (zm_tab M)) (za_51 l) (sn_X_with l)
theorem za_53 (l : Launch) : ∀ M, M < 53 → zAl l M (zm_tab M) := lt_s (p := fun M => zAl l M (zm_tab M)) (za_52 l) (sn_X_set l)
theorem za_54 (l : Launch) : ∀ M, M < 54 → zAl l M (zm_tab M) := lt_s (p := fun M => zAl l M (zm_tab M)) (za_53 l) (sn_X_turn l)
theorem za_55 (l : Launch) : ∀ M, M < 55 → zAl l M (zm_tab M) := lt_s (p := fun M => zAl l M (zm_tab M)) (za_54 l) (sn_X_as l)
theorem za_56 (l : Launch) : ∀ M, M < 56 → zAl l M (zm_tab M) := lt_s (p := fun M => zAl l M (zm_tab M)) (za_55 l) (sn_X_couple l)
theorem za_57 (l : Launch) : ∀ M, M < 57 → zAl l M (zm_tab M) := lt_s (p := fun M => zAl l M (zm_tab M)) (za_56 l) (sn_X_coupleOf l)
theorem za_58 (l : Launch) : ∀ M, M < 58 → zAl l M (zm_tab M) := lt_s (p := fun M => zAl l M (zm_tab M)) (za_57 l) (sn_X_give l)
theorem za_59 (l : Launch) : ∀ M, M < 59 → zAl l M (zm_tab M) := lt_s (p := fun M => zAl l M (zm_tab M)) (za_58 l) (sn_X_sundays l)
theorem za_60 (l : Launch) : ∀ M, M < 60 → zAl l M (zm_tab M) := lt_s (p := fun M => zAl l M (zm_tab M)) (za_59 l) (sn_X_on l)
theorem za_61 (l : Launch) : ∀ M, M < 61 → zAl l M (zm_tab M) := lt_s (p := fun M => zAl l M (zm_tab M)) (za_60 l) (sn_X_then l)
theorem za_62 (l : Launch) : ∀ M, M < 62 → zAl l M (zm_tab M) := lt_s (p := fun M => zAl l M (zm_tab M)) (za_61 l) (sn_X_meets l)
theorem za_63 (l : Launch) : ∀ M, M < 63 → zAl l M (zm_tab M) := lt_s (p := fun M => zAl l M (zm_tab M)) (za_62 l) (sn_X_well l)
theorem za_64 (l : Launch) : ∀ M, M < 64 → zAl l M (zm_tab M) := lt_s (p := fun M => zAl l M (zm_tab M)) (za_63 l) (sn_X_cold l)
theorem za_65 (l : Launch) : ∀ M, M < 65 → zAl l M (zm_tab M) := lt_s (p := fun M => zAl l M (zm_tab M)) (za_64 l) (sn_X_kind l)
theorem za_66 (l : Launch) : ∀ M, M < 66 → zAl l M (zm_tab M) := lt_s (p := fun M => zAl l M (zm_tab M)) (za_65 l) (sn_X_warm l)
theorem za_67 (l : Launch) : ∀ M, M < 67 → zAl l M (zm_tab M) := lt_s (p := fun M => zAl l M (zm_tab M)) (za_66 l) (sn_X_sit l)
theorem za_68 (l : Launch) : ∀ M, M < 68 → zAl l M (zm_tab M) := lt_s (p := fun M => zAl l M (zm_tab M)) (za_67 l) (sn_X_loud l)
theorem za_69 (l : Launch) : ∀ M, M < 69 → zAl l M (zm_tab M) := lt_s (p := fun M => zAl l M (zm_tab M)) (za_68 l) (sn_X_stoke l)
theorem za_70 (l : Launch) : ∀ M, M < 70 → zAl l M (zm_tab M) := lt_s (p := fun M => zAl l M (zm_tab M)) (za_69 l) (sn_X_lonely l)
theorem za_71 (l : Launch) : ∀ M, M < 71 → zAl l M (zm_tab M) := lt_s (p := fun M => zAl l M (zm_tab M)) (za_70 l) (sn_X_feed l)
theorem za_72 (l : Launch) : ∀ M, M < 72 → zAl l M (zm_tab M) := lt_s (p := fun M => zAl l M (zm_tab M)) (za_71 l) (sn_X_wipe l)
theorem za_73 (l : Launch) : ∀ M, M < 73 → zAl l M (zm_tab M) := lt_s (p := fun M => zAl l M (zm_tab M)) (za_72 l) (sn_X_institute l)
theorem za_74 (l : Launch) : ∀ M, M < 74 → zAl l M (zm_tab M) := lt_s (p := fun M => zAl l M (zm_tab M)) (za_73 l) (sn_X_sheet l)
theorem za_75 (l : Launch) : ∀ M, M < 75 → zAl l M (zm_tab M) := lt_s (p := fun M => zAl l M (zm_tab M)) (za_74 l) (sn_X_write l)
theorem za_76 (l : Launch) : ∀ M, M < 76 → zAl l M (zm_tab M) := lt_s (p := fun M => zAl l M (zm_tab M)) (za_75 l) (sn_X_copy l)
theorem za_77 (l : Launch) : ∀ M, M < 77 → zAl l M (zm_tab M) := lt_s (p := fun M => zAl l M (zm_tab M)) (za_76 l) (sn_X_lays l)
theorem za_78 (l : Launch) : ∀ M, M < 78 → zAl l M (zm_tab M) := lt_s (p := fun M => zAl l M (zm_tab M)) (za_77 l) (sn_X_book l)
theorem za_79 (l : Launch) : ∀ M, M < 79 → zAl l M (zm_tab M) := lt_s (p := fun M => zAl l M (zm_tab M)) (za_78 l) (sn_X_read l)
theorem za_80 (l : Launch) : ∀ M, M < 80 → zAl l M (zm_tab M) := lt_s (p := fun M => zAl l M (zm_tab M)) (za_79 l) (sn_X_image l)
theorem za_81 (l : Launch) : ∀ M, M < 81 → zAl l M (zm_tab M) := lt_s (p := fun M => zAl l M (zm_tab M)) (za_80 l) (sn_X_undo l)
theorem za_82 (l : Launch) : ∀ M, M < 82 → zAl l M (zm_tab M) := lt_s (p := fun M => zAl l M (zm_tab M)) (za_81 l) (sn_X_tear l)
theorem za_83 (l : Launch) : ∀ M, M < 83 → zAl l M (zm_tab M) := lt_s (p := fun M => zAl l M (zm_tab M)) (za_82 l) (sn_X_count l)
theorem za_84 (l : Launch) : ∀ M, M < 84 → zAl l M (zm_tab M) := lt_s (p := fun M => zAl l M (zm_tab M)) (za_83 l) (sn_X_status l)
theorem za_85 (l : Launch) : ∀ M, M < 85 → zAl l M (zm_tab M) := lt_s (p := fun M => zAl l M (zm_tab M)) (za_84 l) (sn_X_tell l)
theorem za_86 (l : Launch) : ∀ M, M < 86 → zAl l M (zm_tab M) := lt_s (p := fun M => zAl l M (zm_tab M)) (za_85 l) (sn_X_put l)
theorem za_87 (l : Launch) : ∀ M, M < 87 → zAl l M (zm_tab M) := lt_s (p := fun M => zAl l M (zm_tab M)) (za_86 l) (sn_X_goesAsBooked l)
theorem za_88 (l : Launch) : ∀ M, M < 88 → zAl l M (zm_tab M) := lt_s (p := fun M => zAl l M (zm_tab M)) (za_87 l) (sn_X_isNoInlaw l)
theorem za_89 (l : Launch) : ∀ M, M < 89 → zAl l M (zm_tab M) := lt_s (p := fun M => zAl l M (zm_tab M)) (za_88 l) (sn_X_isNoCouple l)
theorem za_90 (l : Launch) : ∀ M, M < 90 → zAl l M (zm_tab M) := lt_s (p := fun M => zAl l M (zm_tab M)) (za_89 l) (sn_X_isNoKind l)
theorem za_91 (l : Launch) : ∀ M, M < 91 → zAl l M (zm_tab M) := lt_s (p := fun M => zAl l M (zm_tab M)) (za_90 l) (sn_X_isNoSheet l)
theorem za_92 (l : Launch) : ∀ M, M < 92 → zAl l M (zm_tab M) := lt_s (p := fun M => zAl l M (zm_tab M)) (za_91 l) (sn_X_isOutside l)
theorem za_93 (l : Launch) : ∀ M, M < 93 → zAl l M (zm_tab M) := lt_s (p := fun M => zAl l M (zm_tab M)) (za_92 l) (sn_M_init l)
theorem za_94 (l : Launch) : ∀ M, M < 94 → zAl l M (zm_tab M) := lt_s (p := fun M => zAl l M (zm_tab M)) (za_93 l) (sn_M_in l)
theorem za_95 (l : Launch) : ∀ M, M < 95 → zAl l M (zm_tab M) := lt_s (p := fun M => zAl l M (zm_tab M)) (za_94 l) (sn_M_finds l)
theorem za_96 (l : Launch) : ∀ M, M < 96 → zAl l M (zm_tab M) := lt_s (p := fun M => zAl l M (zm_tab M)) (za_95 l) (sn_M_saves l)
theorem za_97 (l : Launch) : ∀ M, M < 97 → zAl l M (zm_tab M) := lt_s (p := fun M => zAl l M (zm_tab M)) (za_96 l) (sn_M_putsBack l)
theorem za_98 (l : Launch) : ∀ M, M < 98 → zAl l M (zm_tab M) := lt_s (p := fun M => zAl l M (zm_tab M)) (za_97 l) (sn_M_laysAside l)
theorem za_99 (l : Launch) : ∀ M, M < 99 → zAl l M (zm_tab M) := lt_s (p := fun M => zAl l M (zm_tab M)) (za_98 l) (sn_M_takesBack l)
theorem za_100 (l : Launch) : ∀ M, M < 100 → zAl l M (zm_tab M) := lt_s (p := fun M => zAl l M (zm_tab M)) (za_99 l) (sn_M_becomes l)
theorem za_101 (l : Launch) : ∀ M, M < 101 → zAl l M (zm_tab M) := lt_s (p := fun M => zAl l M (zm_tab M)) (za_100 l) (sn_M_spot l)
theorem za_102 (l : Launch) : ∀ M, M < 102 → zAl l M (zm_tab M) := lt_s (p := fun M => zAl l M (zm_tab M)) (za_101 l) (sn_M_coupleSpot l)
theorem za_103 (l : Launch) : ∀ M, M < 103 → zAl l M (zm_tab M) := lt_s (p := fun M => zAl l M (zm_tab M)) (za_102 l) (sn_M_its l)
theorem za_104 (l : Launch) : ∀ M, M < 104 → zAl l M (zm_tab M) := lt_s (p := fun M => zAl l M (zm_tab M)) (za_103 l) (sn_M_theirs l)
theorem za_105 (l : Launch) : ∀ M, M < 105 → zAl l M (zm_tab M) := lt_s (p := fun M => zAl l M (zm_tab M)) (za_104 l) (sn_M_isInlaw l)
theorem za_106 (l : Launch) : ∀ M, M < 106 → zAl l M (zm_tab M) := lt_s (p := fun M => zAl l M (zm_tab M)) (za_105 l) (sn_M_isCouple l)
theorem za_107 (l : Launch) : ∀ M, M < 107 → zAl l M (zm_tab M) := lt_s (p := fun M => zAl l M (zm_tab M)) (za_106 l) (sn_M_isKind l)
theorem za_108 (l : Launch) : ∀ M, M < 108 → zAl l M (zm_tab M) := lt_s (p := fun M => zAl l M (zm_tab M)) (za_107 l) (sn_M_held l)
theorem za_109 (l : Launch) : ∀ M, M < 109 → zAl l M (zm_tab M) := lt_s (p := fun M => zAl l M (zm_tab M)) (za_108 l) (sn_M_together l)
theorem za_110 (l : Launch) : ∀ M, M < 110 → zAl l M (zm_tab M) := lt_s (p := fun M => zAl l M (zm_tab M)) (za_109 l) (sn_M_wells l)
theorem za_111 (l : Launch) : ∀ M, M < 111 → zAl l M (zm_tab M) := lt_s (p := fun M => zAl l M (zm_tab M)) (za_110 l) (sn_M_fire l)
theorem za_112 (l : Launch) : ∀ M, M < 112 → zAl l M (zm_tab M) := lt_s (p := fun M => zAl l M (zm_tab M)) (za_111 l) (sn_M_firstCouple l)
theorem za_113 (l : Launch) : ∀ M, M < 113 → zAl l M (zm_tab M) := lt_s (p := fun M => zAl l M (zm_tab M)) (za_112 l) (sn_M_satOn l)
theorem za_114 (l : Launch) : ∀ M, M < 114 → zAl l M (zm_tab M) := lt_s (p := fun M => zAl l M (zm_tab M)) (za_113 l) (sn_M_now l)
theorem za_115 (l : Launch) : ∀ M, M < 115 → zAl l M (zm_tab M) := lt_s (p := fun M => zAl l M (zm_tab M)) (za_114 l) (sn_M_charms l)
theorem za_116 (l : Launch) : ∀ M, M < 116 → zAl l M (zm_tab M) := lt_s (p := fun M => zAl l M (zm_tab M)) (za_115 l) (sn_M_does l)
theorem za_117 (l : Launch) : ∀ M, M < 117 → zAl l M (zm_tab M) := lt_s (p := fun M => zAl l M (zm_tab M)) (za_116 l) (sn_M_thaws l)
theorem za_118 (l : Launch) : ∀ M, M < 118 → zAl l M (zm_tab M) := lt_s (p := fun M => zAl l M (zm_tab M)) (za_117 l) (sn_M_chills l)
theorem za_119 (l : Launch) : ∀ M, M < 119 → zAl l M (zm_tab M) := lt_s (p := fun M => zAl l M (zm_tab M)) (za_118 l) (sn_M_addsInlaw l)
theorem za_120 (l : Launch) : ∀ M, M < 120 → zAl l M (zm_tab M) := lt_s (p := fun M => zAl l M (zm_tab M)) (za_119 l) (sn_M_inlaw l)
theorem za_121 (l : Launch) : ∀ M, M < 121 → zAl l M (zm_tab M) := lt_s (p := fun M => zAl l M (zm_tab M)) (za_120 l) (sn_M_of l)
theorem za_122 (l : Launch) : ∀ M, M < 122 → zAl l M (zm_tab M) := lt_s (p := fun M => zAl l M (zm_tab M)) (za_121 l) (sn_M_with l)
theorem za_123 (l : Launch) : ∀ M, M < 123 → zAl l M (zm_tab M) := lt_s (p := fun M => zAl l M (zm_tab M)) (za_122 l) (sn_M_set l)
theorem za_124 (l : Launch) : ∀ M, M < 124 → zAl l M (zm_tab M) := lt_s (p := fun M => zAl l M (zm_tab M)) (za_123 l) (sn_M_turn l)
theorem za_125 (l : Launch) : ∀ M, M < 125 → zAl l M (zm_tab M) := lt_s (p := fun M => zAl l M (zm_tab M)) (za_124 l) (sn_M_isUnder l)
theorem za_126 (l : Launch) : ∀ M, M < 126 → zAl l M (zm_tab M) := lt_s (p := fun M => zAl l M (zm_tab M)) (za_125 l) (sn_M_as l)
theorem za_127 (l : Launch) : ∀ M, M < 127 → zAl l M (zm_tab M) := lt_s (p := fun M => zAl l M (zm_tab M)) (za_126 l) (sn_M_addsCouple l)
theorem za_128 (l : Launch) : ∀ M, M < 128 → zAl l M (zm_tab M) := lt_s (p := fun M => zAl l M (zm_tab M)) (za_127 l) (sn_M_couple l)
theorem za_129 (l : Launch) : ∀ M, M < 129 → zAl l M (zm_tab M) := lt_s (p := fun M => zAl l M (zm_tab M)) (za_128 l) (sn_M_hasNow l)
theorem za_130 (l : Launch) : ∀ M, M < 130 → zAl l M (zm_tab M) := lt_s (p := fun M => zAl l M (zm_tab M)) (za_129 l) (sn_M_coupleOf l)
theorem za_131 (l : Launch) : ∀ M, M < 131 → zAl l M (zm_tab M) := lt_s (p := fun M => zAl l M (zm_tab M)) (za_130 l) (sn_M_give l)
theorem za_132 (l : Launch) : ∀ M, M < 132 → zAl l M (zm_tab M) := lt_s (p := fun M => zAl l M (zm_tab M)) (za_131 l) (sn_M_charmer l)
theorem za_133 (l : Launch) : ∀ M, M < 133 → zAl l M (zm_tab M) := lt_s (p := fun M => zAl l M (zm_tab M)) (za_132 l) (sn_M_has l)
theorem za_134 (l : Launch) : ∀ M, M < 134 → zAl l M (zm_tab M) := lt_s (p := fun M => zAl l M (zm_tab M)) (za_133 l) (sn_M_isAlone l)
theorem za_135 (l : Launch) : ∀ M, M < 135 → zAl l M (zm_tab M) := lt_s (p := fun M => zAl l M (zm_tab M)) (za_134 l) (sn_M_sunday l)
theorem za_136 (l : Launch) : ∀ M, M < 136 → zAl l M (zm_tab M) := lt_s (p := fun M => zAl l M (zm_tab M)) (za_135 l) (sn_M_sundaysGo l)
theorem za_137 (l : Launch) : ∀ M, M < 137 → zAl l M (zm_tab M) := lt_s (p := fun M => zAl l M (zm_tab M)) (za_136 l) (sn_M_sundays l)
theorem za_138 (l : Launch) : ∀ M, M < 138 → zAl l M (zm_tab M) := lt_s (p := fun M => zAl l M (zm_tab M)) (za_137 l) (sn_M_isAhead l)
theorem za_139 (l : Launch) : ∀ M, M < 139 → zAl l M (zm_tab M) := lt_s (p := fun M => zAl l M (zm_tab M)) (za_138 l) (sn_M_behind l)
theorem za_140 (l : Launch) : ∀ M, M < 140 → zAl l M (zm_tab M) := lt_s (p := fun M => zAl l M (zm_tab M)) (za_139 l) (sn_M_on l)
theorem za_141 (l : Launch) : ∀ M, M < 141 → zAl l M (zm_tab M) := lt_s (p := fun M => zAl l M (zm_tab M)) (za_140 l) (sn_M_then l)
theorem za_142 (l : Launch) : ∀ M, M < 142 → zAl l M (zm_tab M) := lt_s (p := fun M => zAl l M (zm_tab M)) (za_141 l) (sn_M_meets l)
theorem za_143 (l : Launch) : ∀ M, M < 143 → zAl l M (zm_tab M) := lt_s (p := fun M => zAl l M (zm_tab M)) (za_142 l) (sn_M_well l)
theorem za_144 (l : Launch) : ∀ M, M < 144 → zAl l M (zm_tab M) := lt_s (p := fun M => zAl l M (zm_tab M)) (za_143 l) (sn_M_cold l)
theorem za_145 (l : Launch) : ∀ M, M < 145 → zAl l M (zm_tab M) := lt_s (p := fun M => zAl l M (zm_tab M)) (za_144 l) (sn_M_isSoon l)
theorem za_146 (l : Launch) : ∀ M, M < 146 → zAl l M (zm_tab M) := lt_s (p := fun M => zAl l M (zm_tab M)) (za_145 l) (sn_M_mostBy l)
theorem za_147 (l : Launch) : ∀ M, M < 147 → zAl l M (zm_tab M) := lt_s (p := fun M => zAl l M (zm_tab M)) (za_146 l) (sn_M_kind l)
theorem za_148 (l : Launch) : ∀ M, M < 148 → zAl l M (zm_tab M) := lt_s (p := fun M => zAl l M (zm_tab M)) (za_147 l) (sn_M_warm l)
theorem za_149 (l : Launch) : ∀ M, M < 149 → zAl l M (zm_tab M) := lt_s (p := fun M => zAl l M (zm_tab M)) (za_148 l) (sn_M_sit l)
theorem za_150 (l : Launch) : ∀ M, M < 150 → zAl l M (zm_tab M) := lt_s (p := fun M => zAl l M (zm_tab M)) (za_149 l) (sn_M_loud l)
theorem za_151 (l : Launch) : ∀ M, M < 151 → zAl l M (zm_tab M) := lt_s (p := fun M => zAl l M (zm_tab M)) (za_150 l) (sn_M_stoke l)
theorem za_152 (l : Launch) : ∀ M, M < 152 → zAl l M (zm_tab M) := lt_s (p := fun M => zAl l M (zm_tab M)) (za_151 l) (sn_M_lonely l)
theorem za_153 (l : Launch) : ∀ M, M < 153 → zAl l M (zm_tab M) := lt_s (p := fun M => zAl l M (zm_tab M)) (za_152 l) (sn_M_feed l)
theorem za_154 (l : Launch) : ∀ M, M < 154 → zAl l M (zm_tab M) := lt_s (p := fun M => zAl l M (zm_tab M)) (za_153 l) (sn_M_wipe l)
theorem za_155 (l : Launch) : ∀ M, M < 155 → zAl l M (zm_tab M) := lt_s (p := fun M => zAl l M (zm_tab M)) (za_154 l) (sn_M_byteAt l)
theorem za_156 (l : Launch) : ∀ M, M < 156 → zAl l M (zm_tab M) := lt_s (p := fun M => zAl l M (zm_tab M)) (za_155 l) (sn_M_isLetter l)
theorem za_157 (l : Launch) : ∀ M, M < 157 → zAl l M (zm_tab M) := lt_s (p := fun M => zAl l M (zm_tab M)) (za_156 l) (sn_M_isDigit l)
theorem za_158 (l : Launch) : ∀ M, M < 158 → zAl l M (zm_tab M) := lt_s (p := fun M => zAl l M (zm_tab M)) (za_157 l) (sn_M_token l)
theorem za_159 (l : Launch) : ∀ M, M < 159 → zAl l M (zm_tab M) := lt_s (p := fun M => zAl l M (zm_tab M)) (za_158 l) (sn_M_must l)
theorem za_160 (l : Launch) : ∀ M, M < 160 → zAl l M (zm_tab M) := lt_s (p := fun M => zAl l M (zm_tab M)) (za_159 l) (sn_M_word l)
theorem za_161 (l : Launch) : ∀ M, M < 161 → zAl l M (zm_tab M) := lt_s (p := fun M => zAl l M (zm_tab M)) (za_160 l) (sn_M_number l)
theorem za_162 (l : Launch) : ∀ M, M < 162 → zAl l M (zm_tab M) := lt_s (p := fun M => zAl l M (zm_tab M)) (za_161 l) (sn_M_kindHere l)
theorem za_163 (l : Launch) : ∀ M, M < 163 → zAl l M (zm_tab M) := lt_s (p := fun M => zAl l M (zm_tab M)) (za_162 l) (sn_M_inlawItem l)
theorem za_164 (l : Launch) : ∀ M, M < 164 → zAl l M (zm_tab M) := lt_s (p := fun M => zAl l M (zm_tab M)) (za_163 l) (sn_M_coupleItem l)
theorem za_165 (l : Launch) : ∀ M, M < 165 → zAl l M (zm_tab M) := lt_s (p := fun M => zAl l M (zm_tab M)) (za_164 l) (sn_M_fireItem l)
theorem za_166 (l : Launch) : ∀ M, M < 166 → zAl l M (zm_tab M) := lt_s (p := fun M => zAl l M (zm_tab M)) (za_165 l) (sn_M_sitItem l)
theorem za_167 (l : Launch) : ∀ M, M < 167 → zAl l M (zm_tab M) := lt_s (p := fun M => zAl l M (zm_tab M)) (za_166 l) (sn_M_item l)
theorem za_168 (l : Launch) : ∀ M, M < 168 → zAl l M (zm_tab M) := lt_s (p := fun M => zAl l M (zm_tab M)) (za_167 l) (sn_M_institute l)
theorem za_169 (l : Launch) : ∀ M, M < 169 → zAl l M (zm_tab M) := lt_s (p := fun M => zAl l M (zm_tab M)) (za_168 l) (sn_M_isOne l)
theorem za_170 (l : Launch) : ∀ M, M < 170 → zAl l M (zm_tab M) := lt_s (p := fun M => zAl l M (zm_tab M)) (za_169 l) (sn_M_sheet l)
theorem za_171 (l : Launch) : ∀ M, M < 171 → zAl l M (zm_tab M) := lt_s (p := fun M => zAl l M (zm_tab M)) (za_170 l) (sn_M_narrowed l)
theorem za_172 (l : Launch) : ∀ M, M < 172 → zAl l M (zm_tab M) := lt_s (p := fun M => zAl l M (zm_tab M)) (za_171 l) (sn_M_wrongSheet l)
theorem za_173 (l : Launch) : ∀ M, M < 173 → zAl l M (zm_tab M) := lt_s (p := fun M => zAl l M (zm_tab M)) (za_172 l) (sn_M_write l)
theorem za_174 (l : Launch) : ∀ M, M < 174 → zAl l M (zm_tab M) := lt_s (p := fun M => zAl l M (zm_tab M)) (za_173 l) (sn_M_copy l)
theorem za_175 (l : Launch) : ∀ M, M < 175 → zAl l M (zm_tab M) := lt_s (p := fun M => zAl l M (zm_tab M)) (za_174 l) (sn_M_lays l)
theorem za_176 (l : Launch) : ∀ M, M < 176 → zAl l M (zm_tab M) := lt_s (p := fun M => zAl l M (zm_tab M)) (za_175 l) (sn_M_book l)
theorem za_177 (l : Launch) : ∀ M, M < 177 → zAl l M (zm_tab M) := lt_s (p := fun M => zAl l M (zm_tab M)) (za_176 l) (sn_M_isBook l)
theorem za_178 (l : Launch) : ∀ M, M < 178 → zAl l M (zm_tab M) := lt_s (p := fun M => zAl l M (zm_tab M)) (za_177 l) (sn_M_read l)
theorem za_179 (l : Launch) : ∀ M, M < 179 → zAl l M (zm_tab M) := lt_s (p := fun M => zAl l M (zm_tab M)) (za_178 l) (sn_M_image l)
theorem za_180 (l : Launch) : ∀ M, M < 180 → zAl l M (zm_tab M) := lt_s (p := fun M => zAl l M (zm_tab M)) (za_179 l) (sn_M_undo l)
theorem za_181 (l : Launch) : ∀ M, M < 181 → zAl l M (zm_tab M) := lt_s (p := fun M => zAl l M (zm_tab M)) (za_180 l) (sn_M_tear l)
theorem za_182 (l : Launch) : ∀ M, M < 182 → zAl l M (zm_tab M) := lt_s (p := fun M => zAl l M (zm_tab M)) (za_181 l) (sn_M_count l)
theorem za_183 (l : Launch) : ∀ M, M < 183 → zAl l M (zm_tab M) := lt_s (p := fun M => zAl l M (zm_tab M)) (za_182 l) (sn_M_status l)
theorem zal_all (l : Launch) (M : Nat) : zAl l M (zm_tab M) := by
  rcases Nat.lt_or_ge M 183 with hM | hM
  · exact za_183 l M hM
  · have e : zm_tab M = [] := by
      have hb : Nat.ble M 182 = false := by
        cases hc : Nat.ble M 182 with
        | false => rfl
        | true => have := Nat.le_of_ble_eq_true hc; omega
      unfold zm_tab
      rw [hb]
      rfl
    rw [e]
    exact zal_n
theorem zm_lk_mem : ∀ {T : zT} {pc : Nat} {P : zP} {C : zC} {Q : zQ} {L : zL} {st : List Value} {u : Nat × Nat} {h : zH}, zm_lk T pc P C Q L st u h → ∃ o, (pc, o) ∈ T ∧ o P C Q L st u h
  | [], _, _, _, _, _, _, _, _, k => k.elim
  | q :: T, pc, P, C, Q, L, st, u, h, k => by
    unfold zm_lk at k
    cases hb : Nat.beq q.1 pc with
    | true =>
      rw [hb] at k
      have e := Nat.eq_of_beq_eq_true hb
      subst e
      exact ⟨q.2, List.mem_cons_self, k⟩
    | false =>
      rw [hb] at k
      obtain ⟨o, h1, h2⟩ := zm_lk_mem (T := T) k
      exact ⟨o, List.mem_cons_of_mem _ h1, h2⟩
/-- frames of a method, in any place of the real machine -/
def zsf (l : Launch) : Nat → zQ → zP := fun M Q pc L st u h => ∀ (p : Program) (e : Env) (s : State) (m : MethodId) (args : Array Value) (below : List Frame) (meth : Method) (c : Code) (D : va_G) (κ : zKp) (ad0 adV : Nat → Nat) (h0 : zH),
  zCx p s m args c (zy M).cls (zcc M) (zm_nl M) (va_A (zW κ ad0 h0) s.heap.size) D κ ad0 adV → meth.sig.returnType = zrt M → meth.locks = false → meth.name = (zy M).name → zKM l M p e s m args below meth c D κ ad0 h0 Q pc L st u h
theorem lg_sl_cat : ∀ (vs : List Value), (lg_sl vs).length = zm_cat vs
  | [] => rfl
  | v :: vs => by
    have ih := lg_sl_cat vs
    rcases lv_cat v with hc | hc
    · simp only [lg_sl, List.flatMap_cons, List.length_append, hc, zm_cat] at ih ⊢
      rw [ih]; rfl
    · simp only [lg_sl, List.flatMap_cons, List.length_append, hc, zm_cat] at ih ⊢
      rw [ih]; rfl
theorem zm_cat_zt (ad : Nat → Nat) : ∀ (vs : List Value), zm_cat (vs.map (zt ad)) = zm_cat vs
  | [] => rfl
  | v :: vs => by
    rw [List.map_cons]
    unfold zm_cat
    rw [zm_cat_zt ad vs, zt_cat]
set_option maxHeartbeats 4000000 in
theorem z_entry (l : Launch) (M : Nat) (as : List Value) (h : zH) (Q : zQ) (hc : Nat.ble (zm_cat as) (zm_nl M) = true) (k : zsf l M Q 0 (zm_en as (zm_nl M)) [] (0, 0) h) : zsm l M as h Q := by
  intro D κ ad adV sz
  refine Met.ofW (cc := zcc M) (maxL := zm_nl M) (ret := zrt M) (ws' := zBT) (zy_plain M) rfl ?_
  intro p e s m args below meth c s₁ B hml hv
  obtain ⟨rfl, hsz, hP, hK, hD, hG⟩ := hv
  subst hsz
  have hts0 := atoms_spec (ws := zwd M) B.pre
  have hts : ∀ w ∈ zBT, w.before _ s = true := fun w hw => hts0 w (List.mem_cons_of_mem _ hw)
  have hown : s.vm.findClass (zy M).cls = some m.cls := findClass_of_methodNamed B.named
  have hcat : (lg_sl (as.map (zt ad))).length ≤ zm_nl M := by
    rw [lg_sl_cat, zm_cat_zt]
    exact Nat.le_of_ble_eq_true hc
  have hl := zLs_entry ad as hcat
  rw [lg_entry_eq]
  exact k p e s m _ below meth c D κ ad adV h ⟨⟨B.exec, B.bytes, hml, hown, hts⟩, hK, fun q hq => Or.inr hq, hG⟩ B.returns B.notSynchronized (name_of_methodNamed B.named B.method).1 ad s.heap [] _ (fun _ _ => rfl) (fun _ => rfl) ⟨Nat.le_refl _, Nat.zero_le _, Nat.zero_le _⟩ hP hD.self va_S.rf hl
theorem z_closed (l : Launch) : zCl zm_tab zm_nl (zsm l) (zsf l) := by
  refine ⟨?_, z_entry l, ?_⟩
  · intro M Q P hP pc L st u h k p e s m args below meth c D κ ad0 adV h0 X hr hlk hn
    obtain ⟨o, h1, h2⟩ := zm_lk_mem k
    exact zal_all l M (pc, o) h1 p e s m args below meth c D κ ad0 adV h0 Q P L st u h X hr hlk hn (fun pc' L' st' u' h' k' => hP pc' L' st' u' h' k' p e s m args below meth c D κ ad0 adV h0 X hr hlk hn) h2
  · intro M Q pc L st u h h' he k p e s m args below meth c D κ ad0 adV h0 X hr hlk hn
    exact zk_same he (k p e s m args below meth c D κ ad0 adV h0 X hr hlk hn)

