
theorem recall_row (X : St) (l : Int32) {a : Nat} (h1 : a ≠ 113) (h2 : a ≠ 114) (h3 : a ≠ 35) (h4 : a ≠ 36) (h5 : a ≠ 115) (h6 : a ≠ 116) : s_X7_recall X l a = X a := by
  unfold s_X7_recall
  rw [ux_ne _ _ _ h6, ux_ne _ _ _ h5, sr_n _ _ h4, sr_n _ _ h3, ux_ne _ _ _ h2, ux_ne _ _ _ h1]
theorem an1_row (X : St) (N L : Nat) {a : Nat} (h1 : a ≠ 38) (h2 : a ≠ 41) (h3 : a ≠ 17) : an1 X N L a = s_X7_recall X (X 112 0) a := mvL_row _ _ _ h1 h2 h3 N
theorem an2_row (X : St) (N L : Nat) {a : Nat} (h1 : a ≠ 38) (h2 : a ≠ 41) (h3 : a ≠ 17) (h4 : a ≠ 40) : an2 X N L a = s_X7_recall X (X 112 0) a := by
  unfold an2
  rw [sr_n _ _ h4, an1_row X N L h1 h2 h3]
theorem an2_after (X : St) (N L : Nat) : an2 X N L 37 = (X 37) := an2_row X N L (by decide) (by decide) (by decide) (by decide)
theorem an2_board (X : St) (N L : Nat) : an2 X N L 20 = (X 20) := an2_row X N L (by decide) (by decide) (by decide) (by decide)
theorem an2_rungOf (X : St) (N L : Nat) : an2 X N L 13 = (X 13) := an2_row X N L (by decide) (by decide) (by decide) (by decide)
theorem an2_wstand (X : St) (N L : Nat) : an2 X N L 113 0 = (X 102 0) := by
  rw [an2_row X N L (by decide) (by decide) (by decide) (by decide)]; rfl
theorem an2_former (X : St) (N L : Nat) : an2 X N L 35 = recF (X 20) (X 35) (ix (X 102 0)) := by
  rw [an2_row X N L (by decide) (by decide) (by decide) (by decide)]; rfl
theorem an2_before (X : St) (N L : Nat) : an2 X N L 36 = recB (X 20) (X 36) (ix (X 102 0)) := by
  rw [an2_row X N L (by decide) (by decide) (by decide) (by decide)]; rfl
theorem an3_0 (X : St) (N L : Nat) : an2 X N L = sr (sr (sr (an2 X N L) 37 (recB (an2 X N L 40) (X 37) 0)) 20 (recF (an2 X N L 40) (X 20) 0)) 13 (recB (an2 X N L 40) (X 13) 0) := by
  rw [recF_0, recB, recB]
  conv => rhs; rw [← an2_after X N L, ← an2_board X N L, ← an2_rungOf X N L]
  rw [sr_self]
  rw [sr_self]
  rw [sr_self]
set_option maxHeartbeats 4000000 in
set_option maxRecDepth 100000 in
theorem c_X8_scoreWithout (l : Launch) (D : va_G) (G : Gx) (X : St) (w : Int32) (b : Int32) (hw : vp_in w 16) (hb : vp_in b 120) : Ci l yX8_scoreWithout cX8_scoreWithout 4 (some .int) 1 (xw G) D (tyG G) [.ref (G.1 0), .int w, .int b] X (fun r X1 => r = (v_sw X w b) ∧ X1 = X) := by
  refine m_i (nL := 4) (lv := [(0, .ref (G.1 0)), (1, .int w), (2, .int b)]) [.ref (G.1 0), .int w, .int b] RX8 rfl (xw_adr G) (by decide +kernel) (Nat.le_of_ble_eq_true rfl) rfl (fun K C ret => ?_)
  refine x_aload_n C (pc := 0) dX8_scoreWithout_0 0 rfl rfl ?_
  refine xG_roster C fl_X8_19 dX8_scoreWithout_1 ?_
  refine xG_wins C fl_X8_125 dX8_scoreWithout_4 ?_
  refine x_iload_n C (pc := 7) dX8_scoreWithout_7 1 rfl rfl ?_
  refine xL_wins C dX8_scoreWithout_8 (by assumption) ?_
  refine x_aload_n C (pc := 9) dX8_scoreWithout_9 0 rfl rfl ?_
  refine xG_roster C fl_X8_19 dX8_scoreWithout_10 ?_
  refine xG_losses C fl_X8_216 dX8_scoreWithout_13 ?_
  refine x_iload_n C (pc := 16) dX8_scoreWithout_16 1 rfl rfl ?_
  refine xL_losses C dX8_scoreWithout_17 (by assumption) ?_
  refine x_isub C (pc := 18) dX8_scoreWithout_18 ?_
  refine x_istore_n C (pc := 19) dX8_scoreWithout_19 [(0, .ref (G.1 0)), (1, .int w), (2, .int b), (3, .int ((X 14 (ix w)) - (X 15 (ix w))))] [1, 2, 3, 0] rfl (by decide) rfl ?_
  refine x_iload_n C (pc := 20) dX8_scoreWithout_20 1 rfl rfl ?_
  refine x_aload_n C (pc := 21) dX8_scoreWithout_21 0 rfl rfl ?_
  refine xG_tourney C fl_X8_33 dX8_scoreWithout_22 ?_
  refine xG_winner C fl_X8_207 dX8_scoreWithout_25 ?_
  refine x_iload_n C (pc := 28) dX8_scoreWithout_28 2 rfl rfl ?_
  refine xL_winner C dX8_scoreWithout_29 (by assumption) ?_
  refine x_icmp_ne C (pc := 30) (tgt := 37) dX8_scoreWithout_30 (by decide) (fun c30 => ?_) (fun c30 => ?_)
  · refine x_iload_n C (pc := 37) dX8_scoreWithout_37 1 rfl rfl ?_
    refine x_aload_n C (pc := 38) dX8_scoreWithout_38 0 rfl rfl ?_
    refine xG_tourney C fl_X8_33 dX8_scoreWithout_39 ?_
    refine x_iload_n C (pc := 42) dX8_scoreWithout_42 2 rfl rfl ?_
    refine x_callVi C (pc := 43) [.int b] (fun l D => c_X6_loserOf l D G X b (by assumption)) (xe_4 G _) rfl ml_X8_219 co_X6_loserOf im_X6_loserOf se_X6_loserOf in_X6 hy_X6_loserOf (by decide) (by decide) (Nat.le_of_ble_eq_true rfl) dX8_scoreWithout_43 rfl (kx ?_)
    refine x_icmp_ne C (pc := 46) (tgt := 55) dX8_scoreWithout_46 (by decide) (fun c46 => ?_) (fun c46 => ?_)
    · refine x_iload_n C (pc := 55) dX8_scoreWithout_55 3 rfl rfl ?_
      exact ret ((X 14 (ix w)) - (X 15 (ix w))) X 56 _ dX8_scoreWithout_56 ⟨by unfold v_sw; (repeat (first | rw [if_pos (by assumption)] | rw [if_neg (by assumption)])) <;> first | rfl , rfl⟩
    · refine x_iload_n C (pc := 49) dX8_scoreWithout_49 3 rfl rfl ?_
      refine x_iconst C (pc := 50) (v := 1) dX8_scoreWithout_50 (by decide) ?_
      refine x_iadd C (pc := 51) dX8_scoreWithout_51 ?_
      refine x_goto C (pc := 52) (tgt := 56) dX8_scoreWithout_52 (by decide) ?_
      exact ret (((X 14 (ix w)) - (X 15 (ix w))) + 1) X 56 _ dX8_scoreWithout_56 ⟨by unfold v_sw; (repeat (first | rw [if_pos (by assumption)] | rw [if_neg (by assumption)])) <;> first | rfl , rfl⟩
  · refine x_iload_n C (pc := 33) dX8_scoreWithout_33 3 rfl rfl ?_
    refine x_iconst C (pc := 34) (v := 1) dX8_scoreWithout_34 (by decide) ?_
    refine x_isub C (pc := 35) dX8_scoreWithout_35 ?_
    exact ret (((X 14 (ix w)) - (X 15 (ix w))) - 1) X 36 _ dX8_scoreWithout_36 ⟨by unfold v_sw; (repeat (first | rw [if_pos (by assumption)] | rw [if_neg (by assumption)])) <;> first | rfl , rfl⟩
set_option maxHeartbeats 4000000 in
set_option maxRecDepth 100000 in
theorem c_X8_moveByCustom (l : Launch) (D : va_G) (G : Gx) (L : Nat) (X : St) (w : Int32) (hw : vp_in w 16) (hL : (X 114 0) = nI L) (hL12 : L ≤ 12) : Cv l yX8_moveByCustom cX8_moveByCustom 5 none 2 (xw G) D (tyG G) [.ref (G.1 0), .int w] X (fun X1 => X1 = (s_move X w L)) := by
  refine m_v (nL := 5) (lv := [(0, .ref (G.1 0)), (1, .int w)]) [.ref (G.1 0), .int w] RX8 rfl (xw_adr G) (by decide +kernel) (Nat.le_of_ble_eq_true rfl) rfl (fun K C ret => ?_)
  refine x_aload_n C (pc := 0) dX8_moveByCustom_0 0 rfl rfl ?_
  refine xG_custom C fl_X8_47 dX8_moveByCustom_1 ?_
  refine x_aload_n C (pc := 4) dX8_moveByCustom_4 0 rfl rfl ?_
  refine xG_roster C fl_X8_19 dX8_moveByCustom_5 ?_
  refine xG_wins C fl_X8_125 dX8_moveByCustom_8 ?_
  refine x_iload_n C (pc := 11) dX8_moveByCustom_11 1 rfl rfl ?_
  refine xL_wins C dX8_moveByCustom_12 (by assumption) ?_
  refine x_aload_n C (pc := 13) dX8_moveByCustom_13 0 rfl rfl ?_
  refine xG_roster C fl_X8_19 dX8_moveByCustom_14 ?_
  refine xG_losses C fl_X8_216 dX8_moveByCustom_17 ?_
  refine x_iload_n C (pc := 20) dX8_moveByCustom_20 1 rfl rfl ?_
  refine xL_losses C dX8_moveByCustom_21 (by assumption) ?_
  refine x_isub C (pc := 22) dX8_moveByCustom_22 ?_
  refine x_aload_n C (pc := 23) dX8_moveByCustom_23 0 rfl rfl ?_
  refine xG_writing C fl_X8_54 dX8_moveByCustom_24 ?_
  refine xG_linesThen C fl_X8_276 dX8_moveByCustom_27 ?_
  refine x_callVi C (pc := 30) [.int ((X 14 (ix w)) - (X 15 (ix w))), .int (X 114 0)] (fun l D => c_X0_lineFor l D G L X ((X 14 (ix w)) - (X 15 (ix w))) (X 114 0) hL12 hL) (xe_6 G _) rfl ml_X8_279 co_X0_lineFor im_X0_lineFor se_X0_lineFor in_X0 hy_X0_lineFor (by decide) (by decide) (Nat.le_of_ble_eq_true rfl) dX8_moveByCustom_30 rfl (kx ?_)
  refine x_top (y := (v_BL X w L)) rfl ?_
  refine x_istore_n C (pc := 33) dX8_moveByCustom_33 [(0, .ref (G.1 0)), (1, .int w), (2, .int (v_BL X w L))] [1, 2, 0] rfl (by decide) rfl ?_
  refine x_aload_n C (pc := 34) dX8_moveByCustom_34 0 rfl rfl ?_
  refine xG_custom C fl_X8_47 dX8_moveByCustom_35 ?_
  refine x_iload_n C (pc := 38) dX8_moveByCustom_38 2 rfl rfl ?_
  refine x_aload_n C (pc := 39) dX8_moveByCustom_39 0 rfl rfl ?_
  refine xG_roster C fl_X8_19 dX8_moveByCustom_40 ?_
  refine xG_kind C fl_X8_282 dX8_moveByCustom_43 ?_
  refine x_iload_n C (pc := 46) dX8_moveByCustom_46 1 rfl rfl ?_
  refine xL_kind C dX8_moveByCustom_47 (by assumption) ?_
  refine x_callVi C (pc := 48) [.int (v_BL X w L), .int (X 10 (ix w))] (fun l D => c_X0_steps l D G X (v_BL X w L) (X 10 (ix w)) (lfr_vin hL12)) (xe_6 G _) rfl ml_X8_285 co_X0_steps im_X0_steps se_X0_steps in_X0 hy_X0_steps (by decide) (by decide) (Nat.le_of_ble_eq_true rfl) dX8_moveByCustom_48 rfl (kx ?_)
  refine x_top (y := (v_stp X w L)) rfl ?_
  refine x_istore_n C (pc := 51) dX8_moveByCustom_51 [(0, .ref (G.1 0)), (1, .int w), (2, .int (v_BL X w L)), (3, .int (v_stp X w L))] [1, 2, 3, 0] rfl (by decide) rfl ?_
  refine x_aload_n C (pc := 52) dX8_moveByCustom_52 0 rfl rfl ?_
  refine xG_writing C fl_X8_54 dX8_moveByCustom_53 ?_
  refine xG_byLine C fl_X8_267 dX8_moveByCustom_56 ?_
  refine x_iload_n C (pc := 59) dX8_moveByCustom_59 1 rfl rfl ?_
  refine x_iload_n C (pc := 60) dX8_moveByCustom_60 2 rfl rfl ?_
  refine xS_byLine C dX8_moveByCustom_61 (by assumption) ?_
  refine x_aload_n C (pc := 62) dX8_moveByCustom_62 0 rfl rfl ?_
  refine xG_writing C fl_X8_54 dX8_moveByCustom_63 ?_
  refine x_iload_n C (pc := 66) dX8_moveByCustom_66 1 rfl rfl ?_
  refine x_iload_n C (pc := 67) dX8_moveByCustom_67 3 rfl rfl ?_
  refine x_callVv C (pc := 68) [.int w, .int (v_stp X w L)] (fun l D => c_X7_aimAt l D G (ux X 38 (ix w) (v_BL X w L)) w (v_stp X w L) (by assumption)) (xe_7 G _) rfl ml_X8_288 co_X7_aimAt im_X7_aimAt se_X7_aimAt in_X7 hy_X7_aimAt (by decide) (by decide) (Nat.le_of_ble_eq_true rfl) dX8_moveByCustom_68 rfl (kxv ?_)
  refine x_eqX (X' := (ux (ux X 38 (ix w) (v_BL X w L)) 41 (ix w) (2 * ((X 36 (ix w)) - (v_stp X w L)) - v_half (v_stp X w L)))) rfl ?_
  refine x_iload_n C (pc := 71) dX8_moveByCustom_71 3 rfl rfl ?_
  refine x_aload_n C (pc := 72) dX8_moveByCustom_72 0 rfl rfl ?_
  refine xG_custom C fl_X8_47 dX8_moveByCustom_73 ?_
  refine x_iload_n C (pc := 76) dX8_moveByCustom_76 2 rfl rfl ?_
  refine x_iconst C (pc := 77) (v := 0) dX8_moveByCustom_77 (by decide) ?_
  refine x_callVi C (pc := 78) [.int (v_BL X w L), .int 0] (fun l D => c_X0_steps l D G (ux (ux X 38 (ix w) (v_BL X w L)) 41 (ix w) (2 * ((X 36 (ix w)) - (v_stp X w L)) - v_half (v_stp X w L))) (v_BL X w L) 0 (lfr_vin hL12)) (xe_6 G _) rfl ml_X8_285 co_X0_steps im_X0_steps se_X0_steps in_X0 hy_X0_steps (by decide) (by decide) (Nat.le_of_ble_eq_true rfl) dX8_moveByCustom_78 rfl (kx ?_)
  refine x_top (y := (v_X0_steps X (v_BL X w L) 0)) rfl ?_
  refine x_isub C (pc := 81) dX8_moveByCustom_81 ?_
  refine x_istore C (pc := 82) dX8_moveByCustom_82 [(0, .ref (G.1 0)), (1, .int w), (2, .int (v_BL X w L)), (3, .int (v_stp X w L)), (4, .int ((v_stp X w L) - (v_X0_steps X (v_BL X w L) 0)))] [1, 2, 3, 4, 0] (by decide) rfl ?_
  refine x_aload_n C (pc := 84) dX8_moveByCustom_84 0 rfl rfl ?_
  refine xG_roster C fl_X8_19 dX8_moveByCustom_85 ?_
  refine xG_kind C fl_X8_282 dX8_moveByCustom_88 ?_
  refine x_iload_n C (pc := 91) dX8_moveByCustom_91 1 rfl rfl ?_
  refine xL_kind C dX8_moveByCustom_92 (by assumption) ?_
  refine x_top (y := (X 10 (ix w))) rfl ?_
  refine x_iconst C (pc := 93) (v := 1) dX8_moveByCustom_93 (by decide) ?_
  refine x_icmp_ne C (pc := 94) (tgt := 118) dX8_moveByCustom_94 (by decide) (fun c94 => ?_) (fun c94 => ?_)
  · refine x_aload_n C (pc := 118) dX8_moveByCustom_118 0 rfl rfl ?_
    refine xG_roster C fl_X8_19 dX8_moveByCustom_119 ?_
    refine xG_kind C fl_X8_282 dX8_moveByCustom_122 ?_
    refine x_iload_n C (pc := 125) dX8_moveByCustom_125 1 rfl rfl ?_
    refine xL_kind C dX8_moveByCustom_126 (by assumption) ?_
    refine x_top (y := (X 10 (ix w))) rfl ?_
    refine x_iconst C (pc := 127) (v := 2) dX8_moveByCustom_127 (by decide) ?_
    refine x_icmp_ne C (pc := 128) (tgt := 145) dX8_moveByCustom_128 (by decide) (fun c128 => ?_) (fun c128 => ?_)
    · exact ret (ux (ux X 38 (ix w) (v_BL X w L)) 41 (ix w) (2 * ((X 36 (ix w)) - (v_stp X w L)) - v_half (v_stp X w L))) 145 _ dX8_moveByCustom_145 (by unfold s_move; (repeat (first | rw [if_pos (by assumption)] | rw [if_neg (by assumption)])) <;> first | rfl )
    · refine x_aload_n C (pc := 131) dX8_moveByCustom_131 0 rfl rfl ?_
      refine xG_roster C fl_X8_19 dX8_moveByCustom_132 ?_
      refine xG_marks C fl_X8_119 dX8_moveByCustom_135 ?_
      refine x_iload_n C (pc := 138) dX8_moveByCustom_138 1 rfl rfl ?_
      refine x_dup2 C (pc := 139) dX8_moveByCustom_139 rfl rfl ?_
      refine xL_marks C dX8_moveByCustom_140 (by assumption) ?_
      refine x_top (y := (X 17 (ix w))) rfl ?_
      refine x_iload C (pc := 141) dX8_moveByCustom_141 4 rfl ?_
      refine x_iadd C (pc := 143) dX8_moveByCustom_143 ?_
      refine xS_marks C dX8_moveByCustom_144 (by assumption) ?_
      exact ret (ux (ux (ux X 38 (ix w) (v_BL X w L)) 41 (ix w) (2 * ((X 36 (ix w)) - (v_stp X w L)) - v_half (v_stp X w L))) 17 (ix w) ((X 17 (ix w)) + ((v_stp X w L) - (v_X0_steps X (v_BL X w L) 0)))) 145 _ dX8_moveByCustom_145 (by unfold s_move; (repeat (first | rw [if_pos (by assumption)] | rw [if_neg (by assumption)])) <;> first | rfl )
  · refine x_iload C (pc := 97) dX8_moveByCustom_97 4 rfl ?_
    refine x_if_le C (pc := 99) (tgt := 118) dX8_moveByCustom_99 (by decide) (fun c99 => ?_) (fun c99 => ?_)
    · refine x_aload_n C (pc := 118) dX8_moveByCustom_118 0 rfl rfl ?_
      refine xG_roster C fl_X8_19 dX8_moveByCustom_119 ?_
      refine xG_kind C fl_X8_282 dX8_moveByCustom_122 ?_
      refine x_iload_n C (pc := 125) dX8_moveByCustom_125 1 rfl rfl ?_
      refine xL_kind C dX8_moveByCustom_126 (by assumption) ?_
      refine x_top (y := (X 10 (ix w))) rfl ?_
      refine x_iconst C (pc := 127) (v := 2) dX8_moveByCustom_127 (by decide) ?_
      refine x_icmp_ne C (pc := 128) (tgt := 145) dX8_moveByCustom_128 (by decide) (fun c128 => ?_) (fun c128 => absurd (c94.symm.trans c128) (by decide))
      exact ret (ux (ux X 38 (ix w) (v_BL X w L)) 41 (ix w) (2 * ((X 36 (ix w)) - (v_stp X w L)) - v_half (v_stp X w L))) 145 _ dX8_moveByCustom_145 (by unfold s_move; (repeat (first | rw [if_pos (by assumption)] | rw [if_neg (by assumption)])) <;> first | rfl )
    · refine x_aload_n C (pc := 102) dX8_moveByCustom_102 0 rfl rfl ?_
      refine xG_roster C fl_X8_19 dX8_moveByCustom_103 ?_
      refine xG_marks C fl_X8_119 dX8_moveByCustom_106 ?_
      refine x_iload_n C (pc := 109) dX8_moveByCustom_109 1 rfl rfl ?_
      refine x_dup2 C (pc := 110) dX8_moveByCustom_110 rfl rfl ?_
      refine xL_marks C dX8_moveByCustom_111 (by assumption) ?_
      refine x_top (y := (X 17 (ix w))) rfl ?_
      refine x_iconst C (pc := 112) (v := 1) dX8_moveByCustom_112 (by decide) ?_
      refine x_iadd C (pc := 113) dX8_moveByCustom_113 ?_
      refine xS_marks C dX8_moveByCustom_114 (by assumption) ?_
      refine x_goto C (pc := 115) (tgt := 145) dX8_moveByCustom_115 (by decide) ?_
      exact ret (ux (ux (ux X 38 (ix w) (v_BL X w L)) 41 (ix w) (2 * ((X 36 (ix w)) - (v_stp X w L)) - v_half (v_stp X w L))) 17 (ix w) ((X 17 (ix w)) + 1)) 145 _ dX8_moveByCustom_145 (by unfold s_move; (repeat (first | rw [if_pos (by assumption)] | rw [if_neg (by assumption)])) <;> first | rfl )
set_option maxHeartbeats 4000000 in
set_option maxRecDepth 100000 in
theorem c_X8_anew (l : Launch) (D : va_G) (G : Gx) (N L : Nat) (X : St)  (hS : (X 102 0) = nI N) (hN16 : N ≤ 16) (hB : ∀ r, r < N → vp_in ((X 20) r) 16) (hL : (X 112 0) = nI L) (hL12 : L ≤ 12) : Ci l yX8_anew cX8_anew 3 (some .int) 3 (xw G) D (tyG G) [.ref (G.1 0)] X (fun r X1 => r = (v_anew X N L) ∧ X1 = (s_anew X N L)) := by
  refine m_i (nL := 3) (lv := [(0, .ref (G.1 0))]) [.ref (G.1 0)] RX8 rfl (xw_adr G) (by decide +kernel) (Nat.le_of_ble_eq_true rfl) rfl (fun K C ret => ?_)
  refine x_aload_n C (pc := 0) dX8_anew_0 0 rfl rfl ?_
  refine xG_tourney C fl_X8_33 dX8_anew_1 ?_
  refine x_callVi C (pc := 4) [] (fun l D => c_X6_isComplete l D G X ) (xe_4 G _) rfl ml_X8_230 co_X6_isComplete im_X6_isComplete se_X6_isComplete in_X6 hy_X6_isComplete (by decide) (by decide) (Nat.le_of_ble_eq_true rfl) dX8_anew_4 rfl (kx ?_)
  refine x_if_eq C (pc := 7) (tgt := 20) dX8_anew_7 (by decide) (fun c7 => ?_) (fun c7 => ?_)
  · refine x_bipush C (pc := 20) (v := (-4)) dX8_anew_20 (by decide) ?_
    exact ret (-4) X 22 _ dX8_anew_22 ⟨by unfold v_anew; (repeat (first | rw [if_pos (by assumption)] | rw [if_neg (by assumption)])) <;> first | rfl , by unfold s_anew; (repeat (first | rw [if_pos (by assumption)] | rw [if_neg (by assumption)])) <;> first | rfl ⟩
  · refine x_aload_n C (pc := 10) dX8_anew_10 0 rfl rfl ?_
    refine xG_titleRow C fl_X8_61 dX8_anew_11 ?_
    refine x_callVi C (pc := 14) [] (fun l D => c_X5_goesOn l D G X ) (xe_8 G _) rfl ml_X8_234 co_X5_goesOn im_X5_goesOn se_X5_goesOn in_X5 hy_X5_goesOn (by decide) (by decide) (Nat.le_of_ble_eq_true rfl) dX8_anew_14 rfl (kx ?_)
    refine x_if_eq C (pc := 17) (tgt := 23) dX8_anew_17 (by decide) (fun c17 => ?_) (fun c17 => ?_)
    · refine x_aload_n C (pc := 23) dX8_anew_23 0 rfl rfl ?_
      refine xG_writing C fl_X8_54 dX8_anew_24 ?_
      refine x_aload_n C (pc := 27) dX8_anew_27 0 rfl rfl ?_
      refine xG_roster C fl_X8_19 dX8_anew_28 ?_
      refine x_aload_n C (pc := 31) dX8_anew_31 0 rfl rfl ?_
      refine xG_custom C fl_X8_47 dX8_anew_32 ?_
      refine xG_lines C fl_X8_226 dX8_anew_35 ?_
      refine x_callVv C (pc := 38) [.ref (G.1 2), .int (X 112 0)] (fun l D => c_X7_recall l D G N X (X 112 0) hN16 hS hB) (xe_7 G _) rfl ml_X8_237 co_X7_recall im_X7_recall se_X7_recall in_X7 hy_X7_recall (by decide) (by decide) (Nat.le_of_ble_eq_true rfl) dX8_anew_38 rfl (kxv ?_)
      refine x_iconst C (pc := 41) (v := 0) dX8_anew_41 (by decide) ?_
      refine x_istore_n C (pc := 42) dX8_anew_42 [(0, .ref (G.1 0)), (1, .int 0)] [1, 0] rfl (by decide) rfl ?_
      have L43 : ∀ (n : Nat) (Y : St) (i : Int32) (j : Nat), (j ≤ N) → (i = nI j) → (Y = mvL (s_X7_recall X (X 112 0)) (X 20) L j) → (N - j) < n → WX K (xw G) 3 Y 43 [(0, .ref (G.1 0)), (1, .int i)] [] := by
        intro n
        induction n with
        | zero => intro Y i j hj hi hY hmu43; exact absurd hmu43 (Nat.not_lt_zero _)
        | succ n43 ih43 =>
          intro Y i j hj hi hY hmu43
          refine x_iload_n C (pc := 43) dX8_anew_43 1 rfl rfl ?_
          refine x_aload_n C (pc := 44) dX8_anew_44 0 rfl rfl ?_
          refine xG_writing C fl_X8_54 dX8_anew_45 ?_
          refine xG_wstand C fl_X8_241 dX8_anew_48 ?_
          refine x_icmp_ge C (pc := 51) (tgt := 73) dX8_anew_51 (by decide) (fun c51 => ?_) (fun c51 => ?_)
          · have hxN : ix (X 102 0) = N := by rw [hS]; exact ix_nI (by omega)
            have hys : (Y 113 0) = nI N := by rw [hY, mvL_row _ _ _ (by decide) (by decide) (by decide)]; exact hS
            have hge : N ≤ j := geN hi hys c51 (by omega)
            have hjN : j = N := by omega
            have hyf : (Y 35) = recF (X 20) (X 35) N := by rw [hY, mvL_row _ _ _ (by decide) (by decide) (by decide), ← hxN]; rfl
            have hyo : (Y 40) = (X 40) := by rw [hY, mvL_row _ _ _ (by decide) (by decide) (by decide)]; rfl
            have hfin : ∀ r, r < N → vp_in ((Y 35) r) 16 := fun r hr => by rw [hyf]; simp only [recF]; rw [if_pos hr]; exact hB r hr
            have hY1 : Y = an1 X N L := by rw [hY, hjN]; rfl
            have hoin : ∀ r, r < N → vp_in (an2 X N L 40 r) 16 := fun r hr => by
              unfold an2
              rw [sr_s]
              exact arrL_in N (fun q hq => by rw [← hyf]; exact hfin q hq) r hr
            clear hi hj
            refine x_aload_n C (pc := 73) dX8_anew_73 0 rfl rfl ?_
            refine xG_writing C fl_X8_54 dX8_anew_74 ?_
            refine x_callVv C (pc := 77) [] (fun l D => c_X7_arrange l D G N Y hN16 hys hfin) (xe_7 G _) rfl ml_X8_248 co_X7_arrange im_X7_arrange se_X7_arrange in_X7 hy_X7_arrange (by decide) (by decide) (Nat.le_of_ble_eq_true rfl) dX8_anew_77 rfl (kxv ?_)
            refine x_eqX (X' := (an2 X N L)) (by unfold an2; rw [← hY1, hyf, hyo]) ?_
            refine x_iconst C (pc := 80) (v := 0) dX8_anew_80 (by decide) ?_
            refine x_istore_n C (pc := 81) dX8_anew_81 [(0, .ref (G.1 0)), (1, .int 0)] [1, 0] rfl (by decide) rfl ?_
            have L82 : ∀ (n : Nat) (i : Int32) (j : Nat), (j ≤ N) → (i = nI j) → (N - j) < n → WX K (xw G) 3 (sr (sr (sr (an2 X N L) 37 (recB (an2 X N L 40) (X 37) j)) 20 (recF (an2 X N L 40) (X 20) j)) 13 (recB (an2 X N L 40) (X 13) j)) 82 [(0, .ref (G.1 0)), (1, .int i)] [] := by
              intro n
              induction n with
              | zero => intro i j hj hi hmu82; exact absurd hmu82 (Nat.not_lt_zero _)
              | succ n82 ih82 =>
                intro i j hj hi hmu82
                refine x_iload_n C (pc := 82) dX8_anew_82 1 rfl rfl ?_
                refine x_aload_n C (pc := 83) dX8_anew_83 0 rfl rfl ?_
                refine xG_writing C fl_X8_54 dX8_anew_84 ?_
                refine xG_wstand C fl_X8_241 dX8_anew_87 ?_
                refine x_top (y := ((an2 X N L) 113 0)) rfl ?_
                refine x_icmp_ge C (pc := 90) (tgt := 128) dX8_anew_90 (by decide) (fun c90 => ?_) (fun c90 => ?_)
                · have hws : an2 X N L 113 0 = nI N := by rw [an2_wstand]; exact hS
                  have hge2 : N ≤ j := geN hi hws c90 (by omega)
                  have hjN2 : j = N := by omega
                  refine x_eqX (X' := (an3 X N L N)) (by rw [hjN2]; rfl) ?_
                  refine x_aload_n C (pc := 128) dX8_anew_128 0 rfl rfl ?_
                  refine xG_tourney C fl_X8_33 dX8_anew_129 ?_
                  refine x_iconst C (pc := 132) (v := 0) dX8_anew_132 (by decide) ?_
                  refine xP_going C fl_X8_76 (v := 0) (by decide) (by decide) dX8_anew_133 ?_
                  refine x_aload_n C (pc := 136) dX8_anew_136 0 rfl rfl ?_
                  refine xG_writing C fl_X8_54 dX8_anew_137 ?_
                  refine x_aload_n C (pc := 140) dX8_anew_140 0 rfl rfl ?_
                  refine xG_writing C fl_X8_54 dX8_anew_141 ?_
                  refine xG_before C fl_X8_260 dX8_anew_144 ?_
                  refine x_callVi C (pc := 147) [.ref (G.1 36)] (fun l D => c_X7_differing_36 l D G N (ux (an3 X N L N) 104 0 0) hN16 hws (fun r hr => by show vp_in (an2 X N L 35 r) 16; rw [an2_former, hxN]; simp only [recF]; rw [if_pos hr]; exact hB r hr)) (xe_7 G _) rfl ml_X8_263 co_X7_differing im_X7_differing se_X7_differing in_X7 hy_X7_differing (by decide) (by decide) (Nat.le_of_ble_eq_true rfl) dX8_anew_147 rfl (kx ?_)
                  exact ret (difL ((ux (an3 X N L N) 104 0 0) 35) ((ux (an3 X N L N) 104 0 0) 36) ((ux (an3 X N L N) 104 0 0) 37) N) (ux (an3 X N L N) 104 0 0) 150 _ dX8_anew_150 ⟨by unfold v_anew; rw [if_neg c7, if_pos c17]; show difL (an2 X N L 35) (an2 X N L 36) _ N = _; rw [an2_former, an2_before, hxN]; rfl, by unfold s_anew; rw [if_neg c7, if_pos c17]⟩
                · have hws : an2 X N L 113 0 = nI N := by rw [an2_wstand]; exact hS
                  have hlt : j < N := ltN hi hws c90 (by omega)
                  have hin : vp_in i 16 := by rw [hi]; exact vp_in_nI (by omega) (by decide)
                  have hix : ix i = j := by rw [hi]; exact ix_nI (by omega)
                  have hino : vp_in (an2 X N L 40 (ix i)) 16 := by rw [hix]; exact hoin j hlt
                  refine x_aload_n C (pc := 93) dX8_anew_93 0 rfl rfl ?_
                  refine xG_writing C fl_X8_54 dX8_anew_94 ?_
                  refine xG_order C fl_X8_251 dX8_anew_97 ?_
                  refine x_iload_n C (pc := 100) dX8_anew_100 1 rfl rfl ?_
                  refine xL_order C dX8_anew_101 (by assumption) ?_
                  refine x_top (y := ((an2 X N L) 40 (ix i))) rfl ?_
                  refine x_istore_n C (pc := 102) dX8_anew_102 [(0, .ref (G.1 0)), (1, .int i), (2, .int ((an2 X N L) 40 (ix i)))] [1, 2, 0] rfl (by decide) rfl ?_
                  refine x_aload_n C (pc := 103) dX8_anew_103 0 rfl rfl ?_
                  refine xG_writing C fl_X8_54 dX8_anew_104 ?_
                  refine xG_after C fl_X8_254 dX8_anew_107 ?_
                  refine x_iload_n C (pc := 110) dX8_anew_110 2 rfl rfl ?_
                  refine x_iload_n C (pc := 111) dX8_anew_111 1 rfl rfl ?_
                  refine xS_after C dX8_anew_112 (by assumption) ?_
                  refine x_aload_n C (pc := 113) dX8_anew_113 0 rfl rfl ?_
                  refine xG_roster C fl_X8_19 dX8_anew_114 ?_
                  refine x_iload_n C (pc := 117) dX8_anew_117 2 rfl rfl ?_
                  refine x_iload_n C (pc := 118) dX8_anew_118 1 rfl rfl ?_
                  refine x_callVv C (pc := 119) [.int ((an2 X N L) 40 (ix i)), .int i] (fun l D => c_X3_place l D G (ux (sr (sr (sr (an2 X N L) 37 (recB (an2 X N L 40) (X 37) j)) 20 (recF (an2 X N L 40) (X 20) j)) 13 (recB (an2 X N L 40) (X 13) j)) 37 (ix ((an2 X N L) 40 (ix i))) i) ((an2 X N L) 40 (ix i)) i (by assumption) (by assumption)) (xe_2 G _) rfl ml_X8_257 co_X3_place im_X3_place se_X3_place in_X3 hy_X3_place (by decide) (by decide) (Nat.le_of_ble_eq_true rfl) dX8_anew_119 rfl (kxv ?_)
                  refine x_eqX (X' := (ux (ux (ux (sr (sr (sr (an2 X N L) 37 (recB (an2 X N L 40) (X 37) j)) 20 (recF (an2 X N L 40) (X 20) j)) 13 (recB (an2 X N L 40) (X 13) j)) 37 (ix ((an2 X N L) 40 (ix i))) i) 20 (ix i) ((an2 X N L) 40 (ix i))) 13 (ix ((an2 X N L) 40 (ix i))) i)) rfl ?_
                  refine x_iinc C (pc := 122) (v := i + 1) dX8_anew_122 1 [(0, .ref (G.1 0)), (1, .int (i + 1)), (2, .int ((an2 X N L) 40 (ix i)))] [1, 0, 2] rfl (by rfl) (by decide) rfl ?_
                  refine x_goto C (pc := 125) (tgt := 82) dX8_anew_125 (by decide) ?_
                  refine x_sub [(0, .ref (G.1 0)), (1, .int (i + 1))] [0, 1] rfl ?_
                  refine x_eqX (X' := (sr (sr (sr (an2 X N L) 37 (recB (an2 X N L 40) (X 37) (j + 1))) 20 (recF (an2 X N L 40) (X 20) (j + 1))) 13 (recB (an2 X N L 40) (X 13) (j + 1)))) (by rw [hix, hi, ux_srn _ _ _ _ (by decide), ux_srn _ _ _ _ (by decide), ux_srs, ux_srn _ _ _ _ (by decide), ux_srs, ux_srs, recF_step, recB, recB]) ?_
                  exact ih82 (i + 1) (j + 1) (by omega) (by rw [hi]; exact nI_1 j) (by omega)
            refine x_eqX (X' := (sr (sr (sr (an2 X N L) 37 (recB (an2 X N L 40) (X 37) 0)) 20 (recF (an2 X N L 40) (X 20) 0)) 13 (recB (an2 X N L 40) (X 13) 0))) (an3_0 X N L) ?_
            exact L82 _ 0 0 (Nat.zero_le _) rfl (Nat.lt_succ_self _)
          · have hxN : ix (X 102 0) = N := by rw [hS]; exact ix_nI (by omega)
            have hys : (Y 113 0) = nI N := by rw [hY, mvL_row _ _ _ (by decide) (by decide) (by decide)]; exact hS
            have hlt : j < N := ltN hi hys c51 (by omega)
            have hin : vp_in i 16 := by rw [hi]; exact vp_in_nI (by omega) (by decide)
            have hix : ix i = j := by rw [hi]; exact ix_nI (by omega)
            have hyf : (Y 35) = recF (X 20) (X 35) N := by rw [hY, mvL_row _ _ _ (by decide) (by decide) (by decide), ← hxN]; rfl
            have hyb : (Y 35) (ix i) = (X 20) j := by rw [hyf, hix]; simp only [recF]; rw [if_pos hlt]
            have hinw : vp_in ((Y 35) (ix i)) 16 := by rw [hyb]; exact hB j hlt
            have hyL : (Y 114 0) = nI L := by rw [hY, mvL_row _ _ _ (by decide) (by decide) (by decide)]; exact hL
            refine x_aload_n C (pc := 54) dX8_anew_54 0 rfl rfl ?_
            refine x_aload_n C (pc := 55) dX8_anew_55 0 rfl rfl ?_
            refine xG_writing C fl_X8_54 dX8_anew_56 ?_
            refine xG_former C fl_X8_242 dX8_anew_59 ?_
            refine x_iload_n C (pc := 62) dX8_anew_62 1 rfl rfl ?_
            refine xL_former C dX8_anew_63 (by assumption) ?_
            refine x_callVv C (pc := 64) [.int (Y 35 (ix i))] (fun l D => c_X8_moveByCustom l D G L Y (Y 35 (ix i)) hinw hyL hL12) (xe_0 G _) rfl ml_X8_245 co_X8_moveByCustom im_X8_moveByCustom se_X8_moveByCustom in_X8 hy_X8_moveByCustom (by decide) (by decide) (Nat.le_of_ble_eq_true rfl) dX8_anew_64 rfl (kxv ?_)
            refine x_iinc C (pc := 67) (v := i + 1) dX8_anew_67 1 [(0, .ref (G.1 0)), (1, .int (i + 1))] [1, 0] rfl (by rfl) (by decide) rfl ?_
            refine x_goto C (pc := 70) (tgt := 43) dX8_anew_70 (by decide) ?_
            exact ih43 (s_move Y (Y 35 (ix i)) L) (i + 1) (j + 1) (by omega) (by rw [hi]; exact nI_1 j) (by rw [hyb, mvL, ← hY]) (by omega)
      exact L43 _ (s_X7_recall X (X 112 0)) 0 0 (Nat.zero_le _) rfl rfl (Nat.lt_succ_self _)
    · refine x_bipush C (pc := 20) (v := (-4)) dX8_anew_20 (by decide) ?_
      exact ret (-4) X 22 _ dX8_anew_22 ⟨by unfold v_anew; (repeat (first | rw [if_pos (by assumption)] | rw [if_neg (by assumption)])) <;> first | rfl , by unfold s_anew; (repeat (first | rw [if_pos (by assumption)] | rw [if_neg (by assumption)])) <;> first | rfl ⟩
theorem bs_0 (X : St) (b : Int32) (L : Nat) : X = sr X 41 (bsA X b L 0) := by
  rw [bsA, sr_self]
theorem bs1_aside (X : St) (b : Int32) (N L : Nat) : bs1 X b N L = sr (bs1 X b N L) 39 (recB (bs1 X b N L 40) (X 39) 0) := by
  rw [recB]
  exact (sr_self (bs1 X b N L) 39).symm

set_option maxHeartbeats 4000000 in
set_option maxRecDepth 100000 in
theorem c_X8_beside (l : Launch) (D : va_G) (G : Gx) (B N L : Nat) (X : St) (b : Int32) (hBt : (X 107 0) = nI B) (hB120 : B ≤ 120) (hN : (X 113 0) = nI N) (hN16 : N ≤ 16) (hF : ∀ r, r < N → vp_in ((X 35) r) 16) (hL : (X 114 0) = nI L) (hL12 : L ≤ 12) : Ci l yX8_beside cX8_beside 5 (some .int) 2 (xw G) D (tyG G) [.ref (G.1 0), .int b] X (fun r X1 => r = (v_beside X b N L) ∧ X1 = (s_beside X b N L)) := by
  refine m_i (nL := 5) (lv := [(0, .ref (G.1 0)), (1, .int b)]) [.ref (G.1 0), .int b] RX8 rfl (xw_adr G) (by decide +kernel) (Nat.le_of_ble_eq_true rfl) rfl (fun K C ret => ?_)
  refine x_aload_n C (pc := 0) dX8_beside_0 0 rfl rfl ?_
  refine xG_tourney C fl_X8_33 dX8_beside_1 ?_
  refine x_iload_n C (pc := 4) dX8_beside_4 1 rfl rfl ?_
  refine x_callVi C (pc := 5) [.int b] (fun l D => c_X6_knows l D G X b ) (xe_4 G _) rfl ml_X8_206 co_X6_knows im_X6_knows se_X6_knows in_X6 hy_X6_knows (by decide) (by decide) (Nat.le_of_ble_eq_true rfl) dX8_beside_5 rfl (kx ?_)
  refine x_if_ne C (pc := 8) (tgt := 13) dX8_beside_8 (by decide) (fun c8 => ?_) (fun c8 => ?_)
  · have hb : vp_in b 120 := bknows_in c8 hBt hB120
    refine x_aload_n C (pc := 13) dX8_beside_13 0 rfl rfl ?_
    refine xG_writing C fl_X8_54 dX8_beside_14 ?_
    refine xG_fresh C fl_X8_80 dX8_beside_17 ?_
    refine x_if_ne C (pc := 20) (tgt := 26) dX8_beside_20 (by decide) (fun c20 => ?_) (fun c20 => ?_)
    · refine x_iconst C (pc := 26) (v := 0) dX8_beside_26 (by decide) ?_
      refine x_istore_n C (pc := 27) dX8_beside_27 [(0, .ref (G.1 0)), (1, .int b), (2, .int 0)] [1, 2, 0] rfl (by decide) rfl ?_
      have L28 : ∀ (n : Nat) (i : Int32) (j : Nat), (j ≤ N) → (i = nI j) → (N - j) < n → WX K (xw G) 5 (sr X 41 (bsA X b L j)) 28 [(0, .ref (G.1 0)), (1, .int b), (2, .int i)] [] := by
        intro n
        induction n with
        | zero => intro i j hj hi hmu28; exact absurd hmu28 (Nat.not_lt_zero _)
        | succ n28 ih28 =>
          intro i j hj hi hmu28
          refine x_iload_n C (pc := 28) dX8_beside_28 2 rfl rfl ?_
          refine x_aload_n C (pc := 29) dX8_beside_29 0 rfl rfl ?_
          refine xG_writing C fl_X8_54 dX8_beside_30 ?_
          refine xG_wstand C fl_X8_241 dX8_beside_33 ?_
          refine x_top (y := (X 113 0)) rfl ?_
          refine x_icmp_ge C (pc := 36) (tgt := 103) dX8_beside_36 (by decide) (fun c36 => ?_) (fun c36 => ?_)
          · have hge : N ≤ j := geN hi hN c36 (by omega)
            have hjN : j = N := by omega
            refine x_aload_n C (pc := 103) dX8_beside_103 0 rfl rfl ?_
            refine xG_writing C fl_X8_54 dX8_beside_104 ?_
            refine x_callVv C (pc := 107) [] (fun l D => c_X7_arrange l D G N (sr X 41 (bsA X b L j)) hN16 hN hF) (xe_7 G _) rfl ml_X8_248 co_X7_arrange im_X7_arrange se_X7_arrange in_X7 hy_X7_arrange (by decide) (by decide) (Nat.le_of_ble_eq_true rfl) dX8_beside_107 rfl (kxv ?_)
            refine x_eqX (X' := (bs1 X b N L)) (by rw [hjN]; rfl) ?_
            refine x_iconst C (pc := 110) (v := 0) dX8_beside_110 (by decide) ?_
            refine x_istore_n C (pc := 111) dX8_beside_111 [(0, .ref (G.1 0)), (1, .int b), (2, .int 0)] [1, 2, 0] rfl (by decide) rfl ?_
            have L112 : ∀ (n : Nat) (i : Int32) (j : Nat), (j ≤ N) → (i = nI j) → (N - j) < n → WX K (xw G) 5 (sr (bs1 X b N L) 39 (recB (bs1 X b N L 40) (X 39) j)) 112 [(0, .ref (G.1 0)), (1, .int b), (2, .int i)] [] := by
              intro n
              induction n with
              | zero => intro i j hj hi hmu112; exact absurd hmu112 (Nat.not_lt_zero _)
              | succ n112 ih112 =>
                intro i j hj hi hmu112
                refine x_iload_n C (pc := 112) dX8_beside_112 2 rfl rfl ?_
                refine x_aload_n C (pc := 113) dX8_beside_113 0 rfl rfl ?_
                refine xG_writing C fl_X8_54 dX8_beside_114 ?_
                refine xG_wstand C fl_X8_241 dX8_beside_117 ?_
                refine x_top (y := ((bs1 X b N L) 113 0)) rfl ?_
                refine x_icmp_ge C (pc := 120) (tgt := 147) dX8_beside_120 (by decide) (fun c120 => ?_) (fun c120 => ?_)
                · have hge : N ≤ j := geN hi hN c120 (by omega)
                  have hjN2 : j = N := by omega
                  refine x_eqX (X' := (sr (bs1 X b N L) 39 (recB (bs1 X b N L 40) (X 39) N))) (by rw [hjN2]) ?_
                  refine x_aload_n C (pc := 147) dX8_beside_147 0 rfl rfl ?_
                  refine xG_writing C fl_X8_54 dX8_beside_148 ?_
                  refine x_aload_n C (pc := 151) dX8_beside_151 0 rfl rfl ?_
                  refine xG_writing C fl_X8_54 dX8_beside_152 ?_
                  refine xG_aside C fl_X8_291 dX8_beside_155 ?_
                  refine x_callVi C (pc := 158) [.ref (G.1 39)] (fun l D => c_X7_differing_39 l D G N (sr (bs1 X b N L) 39 (recB (bs1 X b N L 40) (X 39) N)) hN16 hN hF) (xe_7 G _) rfl ml_X8_263 co_X7_differing im_X7_differing se_X7_differing in_X7 hy_X7_differing (by decide) (by decide) (Nat.le_of_ble_eq_true rfl) dX8_beside_158 rfl (kx ?_)
                  exact ret (difL ((sr (bs1 X b N L) 39 (recB (bs1 X b N L 40) (X 39) N)) 35) ((sr (bs1 X b N L) 39 (recB (bs1 X b N L 40) (X 39) N)) 39) ((sr (bs1 X b N L) 39 (recB (bs1 X b N L 40) (X 39) N)) 37) N) (sr (bs1 X b N L) 39 (recB (bs1 X b N L 40) (X 39) N)) 161 _ dX8_beside_161 ⟨by unfold v_beside; rw [if_neg c8, if_neg c20]; rfl, by unfold s_beside; rw [if_neg c8, if_neg c20]⟩
                · have hlt : j < N := ltN hi hN c120 (by omega)
                  have hin : vp_in i 16 := by rw [hi]; exact vp_in_nI (by omega) (by decide)
                  have hix : ix i = j := by rw [hi]; exact ix_nI (by omega)
                  have hino : vp_in (bs1 X b N L 40 (ix i)) 16 := by rw [hix]; unfold bs1; rw [sr_s]; exact arrL_in N hF j hlt
                  refine x_aload_n C (pc := 123) dX8_beside_123 0 rfl rfl ?_
                  refine xG_writing C fl_X8_54 dX8_beside_124 ?_
                  refine xG_aside C fl_X8_291 dX8_beside_127 ?_
                  refine x_aload_n C (pc := 130) dX8_beside_130 0 rfl rfl ?_
                  refine xG_writing C fl_X8_54 dX8_beside_131 ?_
                  refine xG_order C fl_X8_251 dX8_beside_134 ?_
                  refine x_iload_n C (pc := 137) dX8_beside_137 2 rfl rfl ?_
                  refine xL_order C dX8_beside_138 (by assumption) ?_
                  refine x_top (y := ((bs1 X b N L) 40 (ix i))) rfl ?_
                  refine x_iload_n C (pc := 139) dX8_beside_139 2 rfl rfl ?_
                  refine xS_aside C dX8_beside_140 (by assumption) ?_
                  refine x_iinc C (pc := 141) (v := i + 1) dX8_beside_141 2 [(0, .ref (G.1 0)), (1, .int b), (2, .int (i + 1))] [1, 2, 0] rfl (by rfl) (by decide) rfl ?_
                  refine x_goto C (pc := 144) (tgt := 112) dX8_beside_144 (by decide) ?_
                  refine x_eqX (X' := (sr (bs1 X b N L) 39 (recB (bs1 X b N L 40) (X 39) (j + 1)))) (by rw [hix, hi, ux_srs, recB]) ?_
                  exact ih112 (i + 1) (j + 1) (by omega) (by rw [hi]; exact nI_1 j) (by omega)
            refine x_eqX (X' := (sr (bs1 X b N L) 39 (recB (bs1 X b N L 40) (X 39) 0))) (bs1_aside X b N L) ?_
            exact L112 _ 0 0 (Nat.zero_le _) rfl (Nat.lt_succ_self _)
          · have hlt : j < N := ltN hi hN c36 (by omega)
            have hin : vp_in i 16 := by rw [hi]; exact vp_in_nI (by omega) (by decide)
            have hix : ix i = j := by rw [hi]; exact ix_nI (by omega)
            have hinw : vp_in ((X 35) (ix i)) 16 := by rw [hix]; exact hF j hlt
            refine x_aload_n C (pc := 39) dX8_beside_39 0 rfl rfl ?_
            refine xG_writing C fl_X8_54 dX8_beside_40 ?_
            refine xG_former C fl_X8_242 dX8_beside_43 ?_
            refine x_iload_n C (pc := 46) dX8_beside_46 2 rfl rfl ?_
            refine xL_former C dX8_beside_47 (by assumption) ?_
            refine x_top (y := (X 35 (ix i))) rfl ?_
            refine x_istore_n C (pc := 48) dX8_beside_48 [(0, .ref (G.1 0)), (1, .int b), (2, .int i), (3, .int (X 35 (ix i)))] [1, 2, 3, 0] rfl (by decide) rfl ?_
            refine x_aload_n C (pc := 49) dX8_beside_49 0 rfl rfl ?_
            refine xG_custom C fl_X8_47 dX8_beside_50 ?_
            refine x_aload_n C (pc := 53) dX8_beside_53 0 rfl rfl ?_
            refine x_iload_n C (pc := 54) dX8_beside_54 3 rfl rfl ?_
            refine x_iload_n C (pc := 55) dX8_beside_55 1 rfl rfl ?_
            refine x_callVi C (pc := 56) [.int (X 35 (ix i)), .int b] (fun l D => c_X8_scoreWithout l D G (sr X 41 (bsA X b L j)) (X 35 (ix i)) b hinw hb) (xe_0 G _) rfl ml_X8_273 co_X8_scoreWithout im_X8_scoreWithout se_X8_scoreWithout in_X8 hy_X8_scoreWithout (by decide) (by decide) (Nat.le_of_ble_eq_true rfl) dX8_beside_56 rfl (kx ?_)
            refine x_top (y := (v_sw X (X 35 (ix i)) b)) rfl ?_
            refine x_aload_n C (pc := 59) dX8_beside_59 0 rfl rfl ?_
            refine xG_writing C fl_X8_54 dX8_beside_60 ?_
            refine xG_linesThen C fl_X8_276 dX8_beside_63 ?_
            refine x_top (y := (X 114 0)) rfl ?_
            refine x_callVi C (pc := 66) [.int (v_sw X (X 35 (ix i)) b), .int (X 114 0)] (fun l D => c_X0_lineFor l D G L (sr X 41 (bsA X b L j)) (v_sw X (X 35 (ix i)) b) (X 114 0) hL12 hL) (xe_6 G _) rfl ml_X8_279 co_X0_lineFor im_X0_lineFor se_X0_lineFor in_X0 hy_X0_lineFor (by decide) (by decide) (Nat.le_of_ble_eq_true rfl) dX8_beside_66 rfl (kx ?_)
            refine x_top (y := (lfr (X 32) (X 33) (v_sw X (X 35 (ix i)) b) L 0)) rfl ?_
            refine x_istore C (pc := 69) dX8_beside_69 [(0, .ref (G.1 0)), (1, .int b), (2, .int i), (3, .int (X 35 (ix i))), (4, .int (lfr (X 32) (X 33) (v_sw X (X 35 (ix i)) b) L 0))] [1, 2, 3, 4, 0] (by decide) rfl ?_
            refine x_aload_n C (pc := 71) dX8_beside_71 0 rfl rfl ?_
            refine xG_writing C fl_X8_54 dX8_beside_72 ?_
            refine x_iload_n C (pc := 75) dX8_beside_75 3 rfl rfl ?_
            refine x_aload_n C (pc := 76) dX8_beside_76 0 rfl rfl ?_
            refine xG_custom C fl_X8_47 dX8_beside_77 ?_
            refine x_iload C (pc := 80) dX8_beside_80 4 rfl ?_
            refine x_aload_n C (pc := 82) dX8_beside_82 0 rfl rfl ?_
            refine xG_roster C fl_X8_19 dX8_beside_83 ?_
            refine xG_kind C fl_X8_282 dX8_beside_86 ?_
            refine x_iload_n C (pc := 89) dX8_beside_89 3 rfl rfl ?_
            refine xL_kind C dX8_beside_90 (by assumption) ?_
            refine x_top (y := (X 10 (ix (X 35 (ix i))))) rfl ?_
            refine x_callVi C (pc := 91) [.int (lfr (X 32) (X 33) (v_sw X (X 35 (ix i)) b) L 0), .int (X 10 (ix (X 35 (ix i))))] (fun l D => c_X0_steps l D G (sr X 41 (bsA X b L j)) (lfr (X 32) (X 33) (v_sw X (X 35 (ix i)) b) L 0) (X 10 (ix (X 35 (ix i)))) (lfr_vin hL12)) (xe_6 G _) rfl ml_X8_285 co_X0_steps im_X0_steps se_X0_steps in_X0 hy_X0_steps (by decide) (by decide) (Nat.le_of_ble_eq_true rfl) dX8_beside_91 rfl (kx ?_)
            refine x_top (y := (v_bst X (X 35 (ix i)) b L)) rfl ?_
            refine x_callVv C (pc := 94) [.int (X 35 (ix i)), .int (v_bst X (X 35 (ix i)) b L)] (fun l D => c_X7_aimAt l D G (sr X 41 (bsA X b L j)) (X 35 (ix i)) (v_bst X (X 35 (ix i)) b L) hinw) (xe_7 G _) rfl ml_X8_288 co_X7_aimAt im_X7_aimAt se_X7_aimAt in_X7 hy_X7_aimAt (by decide) (by decide) (Nat.le_of_ble_eq_true rfl) dX8_beside_94 rfl (kxv ?_)
            refine x_eqX (X' := (ux (sr X 41 (bsA X b L j)) 41 (ix (X 35 (ix i))) (2 * ((X 36 (ix (X 35 (ix i)))) - (v_bst X (X 35 (ix i)) b L)) - v_half (v_bst X (X 35 (ix i)) b L)))) rfl ?_
            refine x_iinc C (pc := 97) (v := i + 1) dX8_beside_97 2 [(0, .ref (G.1 0)), (1, .int b), (2, .int (i + 1)), (3, .int (X 35 (ix i))), (4, .int (lfr (X 32) (X 33) (v_sw X (X 35 (ix i)) b) L 0))] [1, 2, 0, 3, 4] rfl (by rfl) (by decide) rfl ?_
            refine x_goto C (pc := 100) (tgt := 28) dX8_beside_100 (by decide) ?_
            refine x_sub [(0, .ref (G.1 0)), (1, .int b), (2, .int (i + 1))] [0, 1, 2] rfl ?_
            refine x_eqX (X' := (sr X 41 (bsA X b L (j + 1)))) (by rw [hix, ux_srs, bsA]) ?_
            exact ih28 (i + 1) (j + 1) (by omega) (by rw [hi]; exact nI_1 j) (by omega)
      refine x_eqX (X' := (sr X 41 (bsA X b L 0))) (bs_0 X b L) ?_
      exact L28 _ 0 0 (Nat.zero_le _) rfl (Nat.lt_succ_self _)
    · refine x_bipush C (pc := 23) (v := (-4)) dX8_beside_23 (by decide) ?_
      exact ret (-4) X 25 _ dX8_beside_25 ⟨by unfold v_beside; (repeat (first | rw [if_pos (by assumption)] | rw [if_neg (by assumption)])) <;> first | rfl , by unfold s_beside; (repeat (first | rw [if_pos (by assumption)] | rw [if_neg (by assumption)])) <;> first | rfl ⟩
  · refine x_iconst C (pc := 11) (v := (-1)) dX8_beside_11 (by decide) ?_
    exact ret (-1) X 12 _ dX8_beside_12 ⟨by unfold v_beside; (repeat (first | rw [if_pos (by assumption)] | rw [if_neg (by assumption)])) <;> first | rfl , by unfold s_beside; (repeat (first | rw [if_pos (by assumption)] | rw [if_neg (by assumption)])) <;> first | rfl ⟩
