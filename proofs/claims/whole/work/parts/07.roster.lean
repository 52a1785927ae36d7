theorem tsw (x : Int32) (hi : Int) (h0 : -1 ≤ hi) : (x.toInt < 0 ∨ hi < x.toInt) ∨ ∃ j : Nat, (j : Int) ≤ hi ∧ x.toInt = (j : Int) := by
  by_cases h : x.toInt < 0 ∨ hi < x.toInt
  · exact Or.inl h
  · exact Or.inr ⟨x.toInt.toNat, by omega, by omega⟩
theorem sw_eq {x : Int32} {n : Nat} (h : x.toInt = ((n : Nat) : Int)) (hn : n < 2 ^ 31) : x = nI n := by
  apply Int32.toInt_inj.mp
  rw [h, nI_toInt hn]
theorem sw_ne {x : Int32} {hi : Int} (h : x.toInt < 0 ∨ hi < x.toInt) (n : Nat) (hn : (n : Int) ≤ hi) (hb : n < 2 ^ 31) : x ≠ nI n := by
  intro e
  rw [e, nI_toInt hb] at h
  omega
theorem in_of {x : Int32} {n : Nat} (h0 : ¬ x < 0) (h1 : ¬ nI n ≤ x) (hn : n < 2 ^ 31) : vp_in x n := by
  rcases pk_ix x hn with h | h | ⟨j, hj, rfl⟩
  · exact absurd h h0
  · exact absurd h h1
  · exact vp_in_nI hj hn
theorem in_lt {x y : Int32} {n : Nat} (h0 : ¬ x < 0) (h1 : ¬ y ≤ x) (hy : y ≤ nI n) (hn : n < 2 ^ 31) : vp_in x n := by
  refine in_of h0 (fun h => h1 (Int32.le_trans hy h)) hn
theorem nb0 : narrow .boolean (.int 0) = .int 0 := rfl
theorem nb1 : narrow .boolean (.int 1) = .int 1 := rfl
theorem nz0 : vp_nar .boolean 0 = 0 := rfl
theorem nz1 : vp_nar .boolean 1 = 1 := rfl
-- Log
def s_X2_found (X : St) (what : Int32) : St := ux (ux X 100 0 what) 9 (ix what) ((X 9) (ix what) + 1)
-- Roster
def v_X3_knows (X : St) (w : Int32) : Int32 := if w < 0 then 0 else if (X 101 0) ≤ w then 0 else 1
def v_X3_isOf (X : St) (w asked : Int32) : Int32 := if asked = 0 then 1 else if (X 10) (ix w) = asked then 1 else 0
def s_X3_place (X : St) (w rung : Int32) : St := ux (ux X 20 (ix rung) w) 13 (ix w) rung
def v_X3_fact (X : St) (w what : Int32) : Int32 := if what = 0 then (X 10) (ix w) else if what = 1 then (X 11) (ix w) else if what = 2 then (X 12) (ix w) else if what = 3 then (X 13) (ix w) else if what = 4 then (X 14) (ix w) else if what = 5 then (X 15) (ix w) else (X 16) (ix w)
set_option maxHeartbeats 4000000 in
set_option maxRecDepth 100000 in
theorem c_X2_found (l : Launch) (D : va_G) (G : Gx) (X : St) (what : Int32) (hw : vp_in what 6) : Ci l yX2_found cX2_found 2 (some .int) 0 (xw G) D (tyG G) [.ref (G.1 1), .int what] X (fun r X1 => r = (-3) ∧ X1 = (s_X2_found X what)) := by
  refine m_i (nL := 2) (lv := [(0, .ref (G.1 1)), (1, .int what)]) [.ref (G.1 1), .int what] RX2 rfl (xw_adr G) (by decide +kernel) (Nat.le_of_ble_eq_true rfl) rfl (fun K C ret => ?_)
  refine x_aload_n C (pc := 0) dX2_found_0 0 rfl rfl ?_
  refine x_iload_n C (pc := 1) dX2_found_1 1 rfl rfl ?_
  refine xP_latest C fl_X2_15 (v := what) dX2_found_2 ?_
  refine x_aload_n C (pc := 5) dX2_found_5 0 rfl rfl ?_
  refine xG_times C fl_X2_9 dX2_found_6 ?_
  refine x_iload_n C (pc := 9) dX2_found_9 1 rfl rfl ?_
  refine x_dup2 C (pc := 10) dX2_found_10 rfl rfl ?_
  refine xL_times C dX2_found_11 (by assumption) ?_
  refine x_top (y := (X 9 (ix what))) rfl ?_
  refine x_iconst C (pc := 12) (v := 1) dX2_found_12 (by decide) ?_
  refine x_iadd C (pc := 13) dX2_found_13 ?_
  refine xS_times C dX2_found_14 (by assumption) ?_
  refine x_bipush C (pc := 15) (v := (-3)) dX2_found_15 (by decide) ?_
  exact ret (-3) (ux (ux X 100 0 what) 9 (ix what) ((X 9 (ix what)) + 1)) 17 _ dX2_found_17 ⟨rfl, rfl⟩
set_option maxHeartbeats 4000000 in
set_option maxRecDepth 100000 in
theorem c_X3_knows (l : Launch) (D : va_G) (G : Gx) (X : St) (w : Int32) : Ci l yX3_knows cX3_knows 2 (some .boolean) 0 (xw G) D (tyG G) [.ref (G.1 2), .int w] X (fun r X1 => r = (v_X3_knows X w) ∧ X1 = X) := by
  refine m_z (nL := 2) (lv := [(0, .ref (G.1 2)), (1, .int w)]) [.ref (G.1 2), .int w] RX3 rfl (xw_adr G) (by decide +kernel) (Nat.le_of_ble_eq_true rfl) rfl (fun K C ret => ?_)
  refine x_iload_n C (pc := 0) dX3_knows_0 1 rfl rfl ?_
  refine x_if_lt C (pc := 1) (tgt := 16) dX3_knows_1 (by decide) (fun c1 => ?_) (fun c1 => ?_)
  · refine x_iconst C (pc := 16) (v := 0) dX3_knows_16 (by decide) ?_
    exact ret 0 X 17 _ dX3_knows_17 rfl ⟨by simp [v_X3_knows, *], rfl⟩
  · refine x_iload_n C (pc := 4) dX3_knows_4 1 rfl rfl ?_
    refine x_aload_n C (pc := 5) dX3_knows_5 0 rfl rfl ?_
    refine xG_ever C fl_X3_46 dX3_knows_6 ?_
    refine x_icmp_ge C (pc := 9) (tgt := 16) dX3_knows_9 (by decide) (fun c9 => ?_) (fun c9 => ?_)
    · refine x_iconst C (pc := 16) (v := 0) dX3_knows_16 (by decide) ?_
      exact ret 0 X 17 _ dX3_knows_17 rfl ⟨by simp [v_X3_knows, *], rfl⟩
    · refine x_iconst C (pc := 12) (v := 1) dX3_knows_12 (by decide) ?_
      refine x_goto C (pc := 13) (tgt := 17) dX3_knows_13 (by decide) ?_
      exact ret 1 X 17 _ dX3_knows_17 rfl ⟨by simp [v_X3_knows, *], rfl⟩
set_option maxHeartbeats 4000000 in
set_option maxRecDepth 100000 in
theorem c_X3_isOf (l : Launch) (D : va_G) (G : Gx) (X : St) (w : Int32) (asked : Int32) (hw : vp_in w 16) : Ci l yX3_isOf cX3_isOf 3 (some .boolean) 0 (xw G) D (tyG G) [.ref (G.1 2), .int w, .int asked] X (fun r X1 => r = (v_X3_isOf X w asked) ∧ X1 = X) := by
  refine m_z (nL := 3) (lv := [(0, .ref (G.1 2)), (1, .int w), (2, .int asked)]) [.ref (G.1 2), .int w, .int asked] RX3 rfl (xw_adr G) (by decide +kernel) (Nat.le_of_ble_eq_true rfl) rfl (fun K C ret => ?_)
  refine x_iload_n C (pc := 0) dX3_isOf_0 2 rfl rfl ?_
  refine x_if_eq C (pc := 1) (tgt := 14) dX3_isOf_1 (by decide) (fun c1 => ?_) (fun c1 => ?_)
  · refine x_iconst C (pc := 14) (v := 1) dX3_isOf_14 (by decide) ?_
    refine x_goto C (pc := 15) (tgt := 19) dX3_isOf_15 (by decide) ?_
    exact ret 1 X 19 _ dX3_isOf_19 rfl ⟨by simp [v_X3_isOf, *], rfl⟩
  · refine x_aload_n C (pc := 4) dX3_isOf_4 0 rfl rfl ?_
    refine xG_kind C fl_X3_9 dX3_isOf_5 ?_
    refine x_iload_n C (pc := 8) dX3_isOf_8 1 rfl rfl ?_
    refine xL_kind C dX3_isOf_9 (by assumption) ?_
    refine x_iload_n C (pc := 10) dX3_isOf_10 2 rfl rfl ?_
    refine x_icmp_ne C (pc := 11) (tgt := 18) dX3_isOf_11 (by decide) (fun c11 => ?_) (fun c11 => ?_)
    · refine x_iconst C (pc := 18) (v := 0) dX3_isOf_18 (by decide) ?_
      exact ret 0 X 19 _ dX3_isOf_19 rfl ⟨by simp [v_X3_isOf, *], rfl⟩
    · refine x_iconst C (pc := 14) (v := 1) dX3_isOf_14 (by decide) ?_
      refine x_goto C (pc := 15) (tgt := 19) dX3_isOf_15 (by decide) ?_
      exact ret 1 X 19 _ dX3_isOf_19 rfl ⟨by simp [v_X3_isOf, *], rfl⟩
set_option maxHeartbeats 4000000 in
set_option maxRecDepth 100000 in
theorem c_X3_place (l : Launch) (D : va_G) (G : Gx) (X : St) (w : Int32) (rung : Int32) (hw : vp_in w 16) (hr : vp_in rung 16) : Cv l yX3_place cX3_place 3 none 0 (xw G) D (tyG G) [.ref (G.1 2), .int w, .int rung] X (fun X1 => X1 = (s_X3_place X w rung)) := by
  refine m_v (nL := 3) (lv := [(0, .ref (G.1 2)), (1, .int w), (2, .int rung)]) [.ref (G.1 2), .int w, .int rung] RX3 rfl (xw_adr G) (by decide +kernel) (Nat.le_of_ble_eq_true rfl) rfl (fun K C ret => ?_)
  refine x_aload_n C (pc := 0) dX3_place_0 0 rfl rfl ?_
  refine xG_board C fl_X3_43 dX3_place_1 ?_
  refine x_iload_n C (pc := 4) dX3_place_4 2 rfl rfl ?_
  refine x_iload_n C (pc := 5) dX3_place_5 1 rfl rfl ?_
  refine xS_board C dX3_place_6 (by assumption) ?_
  refine x_aload_n C (pc := 7) dX3_place_7 0 rfl rfl ?_
  refine xG_rungOf C fl_X3_21 dX3_place_8 ?_
  refine x_iload_n C (pc := 11) dX3_place_11 1 rfl rfl ?_
  refine x_iload_n C (pc := 12) dX3_place_12 2 rfl rfl ?_
  refine xS_rungOf C dX3_place_13 (by assumption) ?_
  exact ret (ux (ux X 20 (ix rung) w) 13 (ix w) rung) 14 _ dX3_place_14 rfl
set_option maxHeartbeats 4000000 in
set_option maxRecDepth 100000 in
theorem c_X3_fact (l : Launch) (D : va_G) (G : Gx) (X : St) (w : Int32) (what : Int32) (hw : vp_in w 16) : Ci l yX3_fact cX3_fact 3 (some .int) 0 (xw G) D (tyG G) [.ref (G.1 2), .int w, .int what] X (fun r X1 => r = (v_X3_fact X w what) ∧ X1 = X) := by
  refine m_i (nL := 3) (lv := [(0, .ref (G.1 2)), (1, .int w), (2, .int what)]) [.ref (G.1 2), .int w, .int what] RX3 rfl (xw_adr G) (by decide +kernel) (Nat.le_of_ble_eq_true rfl) rfl (fun K C ret => ?_)
  refine x_iload_n C (pc := 0) dX3_fact_0 2 rfl rfl ?_
  rcases tsw what 5 (by decide) with h1 | ⟨j1, hj1, h1⟩
  · refine x_tout C (pc := 1) (tgt := 82) dX3_fact_1 h1 (by decide) ?_
    have q1_0 : what ≠ 0 := sw_ne h1 0 (by decide) (by decide)
    have q1_1 : what ≠ 1 := sw_ne h1 1 (by decide) (by decide)
    have q1_2 : what ≠ 2 := sw_ne h1 2 (by decide) (by decide)
    have q1_3 : what ≠ 3 := sw_ne h1 3 (by decide) (by decide)
    have q1_4 : what ≠ 4 := sw_ne h1 4 (by decide) (by decide)
    have q1_5 : what ≠ 5 := sw_ne h1 5 (by decide) (by decide)
    refine x_aload_n C (pc := 82) dX3_fact_82 0 rfl rfl ?_
    refine xG_titles C fl_X3_30 dX3_fact_83 ?_
    refine x_iload_n C (pc := 86) dX3_fact_86 1 rfl rfl ?_
    refine xL_titles C dX3_fact_87 (by assumption) ?_
    exact ret (X 16 (ix w)) X 88 _ dX3_fact_88 ⟨by simp [v_X3_fact, *], rfl⟩
  · rcases (show j1 = 0 ∨ j1 = 1 ∨ j1 = 2 ∨ j1 = 3 ∨ j1 = 4 ∨ j1 = 5 by omega) with e1 | e1 | e1 | e1 | e1 | e1
    · subst e1
      have q1 : what = 0 := sw_eq h1 (by decide)
      refine x_tin C (pc := 1) (off := 39) (tgt := 40) dX3_fact_1 (by rw [h1]; decide) (by rw [h1]; decide) (by rw [h1]; rfl) (by decide) ?_
      refine x_aload_n C (pc := 40) dX3_fact_40 0 rfl rfl ?_
      refine xG_kind C fl_X3_9 dX3_fact_41 ?_
      refine x_iload_n C (pc := 44) dX3_fact_44 1 rfl rfl ?_
      refine xL_kind C dX3_fact_45 (by assumption) ?_
      exact ret (X 10 (ix w)) X 46 _ dX3_fact_46 ⟨by simp [v_X3_fact, *], rfl⟩
    · subst e1
      have q1 : what = 1 := sw_eq h1 (by decide)
      refine x_tin C (pc := 1) (off := 46) (tgt := 47) dX3_fact_1 (by rw [h1]; decide) (by rw [h1]; decide) (by rw [h1]; rfl) (by decide) ?_
      refine x_aload_n C (pc := 47) dX3_fact_47 0 rfl rfl ?_
      refine xG_stable C fl_X3_15 dX3_fact_48 ?_
      refine x_iload_n C (pc := 51) dX3_fact_51 1 rfl rfl ?_
      refine xL_stable C dX3_fact_52 (by assumption) ?_
      exact ret (X 11 (ix w)) X 53 _ dX3_fact_53 ⟨by simp [v_X3_fact, *], rfl⟩
    · subst e1
      have q1 : what = 2 := sw_eq h1 (by decide)
      refine x_tin C (pc := 1) (off := 53) (tgt := 54) dX3_fact_1 (by rw [h1]; decide) (by rw [h1]; decide) (by rw [h1]; rfl) (by decide) ?_
      refine x_aload_n C (pc := 54) dX3_fact_54 0 rfl rfl ?_
      refine xG_kin C fl_X3_18 dX3_fact_55 ?_
      refine x_iload_n C (pc := 58) dX3_fact_58 1 rfl rfl ?_
      refine xL_kin C dX3_fact_59 (by assumption) ?_
      exact ret (X 12 (ix w)) X 60 _ dX3_fact_60 ⟨by simp [v_X3_fact, *], rfl⟩
    · subst e1
      have q1 : what = 3 := sw_eq h1 (by decide)
      refine x_tin C (pc := 1) (off := 60) (tgt := 61) dX3_fact_1 (by rw [h1]; decide) (by rw [h1]; decide) (by rw [h1]; rfl) (by decide) ?_
      refine x_aload_n C (pc := 61) dX3_fact_61 0 rfl rfl ?_
      refine xG_rungOf C fl_X3_21 dX3_fact_62 ?_
      refine x_iload_n C (pc := 65) dX3_fact_65 1 rfl rfl ?_
      refine xL_rungOf C dX3_fact_66 (by assumption) ?_
      exact ret (X 13 (ix w)) X 67 _ dX3_fact_67 ⟨by simp [v_X3_fact, *], rfl⟩
    · subst e1
      have q1 : what = 4 := sw_eq h1 (by decide)
      refine x_tin C (pc := 1) (off := 67) (tgt := 68) dX3_fact_1 (by rw [h1]; decide) (by rw [h1]; decide) (by rw [h1]; rfl) (by decide) ?_
      refine x_aload_n C (pc := 68) dX3_fact_68 0 rfl rfl ?_
      refine xG_wins C fl_X3_24 dX3_fact_69 ?_
      refine x_iload_n C (pc := 72) dX3_fact_72 1 rfl rfl ?_
      refine xL_wins C dX3_fact_73 (by assumption) ?_
      exact ret (X 14 (ix w)) X 74 _ dX3_fact_74 ⟨by simp [v_X3_fact, *], rfl⟩
    · subst e1
      have q1 : what = 5 := sw_eq h1 (by decide)
      refine x_tin C (pc := 1) (off := 74) (tgt := 75) dX3_fact_1 (by rw [h1]; decide) (by rw [h1]; decide) (by rw [h1]; rfl) (by decide) ?_
      refine x_aload_n C (pc := 75) dX3_fact_75 0 rfl rfl ?_
      refine xG_losses C fl_X3_27 dX3_fact_76 ?_
      refine x_iload_n C (pc := 79) dX3_fact_79 1 rfl rfl ?_
      refine xL_losses C dX3_fact_80 (by assumption) ?_
      exact ret (X 15 (ix w)) X 81 _ dX3_fact_81 ⟨by simp [v_X3_fact, *], rfl⟩
