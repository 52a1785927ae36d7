
theorem in_ltc {x : Int32} {E n : Nat} (hE : x = nI E) (hb : E < 2 ^ 31) (h : x < nI n) (hn : n < 2 ^ 31) : vp_in x n := by
  rw [hE] at h ⊢
  exact vp_in_nI ((nI_ltI hb hn).mp h) hn
theorem in_lt2 {x y : Int32} {N n : Nat} (h0 : ¬ x < 0) (h1 : x < y) (hy : y = nI N) (hN : N ≤ n) (hn : n < 2 ^ 31) : vp_in x n := by
  obtain ⟨j, hj, rfl⟩ := nI_of h0
  rw [hy] at h1
  exact vp_in_nI (by have := (nI_ltI hj (by omega)).mp h1; omega) hn
theorem in_lt3 {x y : Int32} {n : Nat} (h0 : ¬ x < 0) (h1 : x < y) (hy : y ≤ nI n) (hn : n < 2 ^ 31) : vp_in x n := by
  obtain ⟨j, hj, rfl⟩ := nI_of h0
  exact vp_in_nI ((nI_ltI hj hn).mp (Int32.lt_of_lt_of_le h1 hy)) hn
def v_wrestler (X : St) (k s n : Int32) : Int32 := if v_isKind k = 0 then (-1) else if v_isGroup s = 0 then (-1) else if n = (-9) then (if (X 101 0) < 16 then (if (X 104 0) = 0 then (X 101 0) else (-4)) else (-2)) else if v_isGroup n = 0 then (-1) else (if (X 101 0) < 16 then (if (X 104 0) = 0 then (X 101 0) else (-4)) else (-2))
def s_wrestler (X : St) (k s n : Int32) : St := if v_isKind k = 0 then X else if v_isGroup s = 0 then X else if n = (-9) then (if (X 101 0) < 16 then (if (X 104 0) = 0 then s_X3_add (ux X 116 0 0) k s n else X) else X) else if v_isGroup n = 0 then X else (if (X 101 0) < 16 then (if (X 104 0) = 0 then s_X3_add (ux X 116 0 0) k s n else X) else X)
def v_leave (X : St) (w : Int32) : Int32 := if v_X3_knows X w = 0 then (-1) else if (X 104 0) = 0 then (if (X 18) (ix w) = 0 then (X 13) (ix w) else (-3)) else (-4)
def s_leave (X : St) (w : Int32) : St := if v_X3_knows X w = 0 then X else if (X 104 0) = 0 then (if (X 18) (ix w) = 0 then s_X3_remove (ux X 116 0 0) w (ix (X 102 0)) (ix ((X 13) (ix w))) else s_X2_found X 1) else X
def v_told (X : St) (w what : Int32) : Int32 := if what < 0 then (-1) else if what < 7 then (if v_ref X w = 0 then v_X3_fact X w what else v_ref X w) else (-1)
def s_told (X : St) (w what : Int32) : St := if what < 0 then X else if what < 7 then s_ref X w else X
def v_is (X : St) (w k : Int32) : Int32 := if v_isKind k = 0 then (-1) else if v_ref X w = 0 then (if v_X3_isOf X w k = 0 then 0 else 1) else v_ref X w
def s_is (X : St) (w k : Int32) : St := if v_isKind k = 0 then X else s_ref X w
def v_on (X : St) (r : Int32) : Int32 := if r < 0 then (-9) else if r < (X 102 0) then (X 20) (ix r) else (-9)
def v_mark (X : St) (w k : Int32) : Int32 := if v_isKind k = 0 then (-1) else if k = 0 then (-1) else if v_ref X w = 0 then (if v_X3_isOf X w k = 0 then (-3) else (X 17) (ix w)) else v_ref X w
def s_mark (X : St) (w k : Int32) : St := if v_isKind k = 0 then X else if k = 0 then X else if v_ref X w = 0 then (if v_X3_isOf X w k = 0 then s_X2_found X 3 else X) else s_ref X w
def v_sheet (s n : Int32) : Int32 := if v_isSheet s = 0 then (-1) else if n ≤ 16 then (if 0 ≤ n then n else (-3)) else (-1)
def s_sheet (X : St) (s n : Int32) : St := if v_isSheet s = 0 then X else if n ≤ 16 then (if 0 ≤ n then s_X4_blank X s n else s_X2_found X 5) else X
def v_lay (X : St) (s i : Int32) : Int32 := if v_isSheet s = 0 then (-1) else if v_X4_isMissing X s = 0 then (if i < 0 then (-3) else if i < (X 22) (ix s) then 1000 + X (43 + ix s) (ix i) else (-3)) else (-3)
def s_lay (X : St) (s i v : Int32) : St := if v_isSheet s = 0 then X else if v_X4_isMissing X s = 0 then (if i < 0 then s_X2_found X 2 else if i < (X 22) (ix s) then s_X4_replace X s i v.toInt8.toInt32 else s_X2_found X 2) else s_X2_found X 1
def v_tear (X : St) (s : Int32) : Int32 := if v_isSheet s = 0 then (-1) else if v_X4_isMissing X s = 0 then 1 else (-3)
def s_tear (X : St) (s : Int32) : St := if v_isSheet s = 0 then X else if v_X4_isMissing X s = 0 then ux X 22 (ix s) (-1) else s_X2_found X 1
def v_copy (X : St) (s i t j n : Int32) : Int32 := if v_isSheet s = 0 then (-1) else if v_isSheet t = 0 then (-1) else if v_X4_isMissing X s = 0 then (if v_X4_isMissing X t = 0 then (if v_X4_holds X s i n = 0 then (-3) else if v_X4_holds X t j n = 0 then (-3) else 1) else (-3)) else (-3)
def s_copy (X : St) (s i t j n : Int32) : St := if v_isSheet s = 0 then X else if v_isSheet t = 0 then X else if v_X4_isMissing X s = 0 then (if v_X4_isMissing X t = 0 then (if v_X4_holds X s i n = 0 then s_X2_found X 2 else if v_X4_holds X t j n = 0 then s_X2_found X 2 else sr X (43 + ix t) (va_cpy (X (43 + ix s)) (X (43 + ix t)) (ix i) (ix j) (ix n))) else s_X2_found X 1) else s_X2_found X 1
def v_prices (X : St) (s : Int32) : Int32 := if s = (-9) then (X 103 0) else if v_isSheet s = 0 then (-1) else if v_X4_isMissing X s = 0 then (X 103 0) else (-3)
def s_prices (X : St) (s : Int32) : St := if s = (-9) then ux X 103 0 s else if v_isSheet s = 0 then X else if v_X4_isMissing X s = 0 then ux X 103 0 s else s_X2_found X 1
def v_price (X : St) (n : Int32) : Int32 := if n < 0 then (-1) else if n ≤ 15 then v_X4_priceOf X n else (-1)
def v_meet (X : St) (d : Int32) : Int32 := if d < 1 then (-1) else if d ≤ 15 then (if (X 104 0) = 0 then (X 102 0) else (-4)) else (-1)
def s_meet (X : St) (d : Int32) : St := if d < 1 then X else if d ≤ 15 then (if (X 104 0) = 0 then ux (s_X5_clear (s_X3_clearScores (s_X6_begin X d))) 116 0 0 else X) else X
def v_absent (X : St) (w : Int32) : Int32 := if v_ref X w = 0 then (if (X 19) (ix w) = 0 then 0 else 1) else v_ref X w
def s_absent (X : St) (w a : Int32) : St := if v_ref X w = 0 then ux X 19 (ix w) (vp_nar .boolean a) else s_ref X w
def bars1 (X : St) (a b : Int32) : Int32 := if (X 11) (ix a) = (X 11) (ix b) then 0 ||| 1 else 0
def bars2 (X : St) (a b : Int32) : Int32 := if (X 12) (ix a) = (-9) then bars1 X a b else if (X 12) (ix a) = (X 12) (ix b) then bars1 X a b ||| 2 else bars1 X a b
def v_bars (X : St) (a b : Int32) : Int32 := if (X 104 0) = 0 then bars2 X a b else if v_X6_haveMet X a b = 0 then bars2 X a b else bars2 X a b ||| 4
def v_barred (X : St) (a b : Int32) : Int32 := if v_X3_knows X a = 0 then (-1) else if v_X3_knows X b = 0 then (-1) else if a = b then (-1) else if (X 18) (ix a) = 0 then (if (X 18) (ix b) = 0 then v_bars X a b else (-3)) else (-3)
def s_barred (X : St) (a b : Int32) : St := if v_X3_knows X a = 0 then X else if v_X3_knows X b = 0 then X else if a = b then X else if (X 18) (ix a) = 0 then (if (X 18) (ix b) = 0 then X else s_X2_found X 1) else s_X2_found X 1
def v_wonB (X : St) (b u : Int32) : Int32 := if u = 0 then (X 25) (ix b) else (X 24) (ix b)
def s_res3 (X : St) (b u : Int32) : St := ux (ux (ux X 26 (ix b) (v_wonB X b u)) 108 0 ((X 108 0) - 1)) 14 (ix (v_wonB X b u)) ((X 14) (ix (v_wonB X b u)) + 1)
def v_loser (X : St) (b u : Int32) : Int32 := v_X6_loserOf (s_res3 X b u) b
def v_result (X : St) (b : Int32) : Int32 := if v_X6_knows X b = 0 then (-1) else if (X 26) (ix b) = (-9) then 1 else (-4)
def s_result (X : St) (b u : Int32) : St := if v_X6_knows X b = 0 then X else if (X 26) (ix b) = (-9) then ux (s_res3 X b u) 15 (ix (v_loser X b u)) ((X 15) (ix (v_loser X b u)) + 1) else X
def v_bout (X : St) (b what : Int32) : Int32 := if v_X6_knows X b = 0 then (-1) else if what < 0 then (-1) else if what < 4 then v_X6_fact X b what else (-1)
def v_line (X : St) (lo hi up : Int32) : Int32 := if hi < lo then (-1) else if up < (-15) then (-1) else if up ≤ 15 then (if (X 112 0) < 12 then (X 112 0) + 1 - 1 else (-2)) else (-1)
def s_line (X : St) (lo hi up : Int32) : St := if hi < lo then X else if up < (-15) then X else if up ≤ 15 then (if (X 112 0) < 12 then s_X0_add X lo hi up else X) else X
def v_why (X : St) (w : Int32) : Int32 := if v_ref X w = 0 then (X 38) (ix w) else v_ref X w
def v_rungBeside (X : St) (w : Int32) : Int32 := if v_ref X w = 0 then (X 39) (ix w) else v_ref X w
def v_passed (X : St) (a b : Int32) : Int32 := if v_X3_knows X a = 0 then (-1) else if v_X3_knows X b = 0 then (-1) else if (X 18) (ix a) = 0 then (if (X 18) (ix b) = 0 then (if v_X7_overtook X a b = 0 then 0 else 1) else (-3)) else (-3)
def s_passed (X : St) (a b : Int32) : St := if v_X3_knows X a = 0 then X else if v_X3_knows X b = 0 then X else if (X 18) (ix a) = 0 then (if (X 18) (ix b) = 0 then X else s_X2_found X 1) else s_X2_found X 1
def v_meets (X : St) (a : Int32) : Int32 := if v_X5_goesOn X = 0 then (-9) else if a = 0 then (X 42) 0 else (X 42) 1
def v_tally (X : St) (what : Int32) : Int32 := if what = 0 then (X 101 0) else if what = 1 then (X 102 0) else if what = 2 then (X 106 0) else if what = 3 then (if (X 104 0) = 0 then 0 else (X 105 0)) else if what = 4 then (X 107 0) else if what = 5 then (X 108 0) else if what = 6 then (X 112 0) else if what = 7 then (X 115 0) else (-1)
def v_findings (X : St) (f : Int32) : Int32 := if f < 1 then (-1) else if f ≤ 5 then (X 9) (ix f) else (-1)
def s_crown (X : St) : St := if (X 117 0) = 1 then ux (ux X 119 0 ((X 42) 0)) 16 (ix ((X 42) 0)) ((X 16) (ix ((X 42) 0)) + 1) else X
theorem crown_left (X : St) : s_crown X 117 0 = (X 117 0) := by
  unfold s_crown
  by_cases h : (X 117 0) = 1
  · rw [if_pos h]; rfl
  · rw [if_neg h]
def v_wins (X : St) : Int32 := if v_X5_goesOn X = 0 then (-4) else (X 117 0) - 1
def s_wins (X : St) (f : Int32) : St := if v_X5_goesOn X = 0 then X else s_crown (s_X5_settle X f)
theorem bknows_in {X : St} {b : Int32} {n : Nat} (h : ¬ v_X6_knows X b = 0) (hb : (X 107 0) = nI n) (hn : n ≤ 120) : vp_in b 120 := by
  unfold v_X6_knows at h
  by_cases h1 : b < 0
  · simp [h1] at h
  · by_cases h2 : (X 107 0) ≤ b
    · simp [h1, h2] at h
    · exact in_lt h1 h2 (by rw [hb]; exact nI_le hn (by decide)) (by decide)
theorem holds_f {X : St} {s f n : Int32} (h : ¬ v_X4_holds X s f n = 0) : ¬ f < 0 ∧ ¬ n < 0 ∧ ¬ (X 22) (ix s) < n ∧ ¬ (X 22) (ix s) - n < f := by
  unfold v_X4_holds at h
  by_cases h1 : f < 0
  · simp [h1] at h
  · by_cases h2 : n < 0
    · simp [h1, h2] at h
    · by_cases h3 : (X 22) (ix s) < n
      · simp [h1, h2, h3] at h
      · by_cases h4 : (X 22) (ix s) - n < f
        · simp [h1, h2, h3, h4] at h
        · exact ⟨h1, h2, h3, h4⟩
theorem holds_b {X : St} {s f n : Int32} {z : Nat} (h : ¬ v_X4_holds X s f n = 0) (hz : (X 22) (ix s) = nI z) (h16 : z ≤ 16) : ix f + ix n ≤ 16 := by
  obtain ⟨h1, h2, h3, h4⟩ := holds_f h
  obtain ⟨a, ha, rfl⟩ := nI_of h1
  obtain ⟨b, hb, rfl⟩ := nI_of h2
  rw [hz] at h3 h4
  have h5 : b ≤ z := Nat.not_lt.mp fun q => h3 ((nI_ltI (by omega) hb).mpr q)
  rw [pk_sub h5] at h4
  have h6 : a ≤ z - b := Nat.not_lt.mp fun q => h4 ((nI_ltI (by omega) ha).mpr q)
  rw [ix_nI ha, ix_nI hb]
  omega

theorem vp_in_nI9 {x y : Int32} {E N : Nat} (hE : x = nI E) (hS : y = nI N) (hNE : N ≤ E) (h : x < 16) (hb : E < 2 ^ 31) : vp_in y 16 := by
  rw [hE] at h
  rw [hS]
  exact vp_in_nI (by have := (nI_ltI hb (by decide : 16 < 2 ^ 31)).mp h; omega) (by decide)
theorem in_16 {f : Int32} (h1 : ¬ f < 1) (h2 : f ≤ 5) : vp_in f 6 := by
  have h0 : ¬ f < 0 := fun h => h1 (Int32.lt_trans h (by decide))
  exact in_lt3 h0 (Int32.lt_of_le_of_lt h2 (by decide : (5 : Int32) < 6)) (Int32.le_refl _) (by decide)
theorem bknows_lt {X : St} {b : Int32} {n : Nat} (h : ¬ v_X6_knows X b = 0) (hb : (X 107 0) = nI n) (hn : n ≤ 120) : ix b < n := by
  have hb2 := bknows_in h hb hn
  have e := in_nI hb2 (by decide)
  unfold v_X6_knows at h
  by_cases h1 : b < 0
  · simp [h1] at h
  · by_cases h2 : (X 107 0) ≤ b
    · simp [h1, h2] at h
    · exact ltN e hb h2 (by have := in_ix hb2; omega)
theorem goes_2 {X : St} {n : Nat} (h : ¬ v_X5_goesOn X = 0) (hL : (X 117 0) = nI n) (hn : n < 2 ^ 31) : 2 ≤ n := by
  unfold v_X5_goesOn at h
  by_cases h1 : (X 117 0) ≤ 1
  · simp [h1] at h
  · rw [hL] at h1
    exact Nat.not_lt.mp fun q => h1 ((nI_leI hn (by decide : 1 < 2 ^ 31)).mpr (by omega))
theorem settle_0 {X : St} {f : Int32} {N : Nat} (hL : (X 117 0) = nI N) (h2 : 2 ≤ N) (h16 : N ≤ 16) (hR : ∀ r, r < N → vp_in ((X 42) r) 16) : s_X5_settle X f 117 0 = 1 → vp_in (s_X5_settle X f 42 0) 16 := by
  intro _
  show vp_in (upd (shf (X 42) (ix (X 117 0))) (ix ((X 117 0) - 2)) (v_won X f) 0) 16
  have e2 : nI N - 2 = nI (N - 2) := pk_sub h2
  rw [hL, ix_nI (by omega), e2, ix_nI (by omega)]
  simp only [upd]
  by_cases e : 0 = N - 2
  · rw [if_pos e]
    unfold v_won
    by_cases hf : f = 0
    · rw [if_pos hf]; exact hR 1 (by omega)
    · rw [if_neg hf]; exact hR 0 (by omega)
  · rw [if_neg e]
    simp only [shf]
    by_cases h : 0 + 2 < N
    · rw [if_pos h]; exact hR _ h
    · rw [if_neg h]; exact hR 0 (by omega)
set_option maxHeartbeats 4000000 in
set_option maxRecDepth 100000 in
theorem c_X8_wrestler (l : Launch) (D : va_G) (G : Gx) (E N : Nat) (X : St) (k : Int32) (s : Int32) (n : Int32) (hE : (X 101 0) = nI E) (hE16 : E ≤ 16) (hS : (X 102 0) = nI N) (hN16 : N ≤ 16) (hNE : N ≤ E) : Ci l yX8_wrestler cX8_wrestler 4 (some .int) 2 (xw G) D (tyG G) [.ref (G.1 0), .int k, .int s, .int n] X (fun r X1 => r = (v_wrestler X k s n) ∧ X1 = (s_wrestler X k s n)) := by
  refine m_i (nL := 4) (lv := [(0, .ref (G.1 0)), (1, .int k), (2, .int s), (3, .int n)]) [.ref (G.1 0), .int k, .int s, .int n] RX8 rfl (xw_adr G) (by decide +kernel) (Nat.le_of_ble_eq_true rfl) rfl (fun K C ret => ?_)
  refine x_iload_n C (pc := 0) dX8_wrestler_0 1 rfl rfl ?_
  refine x_callSi C (pc := 1) [.int k] (fun l D => c_X8_isKind l D G X k ) ml_X8_65 co_X8_isKind st_X8_isKind in_X8 hy_X8_isKind.2 (by decide) (by decide) (Nat.le_of_ble_eq_true rfl) dX8_wrestler_1 rfl (kx ?_)
  refine x_if_eq C (pc := 4) (tgt := 27) dX8_wrestler_4 (by decide) (fun c4 => ?_) (fun c4 => ?_)
  · refine x_iconst C (pc := 27) (v := (-1)) dX8_wrestler_27 (by decide) ?_
    exact ret (-1) X 28 _ dX8_wrestler_28 ⟨by unfold v_wrestler; (repeat (first | rw [if_pos (by assumption)] | rw [if_neg (by assumption)])) <;> first | rfl , by unfold s_wrestler; (repeat (first | rw [if_pos (by assumption)] | rw [if_neg (by assumption)])) <;> first | rfl | exact (ref_id (by assumption)).symm⟩
  · refine x_iload_n C (pc := 7) dX8_wrestler_7 2 rfl rfl ?_
    refine x_callSi C (pc := 8) [.int s] (fun l D => c_X8_isGroup l D G X s ) ml_X8_69 co_X8_isGroup st_X8_isGroup in_X8 hy_X8_isGroup.2 (by decide) (by decide) (Nat.le_of_ble_eq_true rfl) dX8_wrestler_8 rfl (kx ?_)
    refine x_if_eq C (pc := 11) (tgt := 27) dX8_wrestler_11 (by decide) (fun c11 => ?_) (fun c11 => ?_)
    · refine x_iconst C (pc := 27) (v := (-1)) dX8_wrestler_27 (by decide) ?_
      exact ret (-1) X 28 _ dX8_wrestler_28 ⟨by unfold v_wrestler; (repeat (first | rw [if_pos (by assumption)] | rw [if_neg (by assumption)])) <;> first | rfl , by unfold s_wrestler; (repeat (first | rw [if_pos (by assumption)] | rw [if_neg (by assumption)])) <;> first | rfl | exact (ref_id (by assumption)).symm⟩
    · refine x_iload_n C (pc := 14) dX8_wrestler_14 3 rfl rfl ?_
      refine x_bipush C (pc := 15) (v := (-9)) dX8_wrestler_15 (by decide) ?_
      refine x_icmp_eq C (pc := 17) (tgt := 29) dX8_wrestler_17 (by decide) (fun c17 => ?_) (fun c17 => ?_)
      · refine x_aload_n C (pc := 29) dX8_wrestler_29 0 rfl rfl ?_
        refine xG_roster C fl_X8_19 dX8_wrestler_30 ?_
        refine xG_ever C fl_X8_72 dX8_wrestler_33 ?_
        refine x_bipush C (pc := 36) (v := 16) dX8_wrestler_36 (by decide) ?_
        refine x_icmp_lt C (pc := 38) (tgt := 44) dX8_wrestler_38 (by decide) (fun c38 => ?_) (fun c38 => ?_)
        · refine x_aload_n C (pc := 44) dX8_wrestler_44 0 rfl rfl ?_
          refine xG_tourney C fl_X8_33 dX8_wrestler_45 ?_
          refine xG_going C fl_X8_76 dX8_wrestler_48 ?_
          refine x_if_eq C (pc := 51) (tgt := 57) dX8_wrestler_51 (by decide) (fun c51 => ?_) (fun c51 => ?_)
          · refine x_aload_n C (pc := 57) dX8_wrestler_57 0 rfl rfl ?_
            refine xG_writing C fl_X8_54 dX8_wrestler_58 ?_
            refine x_iconst C (pc := 61) (v := 0) dX8_wrestler_61 (by decide) ?_
            refine xP_fresh C fl_X8_80 (v := 0) (by decide) (by decide) dX8_wrestler_62 ?_
            refine x_aload_n C (pc := 65) dX8_wrestler_65 0 rfl rfl ?_
            refine xG_roster C fl_X8_19 dX8_wrestler_66 ?_
            refine x_iload_n C (pc := 69) dX8_wrestler_69 1 rfl rfl ?_
            refine x_iload_n C (pc := 70) dX8_wrestler_70 2 rfl rfl ?_
            refine x_iload_n C (pc := 71) dX8_wrestler_71 3 rfl rfl ?_
            refine x_callVi C (pc := 72) [.int k, .int s, .int n] (fun l D => c_X3_add l D G (ux X 116 0 0) k s n (by exact in_ltc hE (by omega) c38 (by decide)) (by exact vp_in_nI9 hE hS hNE c38 (by omega))) (xe_2 G _) rfl ml_X8_83 co_X3_add im_X3_add se_X3_add in_X3 hy_X3_add (by decide) (by decide) (Nat.le_of_ble_eq_true rfl) dX8_wrestler_72 rfl (kx ?_)
            refine x_eqX (X' := (ux (ux (ux (ux (ux (ux (ux (ux X 116 0 0) 10 (ix (X 101 0)) k) 11 (ix (X 101 0)) s) 12 (ix (X 101 0)) n) 20 (ix (X 102 0)) (X 101 0)) 13 (ix (X 101 0)) (X 102 0)) 101 0 ((X 101 0) + 1)) 102 0 ((X 102 0) + 1))) rfl ?_
            exact ret ((ux X 116 0 0) 101 0) (ux (ux (ux (ux (ux (ux (ux (ux X 116 0 0) 10 (ix (X 101 0)) k) 11 (ix (X 101 0)) s) 12 (ix (X 101 0)) n) 20 (ix (X 102 0)) (X 101 0)) 13 (ix (X 101 0)) (X 102 0)) 101 0 ((X 101 0) + 1)) 102 0 ((X 102 0) + 1)) 75 _ dX8_wrestler_75 ⟨by unfold v_wrestler; (repeat (first | rw [if_pos (by assumption)] | rw [if_neg (by assumption)])) <;> first | rfl , by unfold s_wrestler; (repeat (first | rw [if_pos (by assumption)] | rw [if_neg (by assumption)])) <;> first | rfl | exact (ref_id (by assumption)).symm⟩
          · refine x_bipush C (pc := 54) (v := (-4)) dX8_wrestler_54 (by decide) ?_
            exact ret (-4) X 56 _ dX8_wrestler_56 ⟨by unfold v_wrestler; (repeat (first | rw [if_pos (by assumption)] | rw [if_neg (by assumption)])) <;> first | rfl , by unfold s_wrestler; (repeat (first | rw [if_pos (by assumption)] | rw [if_neg (by assumption)])) <;> first | rfl | exact (ref_id (by assumption)).symm⟩
        · refine x_bipush C (pc := 41) (v := (-2)) dX8_wrestler_41 (by decide) ?_
          exact ret (-2) X 43 _ dX8_wrestler_43 ⟨by unfold v_wrestler; (repeat (first | rw [if_pos (by assumption)] | rw [if_neg (by assumption)])) <;> first | rfl , by unfold s_wrestler; (repeat (first | rw [if_pos (by assumption)] | rw [if_neg (by assumption)])) <;> first | rfl | exact (ref_id (by assumption)).symm⟩
      · refine x_iload_n C (pc := 20) dX8_wrestler_20 3 rfl rfl ?_
        refine x_callSi C (pc := 21) [.int n] (fun l D => c_X8_isGroup l D G X n ) ml_X8_69 co_X8_isGroup st_X8_isGroup in_X8 hy_X8_isGroup.2 (by decide) (by decide) (Nat.le_of_ble_eq_true rfl) dX8_wrestler_21 rfl (kx ?_)
        refine x_if_ne C (pc := 24) (tgt := 29) dX8_wrestler_24 (by decide) (fun c24 => ?_) (fun c24 => ?_)
        · refine x_aload_n C (pc := 29) dX8_wrestler_29 0 rfl rfl ?_
          refine xG_roster C fl_X8_19 dX8_wrestler_30 ?_
          refine xG_ever C fl_X8_72 dX8_wrestler_33 ?_
          refine x_bipush C (pc := 36) (v := 16) dX8_wrestler_36 (by decide) ?_
          refine x_icmp_lt C (pc := 38) (tgt := 44) dX8_wrestler_38 (by decide) (fun c38 => ?_) (fun c38 => ?_)
          · refine x_aload_n C (pc := 44) dX8_wrestler_44 0 rfl rfl ?_
            refine xG_tourney C fl_X8_33 dX8_wrestler_45 ?_
            refine xG_going C fl_X8_76 dX8_wrestler_48 ?_
            refine x_if_eq C (pc := 51) (tgt := 57) dX8_wrestler_51 (by decide) (fun c51 => ?_) (fun c51 => ?_)
            · refine x_aload_n C (pc := 57) dX8_wrestler_57 0 rfl rfl ?_
              refine xG_writing C fl_X8_54 dX8_wrestler_58 ?_
              refine x_iconst C (pc := 61) (v := 0) dX8_wrestler_61 (by decide) ?_
              refine xP_fresh C fl_X8_80 (v := 0) (by decide) (by decide) dX8_wrestler_62 ?_
              refine x_aload_n C (pc := 65) dX8_wrestler_65 0 rfl rfl ?_
              refine xG_roster C fl_X8_19 dX8_wrestler_66 ?_
              refine x_iload_n C (pc := 69) dX8_wrestler_69 1 rfl rfl ?_
              refine x_iload_n C (pc := 70) dX8_wrestler_70 2 rfl rfl ?_
              refine x_iload_n C (pc := 71) dX8_wrestler_71 3 rfl rfl ?_
              refine x_callVi C (pc := 72) [.int k, .int s, .int n] (fun l D => c_X3_add l D G (ux X 116 0 0) k s n (by exact in_ltc hE (by omega) c38 (by decide)) (by exact vp_in_nI9 hE hS hNE c38 (by omega))) (xe_2 G _) rfl ml_X8_83 co_X3_add im_X3_add se_X3_add in_X3 hy_X3_add (by decide) (by decide) (Nat.le_of_ble_eq_true rfl) dX8_wrestler_72 rfl (kx ?_)
              refine x_eqX (X' := (ux (ux (ux (ux (ux (ux (ux (ux X 116 0 0) 10 (ix (X 101 0)) k) 11 (ix (X 101 0)) s) 12 (ix (X 101 0)) n) 20 (ix (X 102 0)) (X 101 0)) 13 (ix (X 101 0)) (X 102 0)) 101 0 ((X 101 0) + 1)) 102 0 ((X 102 0) + 1))) rfl ?_
              exact ret ((ux X 116 0 0) 101 0) (ux (ux (ux (ux (ux (ux (ux (ux X 116 0 0) 10 (ix (X 101 0)) k) 11 (ix (X 101 0)) s) 12 (ix (X 101 0)) n) 20 (ix (X 102 0)) (X 101 0)) 13 (ix (X 101 0)) (X 102 0)) 101 0 ((X 101 0) + 1)) 102 0 ((X 102 0) + 1)) 75 _ dX8_wrestler_75 ⟨by unfold v_wrestler; (repeat (first | rw [if_pos (by assumption)] | rw [if_neg (by assumption)])) <;> first | rfl , by unfold s_wrestler; (repeat (first | rw [if_pos (by assumption)] | rw [if_neg (by assumption)])) <;> first | rfl | exact (ref_id (by assumption)).symm⟩
            · refine x_bipush C (pc := 54) (v := (-4)) dX8_wrestler_54 (by decide) ?_
              exact ret (-4) X 56 _ dX8_wrestler_56 ⟨by unfold v_wrestler; (repeat (first | rw [if_pos (by assumption)] | rw [if_neg (by assumption)])) <;> first | rfl , by unfold s_wrestler; (repeat (first | rw [if_pos (by assumption)] | rw [if_neg (by assumption)])) <;> first | rfl | exact (ref_id (by assumption)).symm⟩
          · refine x_bipush C (pc := 41) (v := (-2)) dX8_wrestler_41 (by decide) ?_
            exact ret (-2) X 43 _ dX8_wrestler_43 ⟨by unfold v_wrestler; (repeat (first | rw [if_pos (by assumption)] | rw [if_neg (by assumption)])) <;> first | rfl , by unfold s_wrestler; (repeat (first | rw [if_pos (by assumption)] | rw [if_neg (by assumption)])) <;> first | rfl | exact (ref_id (by assumption)).symm⟩
        · refine x_iconst C (pc := 27) (v := (-1)) dX8_wrestler_27 (by decide) ?_
          exact ret (-1) X 28 _ dX8_wrestler_28 ⟨by unfold v_wrestler; (repeat (first | rw [if_pos (by assumption)] | rw [if_neg (by assumption)])) <;> first | rfl , by unfold s_wrestler; (repeat (first | rw [if_pos (by assumption)] | rw [if_neg (by assumption)])) <;> first | rfl | exact (ref_id (by assumption)).symm⟩
set_option maxHeartbeats 4000000 in
set_option maxRecDepth 100000 in
theorem c_X8_leave (l : Launch) (D : va_G) (G : Gx) (E N : Nat) (X : St) (w : Int32) (hE : (X 101 0) = nI E) (hE16 : E ≤ 16) (hS : (X 102 0) = nI N) (hN16 : N ≤ 16) (hB : ∀ r, r < N → vp_in ((X 20) r) 16) (hRg : ¬ v_X3_knows X w = 0 → (X 18) (ix w) = 0 → ∃ R, R < N ∧ (X 13) (ix w) = nI R) : Ci l yX8_leave cX8_leave 2 (some .int) 2 (xw G) D (tyG G) [.ref (G.1 0), .int w] X (fun r X1 => r = (v_leave X w) ∧ X1 = (s_leave X w)) := by
  refine m_i (nL := 2) (lv := [(0, .ref (G.1 0)), (1, .int w)]) [.ref (G.1 0), .int w] RX8 rfl (xw_adr G) (by decide +kernel) (Nat.le_of_ble_eq_true rfl) rfl (fun K C ret => ?_)
  refine x_aload_n C (pc := 0) dX8_leave_0 0 rfl rfl ?_
  refine xG_roster C fl_X8_19 dX8_leave_1 ?_
  refine x_iload_n C (pc := 4) dX8_leave_4 1 rfl rfl ?_
  refine x_callVi C (pc := 5) [.int w] (fun l D => c_X3_knows l D G X w ) (xe_2 G _) rfl ml_X8_87 co_X3_knows im_X3_knows se_X3_knows in_X3 hy_X3_knows (by decide) (by decide) (Nat.le_of_ble_eq_true rfl) dX8_leave_5 rfl (kx ?_)
  refine x_if_ne C (pc := 8) (tgt := 13) dX8_leave_8 (by decide) (fun c8 => ?_) (fun c8 => ?_)
  · have hw : vp_in w 16 := knows_in c8 hE hE16
    refine x_aload_n C (pc := 13) dX8_leave_13 0 rfl rfl ?_
    refine xG_tourney C fl_X8_33 dX8_leave_14 ?_
    refine xG_going C fl_X8_76 dX8_leave_17 ?_
    refine x_if_eq C (pc := 20) (tgt := 26) dX8_leave_20 (by decide) (fun c20 => ?_) (fun c20 => ?_)
    · refine x_aload_n C (pc := 26) dX8_leave_26 0 rfl rfl ?_
      refine xG_roster C fl_X8_19 dX8_leave_27 ?_
      refine xG_gone C fl_X8_90 dX8_leave_30 ?_
      refine x_iload_n C (pc := 33) dX8_leave_33 1 rfl rfl ?_
      refine xL_gone C dX8_leave_34 (by assumption) ?_
      refine x_if_eq C (pc := 35) (tgt := 47) dX8_leave_35 (by decide) (fun c35 => ?_) (fun c35 => ?_)
      · have hsx : ix (X 102 0) = N := by rw [hS]; exact ix_nI (by omega)
        obtain ⟨R, hRN, hR⟩ := hRg c8 c35
        have hrx : ix ((X 13) (ix w)) = R := by rw [hR]; exact ix_nI (by omega)
        refine x_aload_n C (pc := 47) dX8_leave_47 0 rfl rfl ?_
        refine xG_writing C fl_X8_54 dX8_leave_48 ?_
        refine x_iconst C (pc := 51) (v := 0) dX8_leave_51 (by decide) ?_
        refine xP_fresh C fl_X8_80 (v := 0) (by decide) (by decide) dX8_leave_52 ?_
        refine x_aload_n C (pc := 55) dX8_leave_55 0 rfl rfl ?_
        refine xG_roster C fl_X8_19 dX8_leave_56 ?_
        refine x_iload_n C (pc := 59) dX8_leave_59 1 rfl rfl ?_
        refine x_callVi C (pc := 60) [.int w] (fun l D => c_X3_remove l D G (ix (X 102 0)) (ix ((X 13) (ix w))) (ux X 116 0 0) w hw (by rw [hsx]; exact hN16) (by rw [hsx]; exact hS) (by rw [hsx]; exact hB) (by rw [hrx, hsx]; exact hRN) (by rw [hrx]; exact hR)) (xe_2 G _) rfl ml_X8_98 co_X3_remove im_X3_remove se_X3_remove in_X3 hy_X3_remove (by decide) (by decide) (Nat.le_of_ble_eq_true rfl) dX8_leave_60 rfl (kx ?_)
        exact ret (X 13 (ix w)) (s_X3_remove (ux X 116 0 0) w (ix (X 102 0)) (ix ((X 13) (ix w)))) 63 _ dX8_leave_63 ⟨by unfold v_leave; (repeat (first | rw [if_pos (by assumption)] | rw [if_neg (by assumption)])) <;> first | rfl , by unfold s_leave; (repeat (first | rw [if_pos (by assumption)] | rw [if_neg (by assumption)])) <;> first | rfl | exact (ref_id (by assumption)).symm⟩
      · refine x_aload_n C (pc := 38) dX8_leave_38 0 rfl rfl ?_
        refine xG_log C fl_X8_12 dX8_leave_39 ?_
        refine x_iconst C (pc := 42) (v := 1) dX8_leave_42 (by decide) ?_
        refine x_callVi C (pc := 43) [.int 1] (fun l D => c_X2_found l D G X 1 in1_6) (xe_1 G _) rfl ml_X8_94 co_X2_found im_X2_found se_X2_found in_X2 hy_X2_found (by decide) (by decide) (Nat.le_of_ble_eq_true rfl) dX8_leave_43 rfl (kx ?_)
        refine x_eqX (X' := (ux (ux X 100 0 1) 9 (ix 1) ((X 9 (ix 1)) + 1))) rfl ?_
        exact ret (-3) (ux (ux X 100 0 1) 9 (ix 1) ((X 9 (ix 1)) + 1)) 46 _ dX8_leave_46 ⟨by unfold v_leave; (repeat (first | rw [if_pos (by assumption)] | rw [if_neg (by assumption)])) <;> first | rfl , by unfold s_leave; (repeat (first | rw [if_pos (by assumption)] | rw [if_neg (by assumption)])) <;> first | rfl | exact (ref_id (by assumption)).symm⟩
    · refine x_bipush C (pc := 23) (v := (-4)) dX8_leave_23 (by decide) ?_
      exact ret (-4) X 25 _ dX8_leave_25 ⟨by unfold v_leave; (repeat (first | rw [if_pos (by assumption)] | rw [if_neg (by assumption)])) <;> first | rfl , by unfold s_leave; (repeat (first | rw [if_pos (by assumption)] | rw [if_neg (by assumption)])) <;> first | rfl | exact (ref_id (by assumption)).symm⟩
  · refine x_iconst C (pc := 11) (v := (-1)) dX8_leave_11 (by decide) ?_
    exact ret (-1) X 12 _ dX8_leave_12 ⟨by unfold v_leave; (repeat (first | rw [if_pos (by assumption)] | rw [if_neg (by assumption)])) <;> first | rfl , by unfold s_leave; (repeat (first | rw [if_pos (by assumption)] | rw [if_neg (by assumption)])) <;> first | rfl | exact (ref_id (by assumption)).symm⟩
set_option maxHeartbeats 4000000 in
set_option maxRecDepth 100000 in
theorem c_X8_told (l : Launch) (D : va_G) (G : Gx) (E : Nat) (X : St) (w : Int32) (what : Int32) (hE : (X 101 0) = nI E) (hE16 : E ≤ 16) : Ci l yX8_told cX8_told 4 (some .int) 2 (xw G) D (tyG G) [.ref (G.1 0), .int w, .int what] X (fun r X1 => r = (v_told X w what) ∧ X1 = (s_told X w what)) := by
  refine m_i (nL := 4) (lv := [(0, .ref (G.1 0)), (1, .int w), (2, .int what)]) [.ref (G.1 0), .int w, .int what] RX8 rfl (xw_adr G) (by decide +kernel) (Nat.le_of_ble_eq_true rfl) rfl (fun K C ret => ?_)
  refine x_iload_n C (pc := 0) dX8_told_0 2 rfl rfl ?_
  refine x_if_lt C (pc := 1) (tgt := 10) dX8_told_1 (by decide) (fun c1 => ?_) (fun c1 => ?_)
  · refine x_iconst C (pc := 10) (v := (-1)) dX8_told_10 (by decide) ?_
    exact ret (-1) X 11 _ dX8_told_11 ⟨by unfold v_told; (repeat (first | rw [if_pos (by assumption)] | rw [if_neg (by assumption)])) <;> first | rfl , by unfold s_told; (repeat (first | rw [if_pos (by assumption)] | rw [if_neg (by assumption)])) <;> first | rfl | exact (ref_id (by assumption)).symm⟩
  · refine x_iload_n C (pc := 4) dX8_told_4 2 rfl rfl ?_
    refine x_bipush C (pc := 5) (v := 7) dX8_told_5 (by decide) ?_
    refine x_icmp_lt C (pc := 7) (tgt := 12) dX8_told_7 (by decide) (fun c7 => ?_) (fun c7 => ?_)
    · refine x_aload_n C (pc := 12) dX8_told_12 0 rfl rfl ?_
      refine x_iload_n C (pc := 13) dX8_told_13 1 rfl rfl ?_
      refine x_callVi C (pc := 14) [.int w] (fun l D => c_X8_refusalOf l D G E X w hE hE16) (xe_0 G _) rfl ml_X8_101 co_X8_refusalOf im_X8_refusalOf se_X8_refusalOf in_X8 hy_X8_refusalOf (by decide) (by decide) (Nat.le_of_ble_eq_true rfl) dX8_told_14 rfl (kx ?_)
      refine x_istore_n C (pc := 17) dX8_told_17 [(0, .ref (G.1 0)), (1, .int w), (2, .int what), (3, .int (v_ref X w))] [1, 2, 3, 0] rfl (by decide) rfl ?_
      refine x_iload_n C (pc := 18) dX8_told_18 3 rfl rfl ?_
      refine x_if_eq C (pc := 19) (tgt := 26) dX8_told_19 (by decide) (fun c19 => ?_) (fun c19 => ?_)
      · refine x_eqX (X' := X) (ref_id c19) ?_
        have hw : vp_in w 16 := knows_in (ref_kn c19).1 hE hE16
        refine x_aload_n C (pc := 26) dX8_told_26 0 rfl rfl ?_
        refine xG_roster C fl_X8_19 dX8_told_27 ?_
        refine x_iload_n C (pc := 30) dX8_told_30 1 rfl rfl ?_
        refine x_iload_n C (pc := 31) dX8_told_31 2 rfl rfl ?_
        refine x_callVi C (pc := 32) [.int w, .int what] (fun l D => c_X3_fact l D G X w what (by assumption)) (xe_2 G _) rfl ml_X8_104 co_X3_fact im_X3_fact se_X3_fact in_X3 hy_X3_fact (by decide) (by decide) (Nat.le_of_ble_eq_true rfl) dX8_told_32 rfl (kx ?_)
        exact ret (v_X3_fact X w what) X 35 _ dX8_told_35 ⟨by unfold v_told; (repeat (first | rw [if_pos (by assumption)] | rw [if_neg (by assumption)])) <;> first | rfl , by unfold s_told; (repeat (first | rw [if_pos (by assumption)] | rw [if_neg (by assumption)])) <;> first | rfl | exact (ref_id (by assumption)).symm⟩
      · refine x_iload_n C (pc := 22) dX8_told_22 3 rfl rfl ?_
        refine x_goto C (pc := 23) (tgt := 35) dX8_told_23 (by decide) ?_
        exact ret (v_ref X w) (s_ref X w) 35 _ dX8_told_35 ⟨by unfold v_told; (repeat (first | rw [if_pos (by assumption)] | rw [if_neg (by assumption)])) <;> first | rfl , by unfold s_told; (repeat (first | rw [if_pos (by assumption)] | rw [if_neg (by assumption)])) <;> first | rfl | exact (ref_id (by assumption)).symm⟩
    · refine x_iconst C (pc := 10) (v := (-1)) dX8_told_10 (by decide) ?_
      exact ret (-1) X 11 _ dX8_told_11 ⟨by unfold v_told; (repeat (first | rw [if_pos (by assumption)] | rw [if_neg (by assumption)])) <;> first | rfl , by unfold s_told; (repeat (first | rw [if_pos (by assumption)] | rw [if_neg (by assumption)])) <;> first | rfl | exact (ref_id (by assumption)).symm⟩
set_option maxHeartbeats 4000000 in
set_option maxRecDepth 100000 in
theorem c_X8_is (l : Launch) (D : va_G) (G : Gx) (E : Nat) (X : St) (w : Int32) (k : Int32) (hE : (X 101 0) = nI E) (hE16 : E ≤ 16) : Ci l yX8_is cX8_is 4 (some .int) 2 (xw G) D (tyG G) [.ref (G.1 0), .int w, .int k] X (fun r X1 => r = (v_is X w k) ∧ X1 = (s_is X w k)) := by
  refine m_i (nL := 4) (lv := [(0, .ref (G.1 0)), (1, .int w), (2, .int k)]) [.ref (G.1 0), .int w, .int k] RX8 rfl (xw_adr G) (by decide +kernel) (Nat.le_of_ble_eq_true rfl) rfl (fun K C ret => ?_)
  refine x_iload_n C (pc := 0) dX8_is_0 2 rfl rfl ?_
  refine x_callSi C (pc := 1) [.int k] (fun l D => c_X8_isKind l D G X k ) ml_X8_65 co_X8_isKind st_X8_isKind in_X8 hy_X8_isKind.2 (by decide) (by decide) (Nat.le_of_ble_eq_true rfl) dX8_is_1 rfl (kx ?_)
  refine x_if_ne C (pc := 4) (tgt := 9) dX8_is_4 (by decide) (fun c4 => ?_) (fun c4 => ?_)
  · refine x_aload_n C (pc := 9) dX8_is_9 0 rfl rfl ?_
    refine x_iload_n C (pc := 10) dX8_is_10 1 rfl rfl ?_
    refine x_callVi C (pc := 11) [.int w] (fun l D => c_X8_refusalOf l D G E X w hE hE16) (xe_0 G _) rfl ml_X8_101 co_X8_refusalOf im_X8_refusalOf se_X8_refusalOf in_X8 hy_X8_refusalOf (by decide) (by decide) (Nat.le_of_ble_eq_true rfl) dX8_is_11 rfl (kx ?_)
    refine x_istore_n C (pc := 14) dX8_is_14 [(0, .ref (G.1 0)), (1, .int w), (2, .int k), (3, .int (v_ref X w))] [1, 2, 3, 0] rfl (by decide) rfl ?_
    refine x_iload_n C (pc := 15) dX8_is_15 3 rfl rfl ?_
    refine x_if_eq C (pc := 16) (tgt := 21) dX8_is_16 (by decide) (fun c16 => ?_) (fun c16 => ?_)
    · refine x_eqX (X' := X) (ref_id c16) ?_
      have hw : vp_in w 16 := knows_in (ref_kn c16).1 hE hE16
      refine x_aload_n C (pc := 21) dX8_is_21 0 rfl rfl ?_
      refine xG_roster C fl_X8_19 dX8_is_22 ?_
      refine x_iload_n C (pc := 25) dX8_is_25 1 rfl rfl ?_
      refine x_iload_n C (pc := 26) dX8_is_26 2 rfl rfl ?_
      refine x_callVi C (pc := 27) [.int w, .int k] (fun l D => c_X3_isOf l D G X w k (by assumption)) (xe_2 G _) rfl ml_X8_108 co_X3_isOf im_X3_isOf se_X3_isOf in_X3 hy_X3_isOf (by decide) (by decide) (Nat.le_of_ble_eq_true rfl) dX8_is_27 rfl (kx ?_)
      refine x_if_eq C (pc := 30) (tgt := 37) dX8_is_30 (by decide) (fun c30 => ?_) (fun c30 => ?_)
      · refine x_iconst C (pc := 37) (v := 0) dX8_is_37 (by decide) ?_
        exact ret 0 X 38 _ dX8_is_38 ⟨by unfold v_is; (repeat (first | rw [if_pos (by assumption)] | rw [if_neg (by assumption)])) <;> first | rfl , by unfold s_is; (repeat (first | rw [if_pos (by assumption)] | rw [if_neg (by assumption)])) <;> first | rfl | exact (ref_id (by assumption)).symm⟩
      · refine x_iconst C (pc := 33) (v := 1) dX8_is_33 (by decide) ?_
        refine x_goto C (pc := 34) (tgt := 38) dX8_is_34 (by decide) ?_
        exact ret 1 X 38 _ dX8_is_38 ⟨by unfold v_is; (repeat (first | rw [if_pos (by assumption)] | rw [if_neg (by assumption)])) <;> first | rfl , by unfold s_is; (repeat (first | rw [if_pos (by assumption)] | rw [if_neg (by assumption)])) <;> first | rfl | exact (ref_id (by assumption)).symm⟩
    · refine x_iload_n C (pc := 19) dX8_is_19 3 rfl rfl ?_
      exact ret (v_ref X w) (s_ref X w) 20 _ dX8_is_20 ⟨by unfold v_is; (repeat (first | rw [if_pos (by assumption)] | rw [if_neg (by assumption)])) <;> first | rfl , by unfold s_is; (repeat (first | rw [if_pos (by assumption)] | rw [if_neg (by assumption)])) <;> first | rfl | exact (ref_id (by assumption)).symm⟩
  · refine x_iconst C (pc := 7) (v := (-1)) dX8_is_7 (by decide) ?_
    exact ret (-1) X 8 _ dX8_is_8 ⟨by unfold v_is; (repeat (first | rw [if_pos (by assumption)] | rw [if_neg (by assumption)])) <;> first | rfl , by unfold s_is; (repeat (first | rw [if_pos (by assumption)] | rw [if_neg (by assumption)])) <;> first | rfl | exact (ref_id (by assumption)).symm⟩
set_option maxHeartbeats 4000000 in
set_option maxRecDepth 100000 in
theorem c_X8_on (l : Launch) (D : va_G) (G : Gx) (N : Nat) (X : St) (rg : Int32) (hS : (X 102 0) = nI N) (hN16 : N ≤ 16) : Ci l yX8_on cX8_on 2 (some .int) 0 (xw G) D (tyG G) [.ref (G.1 0), .int rg] X (fun r X1 => r = (v_on X rg) ∧ X1 = X) := by
  refine m_i (nL := 2) (lv := [(0, .ref (G.1 0)), (1, .int rg)]) [.ref (G.1 0), .int rg] RX8 rfl (xw_adr G) (by decide +kernel) (Nat.le_of_ble_eq_true rfl) rfl (fun K C ret => ?_)
  refine x_iload_n C (pc := 0) dX8_on_0 1 rfl rfl ?_
  refine x_if_lt C (pc := 1) (tgt := 15) dX8_on_1 (by decide) (fun c1 => ?_) (fun c1 => ?_)
  · refine x_bipush C (pc := 15) (v := (-9)) dX8_on_15 (by decide) ?_
    exact ret (-9) X 17 _ dX8_on_17 ⟨by unfold v_on; (repeat (first | rw [if_pos (by assumption)] | rw [if_neg (by assumption)])) <;> first | rfl , rfl⟩
  · refine x_iload_n C (pc := 4) dX8_on_4 1 rfl rfl ?_
    refine x_aload_n C (pc := 5) dX8_on_5 0 rfl rfl ?_
    refine xG_roster C fl_X8_19 dX8_on_6 ?_
    refine xG_standing C fl_X8_112 dX8_on_9 ?_
    refine x_icmp_lt C (pc := 12) (tgt := 18) dX8_on_12 (by decide) (fun c12 => ?_) (fun c12 => ?_)
    · refine x_aload_n C (pc := 18) dX8_on_18 0 rfl rfl ?_
      refine xG_roster C fl_X8_19 dX8_on_19 ?_
      refine xG_board C fl_X8_115 dX8_on_22 ?_
      refine x_iload_n C (pc := 25) dX8_on_25 1 rfl rfl ?_
      refine xL_board C dX8_on_26 (in_lt2 c1 c12 hS hN16 (by decide)) ?_
      exact ret (X 20 (ix rg)) X 27 _ dX8_on_27 ⟨by unfold v_on; (repeat (first | rw [if_pos (by assumption)] | rw [if_neg (by assumption)])) <;> first | rfl , rfl⟩
    · refine x_bipush C (pc := 15) (v := (-9)) dX8_on_15 (by decide) ?_
      exact ret (-9) X 17 _ dX8_on_17 ⟨by unfold v_on; (repeat (first | rw [if_pos (by assumption)] | rw [if_neg (by assumption)])) <;> first | rfl , rfl⟩
set_option maxHeartbeats 4000000 in
set_option maxRecDepth 100000 in
theorem c_X8_mark (l : Launch) (D : va_G) (G : Gx) (E : Nat) (X : St) (w : Int32) (k : Int32) (hE : (X 101 0) = nI E) (hE16 : E ≤ 16) : Ci l yX8_mark cX8_mark 4 (some .int) 2 (xw G) D (tyG G) [.ref (G.1 0), .int w, .int k] X (fun r X1 => r = (v_mark X w k) ∧ X1 = (s_mark X w k)) := by
  refine m_i (nL := 4) (lv := [(0, .ref (G.1 0)), (1, .int w), (2, .int k)]) [.ref (G.1 0), .int w, .int k] RX8 rfl (xw_adr G) (by decide +kernel) (Nat.le_of_ble_eq_true rfl) rfl (fun K C ret => ?_)
  refine x_iload_n C (pc := 0) dX8_mark_0 2 rfl rfl ?_
  refine x_callSi C (pc := 1) [.int k] (fun l D => c_X8_isKind l D G X k ) ml_X8_65 co_X8_isKind st_X8_isKind in_X8 hy_X8_isKind.2 (by decide) (by decide) (Nat.le_of_ble_eq_true rfl) dX8_mark_1 rfl (kx ?_)
  refine x_if_eq C (pc := 4) (tgt := 11) dX8_mark_4 (by decide) (fun c4 => ?_) (fun c4 => ?_)
  · refine x_iconst C (pc := 11) (v := (-1)) dX8_mark_11 (by decide) ?_
    exact ret (-1) X 12 _ dX8_mark_12 ⟨by unfold v_mark; (repeat (first | rw [if_pos (by assumption)] | rw [if_neg (by assumption)])) <;> first | rfl , by unfold s_mark; (repeat (first | rw [if_pos (by assumption)] | rw [if_neg (by assumption)])) <;> first | rfl | exact (ref_id (by assumption)).symm⟩
  · refine x_iload_n C (pc := 7) dX8_mark_7 2 rfl rfl ?_
    refine x_if_ne C (pc := 8) (tgt := 13) dX8_mark_8 (by decide) (fun c8 => ?_) (fun c8 => ?_)
    · refine x_aload_n C (pc := 13) dX8_mark_13 0 rfl rfl ?_
      refine x_iload_n C (pc := 14) dX8_mark_14 1 rfl rfl ?_
      refine x_callVi C (pc := 15) [.int w] (fun l D => c_X8_refusalOf l D G E X w hE hE16) (xe_0 G _) rfl ml_X8_101 co_X8_refusalOf im_X8_refusalOf se_X8_refusalOf in_X8 hy_X8_refusalOf (by decide) (by decide) (Nat.le_of_ble_eq_true rfl) dX8_mark_15 rfl (kx ?_)
      refine x_istore_n C (pc := 18) dX8_mark_18 [(0, .ref (G.1 0)), (1, .int w), (2, .int k), (3, .int (v_ref X w))] [1, 2, 3, 0] rfl (by decide) rfl ?_
      refine x_iload_n C (pc := 19) dX8_mark_19 3 rfl rfl ?_
      refine x_if_eq C (pc := 20) (tgt := 25) dX8_mark_20 (by decide) (fun c20 => ?_) (fun c20 => ?_)
      · refine x_eqX (X' := X) (ref_id c20) ?_
        have hw : vp_in w 16 := knows_in (ref_kn c20).1 hE hE16
        refine x_aload_n C (pc := 25) dX8_mark_25 0 rfl rfl ?_
        refine xG_roster C fl_X8_19 dX8_mark_26 ?_
        refine x_iload_n C (pc := 29) dX8_mark_29 1 rfl rfl ?_
        refine x_iload_n C (pc := 30) dX8_mark_30 2 rfl rfl ?_
        refine x_callVi C (pc := 31) [.int w, .int k] (fun l D => c_X3_isOf l D G X w k (by assumption)) (xe_2 G _) rfl ml_X8_108 co_X3_isOf im_X3_isOf se_X3_isOf in_X3 hy_X3_isOf (by decide) (by decide) (Nat.le_of_ble_eq_true rfl) dX8_mark_31 rfl (kx ?_)
        refine x_if_eq C (pc := 34) (tgt := 49) dX8_mark_34 (by decide) (fun c34 => ?_) (fun c34 => ?_)
        · refine x_aload_n C (pc := 49) dX8_mark_49 0 rfl rfl ?_
          refine xG_log C fl_X8_12 dX8_mark_50 ?_
          refine x_iconst C (pc := 53) (v := 3) dX8_mark_53 (by decide) ?_
          refine x_callVi C (pc := 54) [.int 3] (fun l D => c_X2_found l D G X 3 in3_6) (xe_1 G _) rfl ml_X8_94 co_X2_found im_X2_found se_X2_found in_X2 hy_X2_found (by decide) (by decide) (Nat.le_of_ble_eq_true rfl) dX8_mark_54 rfl (kx ?_)
          refine x_eqX (X' := (ux (ux X 100 0 3) 9 (ix 3) ((X 9 (ix 3)) + 1))) rfl ?_
          exact ret (-3) (ux (ux X 100 0 3) 9 (ix 3) ((X 9 (ix 3)) + 1)) 57 _ dX8_mark_57 ⟨by unfold v_mark; (repeat (first | rw [if_pos (by assumption)] | rw [if_neg (by assumption)])) <;> first | rfl , by unfold s_mark; (repeat (first | rw [if_pos (by assumption)] | rw [if_neg (by assumption)])) <;> first | rfl | exact (ref_id (by assumption)).symm⟩
        · refine x_aload_n C (pc := 37) dX8_mark_37 0 rfl rfl ?_
          refine xG_roster C fl_X8_19 dX8_mark_38 ?_
          refine xG_marks C fl_X8_119 dX8_mark_41 ?_
          refine x_iload_n C (pc := 44) dX8_mark_44 1 rfl rfl ?_
          refine xL_marks C dX8_mark_45 (by assumption) ?_
          refine x_goto C (pc := 46) (tgt := 57) dX8_mark_46 (by decide) ?_
          exact ret (X 17 (ix w)) X 57 _ dX8_mark_57 ⟨by unfold v_mark; (repeat (first | rw [if_pos (by assumption)] | rw [if_neg (by assumption)])) <;> first | rfl , by unfold s_mark; (repeat (first | rw [if_pos (by assumption)] | rw [if_neg (by assumption)])) <;> first | rfl | exact (ref_id (by assumption)).symm⟩
      · refine x_iload_n C (pc := 23) dX8_mark_23 3 rfl rfl ?_
        exact ret (v_ref X w) (s_ref X w) 24 _ dX8_mark_24 ⟨by unfold v_mark; (repeat (first | rw [if_pos (by assumption)] | rw [if_neg (by assumption)])) <;> first | rfl , by unfold s_mark; (repeat (first | rw [if_pos (by assumption)] | rw [if_neg (by assumption)])) <;> first | rfl | exact (ref_id (by assumption)).symm⟩
    · refine x_iconst C (pc := 11) (v := (-1)) dX8_mark_11 (by decide) ?_
      exact ret (-1) X 12 _ dX8_mark_12 ⟨by unfold v_mark; (repeat (first | rw [if_pos (by assumption)] | rw [if_neg (by assumption)])) <;> first | rfl , by unfold s_mark; (repeat (first | rw [if_pos (by assumption)] | rw [if_neg (by assumption)])) <;> first | rfl | exact (ref_id (by assumption)).symm⟩
set_option maxHeartbeats 4000000 in
set_option maxRecDepth 100000 in
theorem c_X8_sheet (l : Launch) (D : va_G) (G : Gx) (X : St) (s : Int32) (n : Int32) : Ci l yX8_sheet cX8_sheet 3 (some .int) 2 (xw G) D (tyG G) [.ref (G.1 0), .int s, .int n] X (fun r X1 => r = (v_sheet s n) ∧ X1 = (s_sheet X s n)) := by
  refine m_i (nL := 3) (lv := [(0, .ref (G.1 0)), (1, .int s), (2, .int n)]) [.ref (G.1 0), .int s, .int n] RX8 rfl (xw_adr G) (by decide +kernel) (Nat.le_of_ble_eq_true rfl) rfl (fun K C ret => ?_)
  refine x_iload_n C (pc := 0) dX8_sheet_0 1 rfl rfl ?_
  refine x_callSi C (pc := 1) [.int s] (fun l D => c_X8_isSheet l D G X s ) ml_X8_128 co_X8_isSheet st_X8_isSheet in_X8 hy_X8_isSheet.2 (by decide) (by decide) (Nat.le_of_ble_eq_true rfl) dX8_sheet_1 rfl (kx ?_)
  refine x_if_eq C (pc := 4) (tgt := 13) dX8_sheet_4 (by decide) (fun c4 => ?_) (fun c4 => ?_)
  · refine x_iconst C (pc := 13) (v := (-1)) dX8_sheet_13 (by decide) ?_
    exact ret (-1) X 14 _ dX8_sheet_14 ⟨by unfold v_sheet; (repeat (first | rw [if_pos (by assumption)] | rw [if_neg (by assumption)])) <;> first | rfl , by unfold s_sheet; (repeat (first | rw [if_pos (by assumption)] | rw [if_neg (by assumption)])) <;> first | rfl | exact (ref_id (by assumption)).symm⟩
  · refine x_iload_n C (pc := 7) dX8_sheet_7 2 rfl rfl ?_
    refine x_bipush C (pc := 8) (v := 16) dX8_sheet_8 (by decide) ?_
    refine x_icmp_le C (pc := 10) (tgt := 15) dX8_sheet_10 (by decide) (fun c10 => ?_) (fun c10 => ?_)
    · refine x_iload_n C (pc := 15) dX8_sheet_15 2 rfl rfl ?_
      refine x_if_ge C (pc := 16) (tgt := 28) dX8_sheet_16 (by decide) (fun c16 => ?_) (fun c16 => ?_)
      · refine x_aload_n C (pc := 28) dX8_sheet_28 0 rfl rfl ?_
        refine xG_sheets C fl_X8_26 dX8_sheet_29 ?_
        refine x_iload_n C (pc := 32) dX8_sheet_32 1 rfl rfl ?_
        refine x_iload_n C (pc := 33) dX8_sheet_33 2 rfl rfl ?_
        refine x_callVv C (pc := 34) [.int s, .int n] (fun l D => c_X4_blank l D G X s n (isSheet_in c4)) (xe_3 G _) rfl ml_X8_131 co_X4_blank im_X4_blank se_X4_blank in_X4 hy_X4_blank (by decide) (by decide) (Nat.le_of_ble_eq_true rfl) dX8_sheet_34 rfl (kxv ?_)
        refine x_iload_n C (pc := 37) dX8_sheet_37 2 rfl rfl ?_
        exact ret n (s_X4_blank X s n) 38 _ dX8_sheet_38 ⟨by unfold v_sheet; (repeat (first | rw [if_pos (by assumption)] | rw [if_neg (by assumption)])) <;> first | rfl , by unfold s_sheet; (repeat (first | rw [if_pos (by assumption)] | rw [if_neg (by assumption)])) <;> first | rfl | exact (ref_id (by assumption)).symm⟩
      · refine x_aload_n C (pc := 19) dX8_sheet_19 0 rfl rfl ?_
        refine xG_log C fl_X8_12 dX8_sheet_20 ?_
        refine x_iconst C (pc := 23) (v := 5) dX8_sheet_23 (by decide) ?_
        refine x_callVi C (pc := 24) [.int 5] (fun l D => c_X2_found l D G X 5 in5_6) (xe_1 G _) rfl ml_X8_94 co_X2_found im_X2_found se_X2_found in_X2 hy_X2_found (by decide) (by decide) (Nat.le_of_ble_eq_true rfl) dX8_sheet_24 rfl (kx ?_)
        refine x_eqX (X' := (ux (ux X 100 0 5) 9 (ix 5) ((X 9 (ix 5)) + 1))) rfl ?_
        exact ret (-3) (ux (ux X 100 0 5) 9 (ix 5) ((X 9 (ix 5)) + 1)) 27 _ dX8_sheet_27 ⟨by unfold v_sheet; (repeat (first | rw [if_pos (by assumption)] | rw [if_neg (by assumption)])) <;> first | rfl , by unfold s_sheet; (repeat (first | rw [if_pos (by assumption)] | rw [if_neg (by assumption)])) <;> first | rfl | exact (ref_id (by assumption)).symm⟩
    · refine x_iconst C (pc := 13) (v := (-1)) dX8_sheet_13 (by decide) ?_
      exact ret (-1) X 14 _ dX8_sheet_14 ⟨by unfold v_sheet; (repeat (first | rw [if_pos (by assumption)] | rw [if_neg (by assumption)])) <;> first | rfl , by unfold s_sheet; (repeat (first | rw [if_pos (by assumption)] | rw [if_neg (by assumption)])) <;> first | rfl | exact (ref_id (by assumption)).symm⟩
set_option maxHeartbeats 4000000 in
set_option maxRecDepth 100000 in
theorem c_X8_lay (l : Launch) (D : va_G) (G : Gx) (X : St) (s : Int32) (i : Int32) (v : Int32) (hZ : ∀ j, j < 4 → (X 22) j = (-1) ∨ ∃ z, z ≤ 16 ∧ (X 22) j = nI z) : Ci l yX8_lay cX8_lay 4 (some .int) 1 (xw G) D (tyG G) [.ref (G.1 0), .int s, .int i, .int v] X (fun r X1 => r = (v_lay X s i) ∧ X1 = (s_lay X s i v)) := by
  refine m_i (nL := 4) (lv := [(0, .ref (G.1 0)), (1, .int s), (2, .int i), (3, .int v)]) [.ref (G.1 0), .int s, .int i, .int v] RX8 rfl (xw_adr G) (by decide +kernel) (Nat.le_of_ble_eq_true rfl) rfl (fun K C ret => ?_)
  refine x_iload_n C (pc := 0) dX8_lay_0 1 rfl rfl ?_
  refine x_callSi C (pc := 1) [.int s] (fun l D => c_X8_isSheet l D G X s ) ml_X8_128 co_X8_isSheet st_X8_isSheet in_X8 hy_X8_isSheet.2 (by decide) (by decide) (Nat.le_of_ble_eq_true rfl) dX8_lay_1 rfl (kx ?_)
  refine x_if_ne C (pc := 4) (tgt := 9) dX8_lay_4 (by decide) (fun c4 => ?_) (fun c4 => ?_)
  · have hs : vp_in s 4 := isSheet_in c4
    refine x_aload_n C (pc := 9) dX8_lay_9 0 rfl rfl ?_
    refine xG_sheets C fl_X8_26 dX8_lay_10 ?_
    refine x_iload_n C (pc := 13) dX8_lay_13 1 rfl rfl ?_
    refine x_callVi C (pc := 14) [.int s] (fun l D => c_X4_isMissing l D G X s (by assumption)) (xe_3 G _) rfl ml_X8_135 co_X4_isMissing im_X4_isMissing se_X4_isMissing in_X4 hy_X4_isMissing (by decide) (by decide) (Nat.le_of_ble_eq_true rfl) dX8_lay_14 rfl (kx ?_)
    refine x_if_eq C (pc := 17) (tgt := 29) dX8_lay_17 (by decide) (fun c17 => ?_) (fun c17 => ?_)
    · refine x_iload_n C (pc := 29) dX8_lay_29 2 rfl rfl ?_
      refine x_if_lt C (pc := 30) (tgt := 46) dX8_lay_30 (by decide) (fun c30 => ?_) (fun c30 => ?_)
      · refine x_aload_n C (pc := 46) dX8_lay_46 0 rfl rfl ?_
        refine xG_log C fl_X8_12 dX8_lay_47 ?_
        refine x_iconst C (pc := 50) (v := 2) dX8_lay_50 (by decide) ?_
        refine x_callVi C (pc := 51) [.int 2] (fun l D => c_X2_found l D G X 2 in2_6) (xe_1 G _) rfl ml_X8_94 co_X2_found im_X2_found se_X2_found in_X2 hy_X2_found (by decide) (by decide) (Nat.le_of_ble_eq_true rfl) dX8_lay_51 rfl (kx ?_)
        refine x_eqX (X' := (ux (ux X 100 0 2) 9 (ix 2) ((X 9 (ix 2)) + 1))) rfl ?_
        exact ret (-3) (ux (ux X 100 0 2) 9 (ix 2) ((X 9 (ix 2)) + 1)) 54 _ dX8_lay_54 ⟨by unfold v_lay; (repeat (first | rw [if_pos (by assumption)] | rw [if_neg (by assumption)])) <;> first | rfl , by unfold s_lay; (repeat (first | rw [if_pos (by assumption)] | rw [if_neg (by assumption)])) <;> first | rfl | exact (ref_id (by assumption)).symm⟩
      · refine x_iload_n C (pc := 33) dX8_lay_33 2 rfl rfl ?_
        refine x_aload_n C (pc := 34) dX8_lay_34 0 rfl rfl ?_
        refine xG_sheets C fl_X8_26 dX8_lay_35 ?_
        refine xG_ssize C fl_X8_138 dX8_lay_38 ?_
        refine x_iload_n C (pc := 41) dX8_lay_41 1 rfl rfl ?_
        refine xL_ssize C dX8_lay_42 (by assumption) ?_
        refine x_icmp_lt C (pc := 43) (tgt := 55) dX8_lay_43 (by decide) (fun c43 => ?_) (fun c43 => ?_)
        · have hm : ¬ (X 22) (ix s) = (-1) := fun h => by simp [v_X4_isMissing, h] at c17
          have hi : vp_in i 16 := by
            rcases hZ (ix s) (in_ix hs) with h | ⟨z, h1, h2⟩
            · exact absurd h hm
            · exact in_lt2 c30 c43 h2 h1 (by decide)
          refine x_sipush C (pc := 55) (v := 1000) dX8_lay_55 (by decide) ?_
          refine x_aload_n C (pc := 58) dX8_lay_58 0 rfl rfl ?_
          refine xG_sheets C fl_X8_26 dX8_lay_59 ?_
          refine x_iload_n C (pc := 62) dX8_lay_62 1 rfl rfl ?_
          refine x_iload_n C (pc := 63) dX8_lay_63 2 rfl rfl ?_
          refine x_iload_n C (pc := 64) dX8_lay_64 3 rfl rfl ?_
          refine x_i2b C (pc := 65) dX8_lay_65 ?_
          refine x_callVi C (pc := 66) [.int s, .int i, .int ((Int32.toInt8 v).toInt32)] (fun l D => c_X4_replace l D G X s i ((Int32.toInt8 v).toInt32) (by assumption) (by assumption)) (xe_3 G _) rfl ml_X8_141 co_X4_replace im_X4_replace se_X4_replace in_X4 hy_X4_replace (by decide) (by decide) (Nat.le_of_ble_eq_true rfl) dX8_lay_66 rfl (kx ?_)
          refine x_iadd C (pc := 69) dX8_lay_69 ?_
          exact ret (1000 + (X (43 + ix s) (ix i))) (s_X4_replace X s i ((Int32.toInt8 v).toInt32)) 70 _ dX8_lay_70 ⟨by unfold v_lay; (repeat (first | rw [if_pos (by assumption)] | rw [if_neg (by assumption)])) <;> first | rfl , by unfold s_lay; (repeat (first | rw [if_pos (by assumption)] | rw [if_neg (by assumption)])) <;> first | rfl | exact (ref_id (by assumption)).symm⟩
        · refine x_aload_n C (pc := 46) dX8_lay_46 0 rfl rfl ?_
          refine xG_log C fl_X8_12 dX8_lay_47 ?_
          refine x_iconst C (pc := 50) (v := 2) dX8_lay_50 (by decide) ?_
          refine x_callVi C (pc := 51) [.int 2] (fun l D => c_X2_found l D G X 2 in2_6) (xe_1 G _) rfl ml_X8_94 co_X2_found im_X2_found se_X2_found in_X2 hy_X2_found (by decide) (by decide) (Nat.le_of_ble_eq_true rfl) dX8_lay_51 rfl (kx ?_)
          refine x_eqX (X' := (ux (ux X 100 0 2) 9 (ix 2) ((X 9 (ix 2)) + 1))) rfl ?_
          exact ret (-3) (ux (ux X 100 0 2) 9 (ix 2) ((X 9 (ix 2)) + 1)) 54 _ dX8_lay_54 ⟨by unfold v_lay; (repeat (first | rw [if_pos (by assumption)] | rw [if_neg (by assumption)])) <;> first | rfl , by unfold s_lay; (repeat (first | rw [if_pos (by assumption)] | rw [if_neg (by assumption)])) <;> first | rfl | exact (ref_id (by assumption)).symm⟩
    · refine x_aload_n C (pc := 20) dX8_lay_20 0 rfl rfl ?_
      refine xG_log C fl_X8_12 dX8_lay_21 ?_
      refine x_iconst C (pc := 24) (v := 1) dX8_lay_24 (by decide) ?_
      refine x_callVi C (pc := 25) [.int 1] (fun l D => c_X2_found l D G X 1 in1_6) (xe_1 G _) rfl ml_X8_94 co_X2_found im_X2_found se_X2_found in_X2 hy_X2_found (by decide) (by decide) (Nat.le_of_ble_eq_true rfl) dX8_lay_25 rfl (kx ?_)
      refine x_eqX (X' := (ux (ux X 100 0 1) 9 (ix 1) ((X 9 (ix 1)) + 1))) rfl ?_
      exact ret (-3) (ux (ux X 100 0 1) 9 (ix 1) ((X 9 (ix 1)) + 1)) 28 _ dX8_lay_28 ⟨by unfold v_lay; (repeat (first | rw [if_pos (by assumption)] | rw [if_neg (by assumption)])) <;> first | rfl , by unfold s_lay; (repeat (first | rw [if_pos (by assumption)] | rw [if_neg (by assumption)])) <;> first | rfl | exact (ref_id (by assumption)).symm⟩
  · refine x_iconst C (pc := 7) (v := (-1)) dX8_lay_7 (by decide) ?_
    exact ret (-1) X 8 _ dX8_lay_8 ⟨by unfold v_lay; (repeat (first | rw [if_pos (by assumption)] | rw [if_neg (by assumption)])) <;> first | rfl , by unfold s_lay; (repeat (first | rw [if_pos (by assumption)] | rw [if_neg (by assumption)])) <;> first | rfl | exact (ref_id (by assumption)).symm⟩
set_option maxHeartbeats 4000000 in
set_option maxRecDepth 100000 in
theorem c_X8_tear (l : Launch) (D : va_G) (G : Gx) (X : St) (s : Int32) : Ci l yX8_tear cX8_tear 2 (some .int) 1 (xw G) D (tyG G) [.ref (G.1 0), .int s] X (fun r X1 => r = (v_tear X s) ∧ X1 = (s_tear X s)) := by
  refine m_i (nL := 2) (lv := [(0, .ref (G.1 0)), (1, .int s)]) [.ref (G.1 0), .int s] RX8 rfl (xw_adr G) (by decide +kernel) (Nat.le_of_ble_eq_true rfl) rfl (fun K C ret => ?_)
  refine x_iload_n C (pc := 0) dX8_tear_0 1 rfl rfl ?_
  refine x_callSi C (pc := 1) [.int s] (fun l D => c_X8_isSheet l D G X s ) ml_X8_128 co_X8_isSheet st_X8_isSheet in_X8 hy_X8_isSheet.2 (by decide) (by decide) (Nat.le_of_ble_eq_true rfl) dX8_tear_1 rfl (kx ?_)
  refine x_if_ne C (pc := 4) (tgt := 9) dX8_tear_4 (by decide) (fun c4 => ?_) (fun c4 => ?_)
  · have hs : vp_in s 4 := isSheet_in c4
    refine x_aload_n C (pc := 9) dX8_tear_9 0 rfl rfl ?_
    refine xG_sheets C fl_X8_26 dX8_tear_10 ?_
    refine x_iload_n C (pc := 13) dX8_tear_13 1 rfl rfl ?_
    refine x_callVi C (pc := 14) [.int s] (fun l D => c_X4_isMissing l D G X s (by assumption)) (xe_3 G _) rfl ml_X8_135 co_X4_isMissing im_X4_isMissing se_X4_isMissing in_X4 hy_X4_isMissing (by decide) (by decide) (Nat.le_of_ble_eq_true rfl) dX8_tear_14 rfl (kx ?_)
    refine x_if_eq C (pc := 17) (tgt := 29) dX8_tear_17 (by decide) (fun c17 => ?_) (fun c17 => ?_)
    · refine x_aload_n C (pc := 29) dX8_tear_29 0 rfl rfl ?_
      refine xG_sheets C fl_X8_26 dX8_tear_30 ?_
      refine xG_ssize C fl_X8_138 dX8_tear_33 ?_
      refine x_iload_n C (pc := 36) dX8_tear_36 1 rfl rfl ?_
      refine x_iconst C (pc := 37) (v := (-1)) dX8_tear_37 (by decide) ?_
      refine xS_ssize C dX8_tear_38 (by assumption) ?_
      refine x_iconst C (pc := 39) (v := 1) dX8_tear_39 (by decide) ?_
      exact ret 1 (ux X 22 (ix s) (-1)) 40 _ dX8_tear_40 ⟨by unfold v_tear; (repeat (first | rw [if_pos (by assumption)] | rw [if_neg (by assumption)])) <;> first | rfl , by unfold s_tear; (repeat (first | rw [if_pos (by assumption)] | rw [if_neg (by assumption)])) <;> first | rfl | exact (ref_id (by assumption)).symm⟩
    · refine x_aload_n C (pc := 20) dX8_tear_20 0 rfl rfl ?_
      refine xG_log C fl_X8_12 dX8_tear_21 ?_
      refine x_iconst C (pc := 24) (v := 1) dX8_tear_24 (by decide) ?_
      refine x_callVi C (pc := 25) [.int 1] (fun l D => c_X2_found l D G X 1 in1_6) (xe_1 G _) rfl ml_X8_94 co_X2_found im_X2_found se_X2_found in_X2 hy_X2_found (by decide) (by decide) (Nat.le_of_ble_eq_true rfl) dX8_tear_25 rfl (kx ?_)
      refine x_eqX (X' := (ux (ux X 100 0 1) 9 (ix 1) ((X 9 (ix 1)) + 1))) rfl ?_
      exact ret (-3) (ux (ux X 100 0 1) 9 (ix 1) ((X 9 (ix 1)) + 1)) 28 _ dX8_tear_28 ⟨by unfold v_tear; (repeat (first | rw [if_pos (by assumption)] | rw [if_neg (by assumption)])) <;> first | rfl , by unfold s_tear; (repeat (first | rw [if_pos (by assumption)] | rw [if_neg (by assumption)])) <;> first | rfl | exact (ref_id (by assumption)).symm⟩
  · refine x_iconst C (pc := 7) (v := (-1)) dX8_tear_7 (by decide) ?_
    exact ret (-1) X 8 _ dX8_tear_8 ⟨by unfold v_tear; (repeat (first | rw [if_pos (by assumption)] | rw [if_neg (by assumption)])) <;> first | rfl , by unfold s_tear; (repeat (first | rw [if_pos (by assumption)] | rw [if_neg (by assumption)])) <;> first | rfl | exact (ref_id (by assumption)).symm⟩
set_option maxHeartbeats 4000000 in
set_option maxRecDepth 100000 in
theorem c_X8_copy (l : Launch) (D : va_G) (G : Gx) (X : St) (s : Int32) (i : Int32) (t : Int32) (j : Int32) (n : Int32) (hZ : ∀ j, j < 4 → (X 22) j = (-1) ∨ ∃ z, z ≤ 16 ∧ (X 22) j = nI z) (hF : ∀ r i, r < 4 → fits .byte (.int (X (43 + r) i)) = true) : Ci l yX8_copy cX8_copy 6 (some .int) 1 (xw G) D (tyG G) [.ref (G.1 0), .int s, .int i, .int t, .int j, .int n] X (fun r X1 => r = (v_copy X s i t j n) ∧ X1 = (s_copy X s i t j n)) := by
  refine m_i (nL := 6) (lv := [(0, .ref (G.1 0)), (1, .int s), (2, .int i), (3, .int t), (4, .int j), (5, .int n)]) [.ref (G.1 0), .int s, .int i, .int t, .int j, .int n] RX8 rfl (xw_adr G) (by decide +kernel) (Nat.le_of_ble_eq_true rfl) rfl (fun K C ret => ?_)
  refine x_iload_n C (pc := 0) dX8_copy_0 1 rfl rfl ?_
  refine x_callSi C (pc := 1) [.int s] (fun l D => c_X8_isSheet l D G X s ) ml_X8_128 co_X8_isSheet st_X8_isSheet in_X8 hy_X8_isSheet.2 (by decide) (by decide) (Nat.le_of_ble_eq_true rfl) dX8_copy_1 rfl (kx ?_)
  refine x_if_eq C (pc := 4) (tgt := 14) dX8_copy_4 (by decide) (fun c4 => ?_) (fun c4 => ?_)
  · refine x_iconst C (pc := 14) (v := (-1)) dX8_copy_14 (by decide) ?_
    exact ret (-1) X 15 _ dX8_copy_15 ⟨by unfold v_copy; (repeat (first | rw [if_pos (by assumption)] | rw [if_neg (by assumption)])) <;> first | rfl , by unfold s_copy; (repeat (first | rw [if_pos (by assumption)] | rw [if_neg (by assumption)])) <;> first | rfl | exact (ref_id (by assumption)).symm⟩
  · refine x_iload_n C (pc := 7) dX8_copy_7 3 rfl rfl ?_
    refine x_callSi C (pc := 8) [.int t] (fun l D => c_X8_isSheet l D G X t ) ml_X8_128 co_X8_isSheet st_X8_isSheet in_X8 hy_X8_isSheet.2 (by decide) (by decide) (Nat.le_of_ble_eq_true rfl) dX8_copy_8 rfl (kx ?_)
    refine x_if_ne C (pc := 11) (tgt := 16) dX8_copy_11 (by decide) (fun c11 => ?_) (fun c11 => ?_)
    · have hs : vp_in s 4 := isSheet_in c4
      have ht : vp_in t 4 := isSheet_in c11
      refine x_aload_n C (pc := 16) dX8_copy_16 0 rfl rfl ?_
      refine xG_sheets C fl_X8_26 dX8_copy_17 ?_
      refine x_iload_n C (pc := 20) dX8_copy_20 1 rfl rfl ?_
      refine x_callVi C (pc := 21) [.int s] (fun l D => c_X4_isMissing l D G X s (by assumption)) (xe_3 G _) rfl ml_X8_135 co_X4_isMissing im_X4_isMissing se_X4_isMissing in_X4 hy_X4_isMissing (by decide) (by decide) (Nat.le_of_ble_eq_true rfl) dX8_copy_21 rfl (kx ?_)
      refine x_if_ne C (pc := 24) (tgt := 38) dX8_copy_24 (by decide) (fun c24 => ?_) (fun c24 => ?_)
      · refine x_aload_n C (pc := 38) dX8_copy_38 0 rfl rfl ?_
        refine xG_log C fl_X8_12 dX8_copy_39 ?_
        refine x_iconst C (pc := 42) (v := 1) dX8_copy_42 (by decide) ?_
        refine x_callVi C (pc := 43) [.int 1] (fun l D => c_X2_found l D G X 1 in1_6) (xe_1 G _) rfl ml_X8_94 co_X2_found im_X2_found se_X2_found in_X2 hy_X2_found (by decide) (by decide) (Nat.le_of_ble_eq_true rfl) dX8_copy_43 rfl (kx ?_)
        refine x_eqX (X' := (ux (ux X 100 0 1) 9 (ix 1) ((X 9 (ix 1)) + 1))) rfl ?_
        exact ret (-3) (ux (ux X 100 0 1) 9 (ix 1) ((X 9 (ix 1)) + 1)) 46 _ dX8_copy_46 ⟨by unfold v_copy; (repeat (first | rw [if_pos (by assumption)] | rw [if_neg (by assumption)])) <;> first | rfl , by unfold s_copy; (repeat (first | rw [if_pos (by assumption)] | rw [if_neg (by assumption)])) <;> first | rfl | exact (ref_id (by assumption)).symm⟩
      · refine x_aload_n C (pc := 27) dX8_copy_27 0 rfl rfl ?_
        refine xG_sheets C fl_X8_26 dX8_copy_28 ?_
        refine x_iload_n C (pc := 31) dX8_copy_31 3 rfl rfl ?_
        refine x_callVi C (pc := 32) [.int t] (fun l D => c_X4_isMissing l D G X t (by assumption)) (xe_3 G _) rfl ml_X8_135 co_X4_isMissing im_X4_isMissing se_X4_isMissing in_X4 hy_X4_isMissing (by decide) (by decide) (Nat.le_of_ble_eq_true rfl) dX8_copy_32 rfl (kx ?_)
        refine x_if_eq C (pc := 35) (tgt := 47) dX8_copy_35 (by decide) (fun c35 => ?_) (fun c35 => ?_)
        · refine x_aload_n C (pc := 47) dX8_copy_47 0 rfl rfl ?_
          refine xG_sheets C fl_X8_26 dX8_copy_48 ?_
          refine x_iload_n C (pc := 51) dX8_copy_51 1 rfl rfl ?_
          refine x_iload_n C (pc := 52) dX8_copy_52 2 rfl rfl ?_
          refine x_iload C (pc := 53) dX8_copy_53 5 rfl ?_
          refine x_callVi C (pc := 55) [.int s, .int i, .int n] (fun l D => c_X4_holds l D G X s i n (by assumption)) (xe_3 G _) rfl ml_X8_145 co_X4_holds im_X4_holds se_X4_holds in_X4 hy_X4_holds (by decide) (by decide) (Nat.le_of_ble_eq_true rfl) dX8_copy_55 rfl (kx ?_)
          refine x_if_eq C (pc := 58) (tgt := 76) dX8_copy_58 (by decide) (fun c58 => ?_) (fun c58 => ?_)
          · refine x_aload_n C (pc := 76) dX8_copy_76 0 rfl rfl ?_
            refine xG_log C fl_X8_12 dX8_copy_77 ?_
            refine x_iconst C (pc := 80) (v := 2) dX8_copy_80 (by decide) ?_
            refine x_callVi C (pc := 81) [.int 2] (fun l D => c_X2_found l D G X 2 in2_6) (xe_1 G _) rfl ml_X8_94 co_X2_found im_X2_found se_X2_found in_X2 hy_X2_found (by decide) (by decide) (Nat.le_of_ble_eq_true rfl) dX8_copy_81 rfl (kx ?_)
            refine x_eqX (X' := (ux (ux X 100 0 2) 9 (ix 2) ((X 9 (ix 2)) + 1))) rfl ?_
            exact ret (-3) (ux (ux X 100 0 2) 9 (ix 2) ((X 9 (ix 2)) + 1)) 84 _ dX8_copy_84 ⟨by unfold v_copy; (repeat (first | rw [if_pos (by assumption)] | rw [if_neg (by assumption)])) <;> first | rfl , by unfold s_copy; (repeat (first | rw [if_pos (by assumption)] | rw [if_neg (by assumption)])) <;> first | rfl | exact (ref_id (by assumption)).symm⟩
          · refine x_aload_n C (pc := 61) dX8_copy_61 0 rfl rfl ?_
            refine xG_sheets C fl_X8_26 dX8_copy_62 ?_
            refine x_iload_n C (pc := 65) dX8_copy_65 3 rfl rfl ?_
            refine x_iload C (pc := 66) dX8_copy_66 4 rfl ?_
            refine x_iload C (pc := 68) dX8_copy_68 5 rfl ?_
            refine x_callVi C (pc := 70) [.int t, .int j, .int n] (fun l D => c_X4_holds l D G X t j n (by assumption)) (xe_3 G _) rfl ml_X8_145 co_X4_holds im_X4_holds se_X4_holds in_X4 hy_X4_holds (by decide) (by decide) (Nat.le_of_ble_eq_true rfl) dX8_copy_70 rfl (kx ?_)
            refine x_if_ne C (pc := 73) (tgt := 85) dX8_copy_73 (by decide) (fun c73 => ?_) (fun c73 => ?_)
            · have hms : ¬ (X 22) (ix s) = (-1) := fun h => by simp [v_X4_isMissing, h] at c24
              have hmt : ¬ (X 22) (ix t) = (-1) := fun h => by simp [v_X4_isMissing, h] at c35
              obtain ⟨h1, h3, -, -⟩ := holds_f c58
              obtain ⟨h2, -, -, -⟩ := holds_f c73
              have h4 : ix i + ix n ≤ 16 := by
                rcases hZ (ix s) (in_ix hs) with h | ⟨z, q1, q2⟩
                · exact absurd h hms
                · exact holds_b c58 q2 q1
              have h5 : ix j + ix n ≤ 16 := by
                rcases hZ (ix t) (in_ix ht) with h | ⟨z, q1, q2⟩
                · exact absurd h hmt
                · exact holds_b c73 q2 q1
              refine x_aload_n C (pc := 85) dX8_copy_85 0 rfl rfl ?_
              refine xG_sheets C fl_X8_26 dX8_copy_86 ?_
              refine xG_bytes C fl_X8_149 dX8_copy_89 ?_
              refine x_iload_n C (pc := 92) dX8_copy_92 1 rfl rfl ?_
              refine xL_bytes C dX8_copy_93 (by assumption) ?_
              refine x_iload_n C (pc := 94) dX8_copy_94 2 rfl rfl ?_
              refine x_aload_n C (pc := 95) dX8_copy_95 0 rfl rfl ?_
              refine xG_sheets C fl_X8_26 dX8_copy_96 ?_
              refine xG_bytes C fl_X8_149 dX8_copy_99 ?_
              refine x_iload_n C (pc := 102) dX8_copy_102 3 rfl rfl ?_
              refine xL_bytes C dX8_copy_103 (by assumption) ?_
              refine x_iload C (pc := 104) dX8_copy_104 4 rfl ?_
              refine x_iload C (pc := 106) dX8_copy_106 5 rfl ?_
              refine x_acopy C (pc := 108) ml_X8_153 (by decide) (in_ix hs) (in_ix ht) h1 h2 h3 h4 h5 (fun k => hF _ k (in_ix hs)) dX8_copy_108 rfl ?_
              refine x_iconst C (pc := 111) (v := 1) dX8_copy_111 (by decide) ?_
              exact ret 1 (sr X (43 + ix t) (va_cpy (X (43 + ix s)) (X (43 + ix t)) (ix i) (ix j) (ix n))) 112 _ dX8_copy_112 ⟨by unfold v_copy; (repeat (first | rw [if_pos (by assumption)] | rw [if_neg (by assumption)])) <;> first | rfl , by unfold s_copy; (repeat (first | rw [if_pos (by assumption)] | rw [if_neg (by assumption)])) <;> first | rfl | exact (ref_id (by assumption)).symm⟩
            · refine x_aload_n C (pc := 76) dX8_copy_76 0 rfl rfl ?_
              refine xG_log C fl_X8_12 dX8_copy_77 ?_
              refine x_iconst C (pc := 80) (v := 2) dX8_copy_80 (by decide) ?_
              refine x_callVi C (pc := 81) [.int 2] (fun l D => c_X2_found l D G X 2 in2_6) (xe_1 G _) rfl ml_X8_94 co_X2_found im_X2_found se_X2_found in_X2 hy_X2_found (by decide) (by decide) (Nat.le_of_ble_eq_true rfl) dX8_copy_81 rfl (kx ?_)
              refine x_eqX (X' := (ux (ux X 100 0 2) 9 (ix 2) ((X 9 (ix 2)) + 1))) rfl ?_
              exact ret (-3) (ux (ux X 100 0 2) 9 (ix 2) ((X 9 (ix 2)) + 1)) 84 _ dX8_copy_84 ⟨by unfold v_copy; (repeat (first | rw [if_pos (by assumption)] | rw [if_neg (by assumption)])) <;> first | rfl , by unfold s_copy; (repeat (first | rw [if_pos (by assumption)] | rw [if_neg (by assumption)])) <;> first | rfl | exact (ref_id (by assumption)).symm⟩
        · refine x_aload_n C (pc := 38) dX8_copy_38 0 rfl rfl ?_
          refine xG_log C fl_X8_12 dX8_copy_39 ?_
          refine x_iconst C (pc := 42) (v := 1) dX8_copy_42 (by decide) ?_
          refine x_callVi C (pc := 43) [.int 1] (fun l D => c_X2_found l D G X 1 in1_6) (xe_1 G _) rfl ml_X8_94 co_X2_found im_X2_found se_X2_found in_X2 hy_X2_found (by decide) (by decide) (Nat.le_of_ble_eq_true rfl) dX8_copy_43 rfl (kx ?_)
          refine x_eqX (X' := (ux (ux X 100 0 1) 9 (ix 1) ((X 9 (ix 1)) + 1))) rfl ?_
          exact ret (-3) (ux (ux X 100 0 1) 9 (ix 1) ((X 9 (ix 1)) + 1)) 46 _ dX8_copy_46 ⟨by unfold v_copy; (repeat (first | rw [if_pos (by assumption)] | rw [if_neg (by assumption)])) <;> first | rfl , by unfold s_copy; (repeat (first | rw [if_pos (by assumption)] | rw [if_neg (by assumption)])) <;> first | rfl | exact (ref_id (by assumption)).symm⟩
    · refine x_iconst C (pc := 14) (v := (-1)) dX8_copy_14 (by decide) ?_
      exact ret (-1) X 15 _ dX8_copy_15 ⟨by unfold v_copy; (repeat (first | rw [if_pos (by assumption)] | rw [if_neg (by assumption)])) <;> first | rfl , by unfold s_copy; (repeat (first | rw [if_pos (by assumption)] | rw [if_neg (by assumption)])) <;> first | rfl | exact (ref_id (by assumption)).symm⟩
set_option maxHeartbeats 4000000 in
set_option maxRecDepth 100000 in
theorem c_X8_prices (l : Launch) (D : va_G) (G : Gx) (X : St) (s : Int32) : Ci l yX8_prices cX8_prices 3 (some .int) 1 (xw G) D (tyG G) [.ref (G.1 0), .int s] X (fun r X1 => r = (v_prices X s) ∧ X1 = (s_prices X s)) := by
  refine m_i (nL := 3) (lv := [(0, .ref (G.1 0)), (1, .int s)]) [.ref (G.1 0), .int s] RX8 rfl (xw_adr G) (by decide +kernel) (Nat.le_of_ble_eq_true rfl) rfl (fun K C ret => ?_)
  refine x_iload_n C (pc := 0) dX8_prices_0 1 rfl rfl ?_
  refine x_bipush C (pc := 1) (v := (-9)) dX8_prices_1 (by decide) ?_
  refine x_icmp_eq C (pc := 3) (tgt := 15) dX8_prices_3 (by decide) (fun c3 => ?_) (fun c3 => ?_)
  · refine x_iload_n C (pc := 15) dX8_prices_15 1 rfl rfl ?_
    refine x_bipush C (pc := 16) (v := (-9)) dX8_prices_16 (by decide) ?_
    refine x_icmp_eq C (pc := 18) (tgt := 41) dX8_prices_18 (by decide) (fun c18 => ?_) (fun c18 => absurd c3 c18)
    refine x_aload_n C (pc := 41) dX8_prices_41 0 rfl rfl ?_
    refine xG_sheets C fl_X8_26 dX8_prices_42 ?_
    refine xG_teller C fl_X8_159 dX8_prices_45 ?_
    refine x_istore_n C (pc := 48) dX8_prices_48 [(0, .ref (G.1 0)), (1, .int s), (2, .int (X 103 0))] [1, 2, 0] rfl (by decide) rfl ?_
    refine x_aload_n C (pc := 49) dX8_prices_49 0 rfl rfl ?_
    refine xG_sheets C fl_X8_26 dX8_prices_50 ?_
    refine x_iload_n C (pc := 53) dX8_prices_53 1 rfl rfl ?_
    refine xP_teller C fl_X8_159 (v := s) dX8_prices_54 ?_
    refine x_iload_n C (pc := 57) dX8_prices_57 2 rfl rfl ?_
    exact ret (X 103 0) (ux X 103 0 s) 58 _ dX8_prices_58 ⟨by unfold v_prices; (repeat (first | rw [if_pos (by assumption)] | rw [if_neg (by assumption)])) <;> first | rfl , by unfold s_prices; (repeat (first | rw [if_pos (by assumption)] | rw [if_neg (by assumption)])) <;> first | rfl | exact (ref_id (by assumption)).symm⟩
  · refine x_iload_n C (pc := 6) dX8_prices_6 1 rfl rfl ?_
    refine x_callSi C (pc := 7) [.int s] (fun l D => c_X8_isSheet l D G X s ) ml_X8_128 co_X8_isSheet st_X8_isSheet in_X8 hy_X8_isSheet.2 (by decide) (by decide) (Nat.le_of_ble_eq_true rfl) dX8_prices_7 rfl (kx ?_)
    refine x_if_ne C (pc := 10) (tgt := 15) dX8_prices_10 (by decide) (fun c10 => ?_) (fun c10 => ?_)
    · refine x_iload_n C (pc := 15) dX8_prices_15 1 rfl rfl ?_
      refine x_bipush C (pc := 16) (v := (-9)) dX8_prices_16 (by decide) ?_
      refine x_icmp_eq C (pc := 18) (tgt := 41) dX8_prices_18 (by decide) (fun c18 => absurd c18 c3) (fun c18 => ?_)
      have hs : vp_in s 4 := isSheet_in c10
      refine x_aload_n C (pc := 21) dX8_prices_21 0 rfl rfl ?_
      refine xG_sheets C fl_X8_26 dX8_prices_22 ?_
      refine x_iload_n C (pc := 25) dX8_prices_25 1 rfl rfl ?_
      refine x_callVi C (pc := 26) [.int s] (fun l D => c_X4_isMissing l D G X s (by assumption)) (xe_3 G _) rfl ml_X8_135 co_X4_isMissing im_X4_isMissing se_X4_isMissing in_X4 hy_X4_isMissing (by decide) (by decide) (Nat.le_of_ble_eq_true rfl) dX8_prices_26 rfl (kx ?_)
      refine x_if_eq C (pc := 29) (tgt := 41) dX8_prices_29 (by decide) (fun c29 => ?_) (fun c29 => ?_)
      · refine x_aload_n C (pc := 41) dX8_prices_41 0 rfl rfl ?_
        refine xG_sheets C fl_X8_26 dX8_prices_42 ?_
        refine xG_teller C fl_X8_159 dX8_prices_45 ?_
        refine x_istore_n C (pc := 48) dX8_prices_48 [(0, .ref (G.1 0)), (1, .int s), (2, .int (X 103 0))] [1, 2, 0] rfl (by decide) rfl ?_
        refine x_aload_n C (pc := 49) dX8_prices_49 0 rfl rfl ?_
        refine xG_sheets C fl_X8_26 dX8_prices_50 ?_
        refine x_iload_n C (pc := 53) dX8_prices_53 1 rfl rfl ?_
        refine xP_teller C fl_X8_159 (v := s) dX8_prices_54 ?_
        refine x_iload_n C (pc := 57) dX8_prices_57 2 rfl rfl ?_
        exact ret (X 103 0) (ux X 103 0 s) 58 _ dX8_prices_58 ⟨by unfold v_prices; (repeat (first | rw [if_pos (by assumption)] | rw [if_neg (by assumption)])) <;> first | rfl , by unfold s_prices; (repeat (first | rw [if_pos (by assumption)] | rw [if_neg (by assumption)])) <;> first | rfl | exact (ref_id (by assumption)).symm⟩
      · refine x_aload_n C (pc := 32) dX8_prices_32 0 rfl rfl ?_
        refine xG_log C fl_X8_12 dX8_prices_33 ?_
        refine x_iconst C (pc := 36) (v := 1) dX8_prices_36 (by decide) ?_
        refine x_callVi C (pc := 37) [.int 1] (fun l D => c_X2_found l D G X 1 in1_6) (xe_1 G _) rfl ml_X8_94 co_X2_found im_X2_found se_X2_found in_X2 hy_X2_found (by decide) (by decide) (Nat.le_of_ble_eq_true rfl) dX8_prices_37 rfl (kx ?_)
        refine x_eqX (X' := (ux (ux X 100 0 1) 9 (ix 1) ((X 9 (ix 1)) + 1))) rfl ?_
        exact ret (-3) (ux (ux X 100 0 1) 9 (ix 1) ((X 9 (ix 1)) + 1)) 40 _ dX8_prices_40 ⟨by unfold v_prices; (repeat (first | rw [if_pos (by assumption)] | rw [if_neg (by assumption)])) <;> first | rfl , by unfold s_prices; (repeat (first | rw [if_pos (by assumption)] | rw [if_neg (by assumption)])) <;> first | rfl | exact (ref_id (by assumption)).symm⟩
    · refine x_iconst C (pc := 13) (v := (-1)) dX8_prices_13 (by decide) ?_
      exact ret (-1) X 14 _ dX8_prices_14 ⟨by unfold v_prices; (repeat (first | rw [if_pos (by assumption)] | rw [if_neg (by assumption)])) <;> first | rfl , by unfold s_prices; (repeat (first | rw [if_pos (by assumption)] | rw [if_neg (by assumption)])) <;> first | rfl | exact (ref_id (by assumption)).symm⟩
theorem price_in {X : St} {n : Int32} {k : Nat} (ht : (X 103 0) ≠ (-9) → vp_in (X 103 0) 4) (hZ : ∀ j, j < 4 → (X 22) j = (-1) ∨ ∃ z, z ≤ 16 ∧ (X 22) j = nI z) (hn : n = nI k) (hk : k < 2 ^ 31) : (X 103 0) ≠ (-9) → (X 22) (ix (X 103 0)) ≠ (-1) → (X 22) (ix (X 103 0)) ≠ 0 → vp_in (if (X 22) (ix (X 103 0)) - 1 < n then (X 22) (ix (X 103 0)) - 1 else n) 16 := by
  intro h1 h2 h3
  rcases hZ _ (in_ix (ht h1)) with h | ⟨z, hz, h⟩
  · exact absurd h h2
  · have hz0 : 0 < z := Nat.pos_of_ne_zero (fun e => h3 (by rw [h, e]; rfl))
    rw [h, nI_m1 hz0]
    by_cases hc : nI (z - 1) < n
    · rw [if_pos hc]; exact vp_in_nI (by omega) (by decide)
    · rw [if_neg hc, hn]
      rw [hn] at hc
      exact vp_in_nI (by have := Nat.not_lt.mp (fun q => hc ((nI_ltI (by omega) hk).mpr q)); omega) (by decide)

set_option maxHeartbeats 4000000 in
set_option maxRecDepth 100000 in
theorem c_X8_price (l : Launch) (D : va_G) (G : Gx) (X : St) (n : Int32) (ht : (X 103 0) ≠ (-9) → vp_in (X 103 0) 4) (hZ : ∀ j, j < 4 → (X 22) j = (-1) ∨ ∃ z, z ≤ 16 ∧ (X 22) j = nI z) : Ci l yX8_price cX8_price 2 (some .int) 2 (xw G) D (tyG G) [.ref (G.1 0), .int n] X (fun r X1 => r = (v_price X n) ∧ X1 = X) := by
  refine m_i (nL := 2) (lv := [(0, .ref (G.1 0)), (1, .int n)]) [.ref (G.1 0), .int n] RX8 rfl (xw_adr G) (by decide +kernel) (Nat.le_of_ble_eq_true rfl) rfl (fun K C ret => ?_)
  refine x_iload_n C (pc := 0) dX8_price_0 1 rfl rfl ?_
  refine x_if_lt C (pc := 1) (tgt := 10) dX8_price_1 (by decide) (fun c1 => ?_) (fun c1 => ?_)
  · refine x_iconst C (pc := 10) (v := (-1)) dX8_price_10 (by decide) ?_
    exact ret (-1) X 11 _ dX8_price_11 ⟨by unfold v_price; (repeat (first | rw [if_pos (by assumption)] | rw [if_neg (by assumption)])) <;> first | rfl , rfl⟩
  · refine x_iload_n C (pc := 4) dX8_price_4 1 rfl rfl ?_
    refine x_bipush C (pc := 5) (v := 15) dX8_price_5 (by decide) ?_
    refine x_icmp_le C (pc := 7) (tgt := 12) dX8_price_7 (by decide) (fun c7 => ?_) (fun c7 => ?_)
    · obtain ⟨k, hk, hkn⟩ := nI_of c1
      refine x_aload_n C (pc := 12) dX8_price_12 0 rfl rfl ?_
      refine xG_sheets C fl_X8_26 dX8_price_13 ?_
      refine x_iload_n C (pc := 16) dX8_price_16 1 rfl rfl ?_
      refine x_callVi C (pc := 17) [.int n] (fun l D => c_X4_priceOf l D G X n ht (price_in ht hZ hkn hk)) (xe_3 G _) rfl ml_X8_162 co_X4_priceOf im_X4_priceOf se_X4_priceOf in_X4 hy_X4_priceOf (by decide) (by decide) (Nat.le_of_ble_eq_true rfl) dX8_price_17 rfl (kx ?_)
      exact ret (v_X4_priceOf X n) X 20 _ dX8_price_20 ⟨by unfold v_price; (repeat (first | rw [if_pos (by assumption)] | rw [if_neg (by assumption)])) <;> first | rfl , rfl⟩
    · refine x_iconst C (pc := 10) (v := (-1)) dX8_price_10 (by decide) ?_
      exact ret (-1) X 11 _ dX8_price_11 ⟨by unfold v_price; (repeat (first | rw [if_pos (by assumption)] | rw [if_neg (by assumption)])) <;> first | rfl , rfl⟩
set_option maxHeartbeats 4000000 in
set_option maxRecDepth 100000 in
theorem c_X8_meet (l : Launch) (D : va_G) (G : Gx) (X : St) (d : Int32) : Ci l yX8_meet cX8_meet 2 (some .int) 2 (xw G) D (tyG G) [.ref (G.1 0), .int d] X (fun r X1 => r = (v_meet X d) ∧ X1 = (s_meet X d)) := by
  refine m_i (nL := 2) (lv := [(0, .ref (G.1 0)), (1, .int d)]) [.ref (G.1 0), .int d] RX8 rfl (xw_adr G) (by decide +kernel) (Nat.le_of_ble_eq_true rfl) rfl (fun K C ret => ?_)
  refine x_iload_n C (pc := 0) dX8_meet_0 1 rfl rfl ?_
  refine x_iconst C (pc := 1) (v := 1) dX8_meet_1 (by decide) ?_
  refine x_icmp_lt C (pc := 2) (tgt := 11) dX8_meet_2 (by decide) (fun c2 => ?_) (fun c2 => ?_)
  · refine x_iconst C (pc := 11) (v := (-1)) dX8_meet_11 (by decide) ?_
    exact ret (-1) X 12 _ dX8_meet_12 ⟨by unfold v_meet; (repeat (first | rw [if_pos (by assumption)] | rw [if_neg (by assumption)])) <;> first | rfl , by unfold s_meet; (repeat (first | rw [if_pos (by assumption)] | rw [if_neg (by assumption)])) <;> first | rfl | exact (ref_id (by assumption)).symm⟩
  · refine x_iload_n C (pc := 5) dX8_meet_5 1 rfl rfl ?_
    refine x_bipush C (pc := 6) (v := 15) dX8_meet_6 (by decide) ?_
    refine x_icmp_le C (pc := 8) (tgt := 13) dX8_meet_8 (by decide) (fun c8 => ?_) (fun c8 => ?_)
    · refine x_aload_n C (pc := 13) dX8_meet_13 0 rfl rfl ?_
      refine xG_tourney C fl_X8_33 dX8_meet_14 ?_
      refine xG_going C fl_X8_76 dX8_meet_17 ?_
      refine x_if_eq C (pc := 20) (tgt := 26) dX8_meet_20 (by decide) (fun c20 => ?_) (fun c20 => ?_)
      · refine x_aload_n C (pc := 26) dX8_meet_26 0 rfl rfl ?_
        refine xG_tourney C fl_X8_33 dX8_meet_27 ?_
        refine x_iload_n C (pc := 30) dX8_meet_30 1 rfl rfl ?_
        refine x_callVv C (pc := 31) [.int d] (fun l D => c_X6_begin l D G X d ) (xe_4 G _) rfl ml_X8_165 co_X6_begin im_X6_begin se_X6_begin in_X6 hy_X6_begin (by decide) (by decide) (Nat.le_of_ble_eq_true rfl) dX8_meet_31 rfl (kxv ?_)
        refine x_aload_n C (pc := 34) dX8_meet_34 0 rfl rfl ?_
        refine xG_roster C fl_X8_19 dX8_meet_35 ?_
        refine x_callVv C (pc := 38) [] (fun l D => c_X3_clearScores l D G (s_X6_begin X d) ) (xe_2 G _) rfl ml_X8_169 co_X3_clearScores im_X3_clearScores se_X3_clearScores in_X3 hy_X3_clearScores (by decide) (by decide) (Nat.le_of_ble_eq_true rfl) dX8_meet_38 rfl (kxv ?_)
        refine x_aload_n C (pc := 41) dX8_meet_41 0 rfl rfl ?_
        refine xG_titleRow C fl_X8_61 dX8_meet_42 ?_
        refine x_callVv C (pc := 45) [] (fun l D => c_X5_clear l D G (s_X3_clearScores (s_X6_begin X d)) ) (xe_8 G _) rfl ml_X8_172 co_X5_clear im_X5_clear se_X5_clear in_X5 hy_X5_clear (by decide) (by decide) (Nat.le_of_ble_eq_true rfl) dX8_meet_45 rfl (kxv ?_)
        refine x_aload_n C (pc := 48) dX8_meet_48 0 rfl rfl ?_
        refine xG_writing C fl_X8_54 dX8_meet_49 ?_
        refine x_iconst C (pc := 52) (v := 0) dX8_meet_52 (by decide) ?_
        refine xP_fresh C fl_X8_80 (v := 0) (by decide) (by decide) dX8_meet_53 ?_
        refine x_aload_n C (pc := 56) dX8_meet_56 0 rfl rfl ?_
        refine xG_roster C fl_X8_19 dX8_meet_57 ?_
        refine xG_standing C fl_X8_112 dX8_meet_60 ?_
        refine x_top (y := ((s_X5_clear (s_X3_clearScores (s_X6_begin X d))) 102 0)) rfl ?_
        exact ret ((s_X5_clear (s_X3_clearScores (s_X6_begin X d))) 102 0) (ux (s_X5_clear (s_X3_clearScores (s_X6_begin X d))) 116 0 0) 63 _ dX8_meet_63 ⟨by unfold v_meet; (repeat (first | rw [if_pos (by assumption)] | rw [if_neg (by assumption)])) <;> first | rfl , by unfold s_meet; (repeat (first | rw [if_pos (by assumption)] | rw [if_neg (by assumption)])) <;> first | rfl | exact (ref_id (by assumption)).symm⟩
      · refine x_bipush C (pc := 23) (v := (-4)) dX8_meet_23 (by decide) ?_
        exact ret (-4) X 25 _ dX8_meet_25 ⟨by unfold v_meet; (repeat (first | rw [if_pos (by assumption)] | rw [if_neg (by assumption)])) <;> first | rfl , by unfold s_meet; (repeat (first | rw [if_pos (by assumption)] | rw [if_neg (by assumption)])) <;> first | rfl | exact (ref_id (by assumption)).symm⟩
    · refine x_iconst C (pc := 11) (v := (-1)) dX8_meet_11 (by decide) ?_
      exact ret (-1) X 12 _ dX8_meet_12 ⟨by unfold v_meet; (repeat (first | rw [if_pos (by assumption)] | rw [if_neg (by assumption)])) <;> first | rfl , by unfold s_meet; (repeat (first | rw [if_pos (by assumption)] | rw [if_neg (by assumption)])) <;> first | rfl | exact (ref_id (by assumption)).symm⟩
set_option maxHeartbeats 4000000 in
set_option maxRecDepth 100000 in
theorem c_X8_absent (l : Launch) (D : va_G) (G : Gx) (E : Nat) (X : St) (w : Int32) (a : Int32) (hE : (X 101 0) = nI E) (hE16 : E ≤ 16) : Ci l yX8_absent cX8_absent 5 (some .int) 2 (xw G) D (tyG G) [.ref (G.1 0), .int w, .int a] X (fun r X1 => r = (v_absent X w) ∧ X1 = (s_absent X w a)) := by
  refine m_i (nL := 5) (lv := [(0, .ref (G.1 0)), (1, .int w), (2, .int a)]) [.ref (G.1 0), .int w, .int a] RX8 rfl (xw_adr G) (by decide +kernel) (Nat.le_of_ble_eq_true rfl) rfl (fun K C ret => ?_)
  refine x_aload_n C (pc := 0) dX8_absent_0 0 rfl rfl ?_
  refine x_iload_n C (pc := 1) dX8_absent_1 1 rfl rfl ?_
  refine x_callVi C (pc := 2) [.int w] (fun l D => c_X8_refusalOf l D G E X w hE hE16) (xe_0 G _) rfl ml_X8_101 co_X8_refusalOf im_X8_refusalOf se_X8_refusalOf in_X8 hy_X8_refusalOf (by decide) (by decide) (Nat.le_of_ble_eq_true rfl) dX8_absent_2 rfl (kx ?_)
  refine x_istore_n C (pc := 5) dX8_absent_5 [(0, .ref (G.1 0)), (1, .int w), (2, .int a), (3, .int (v_ref X w))] [1, 2, 3, 0] rfl (by decide) rfl ?_
  refine x_iload_n C (pc := 6) dX8_absent_6 3 rfl rfl ?_
  refine x_if_eq C (pc := 7) (tgt := 12) dX8_absent_7 (by decide) (fun c7 => ?_) (fun c7 => ?_)
  · refine x_eqX (X' := X) (ref_id c7) ?_
    have hw : vp_in w 16 := knows_in (ref_kn c7).1 hE hE16
    refine x_aload_n C (pc := 12) dX8_absent_12 0 rfl rfl ?_
    refine xG_roster C fl_X8_19 dX8_absent_13 ?_
    refine xG_away C fl_X8_175 dX8_absent_16 ?_
    refine x_iload_n C (pc := 19) dX8_absent_19 1 rfl rfl ?_
    refine xL_away C dX8_absent_20 (by assumption) ?_
    refine x_istore C (pc := 21) dX8_absent_21 [(0, .ref (G.1 0)), (1, .int w), (2, .int a), (3, .int (v_ref X w)), (4, .int (X 19 (ix w)))] [1, 2, 3, 4, 0] (by decide) rfl ?_
    refine x_aload_n C (pc := 23) dX8_absent_23 0 rfl rfl ?_
    refine xG_roster C fl_X8_19 dX8_absent_24 ?_
    refine xG_away C fl_X8_175 dX8_absent_27 ?_
    refine x_iload_n C (pc := 30) dX8_absent_30 1 rfl rfl ?_
    refine x_iload_n C (pc := 31) dX8_absent_31 2 rfl rfl ?_
    refine xS_away C dX8_absent_32 (by assumption) ?_
    refine x_iload C (pc := 33) dX8_absent_33 4 rfl ?_
    refine x_if_eq C (pc := 35) (tgt := 42) dX8_absent_35 (by decide) (fun c35 => ?_) (fun c35 => ?_)
    · refine x_iconst C (pc := 42) (v := 0) dX8_absent_42 (by decide) ?_
      exact ret 0 (ux X 19 (ix w) (vp_nar .boolean a)) 43 _ dX8_absent_43 ⟨by unfold v_absent; (repeat (first | rw [if_pos (by assumption)] | rw [if_neg (by assumption)])) <;> first | rfl , by unfold s_absent; (repeat (first | rw [if_pos (by assumption)] | rw [if_neg (by assumption)])) <;> first | rfl | exact (ref_id (by assumption)).symm⟩
    · refine x_iconst C (pc := 38) (v := 1) dX8_absent_38 (by decide) ?_
      refine x_goto C (pc := 39) (tgt := 43) dX8_absent_39 (by decide) ?_
      exact ret 1 (ux X 19 (ix w) (vp_nar .boolean a)) 43 _ dX8_absent_43 ⟨by unfold v_absent; (repeat (first | rw [if_pos (by assumption)] | rw [if_neg (by assumption)])) <;> first | rfl , by unfold s_absent; (repeat (first | rw [if_pos (by assumption)] | rw [if_neg (by assumption)])) <;> first | rfl | exact (ref_id (by assumption)).symm⟩
  · refine x_iload_n C (pc := 10) dX8_absent_10 3 rfl rfl ?_
    exact ret (v_ref X w) (s_ref X w) 11 _ dX8_absent_11 ⟨by unfold v_absent; (repeat (first | rw [if_pos (by assumption)] | rw [if_neg (by assumption)])) <;> first | rfl , by unfold s_absent; (repeat (first | rw [if_pos (by assumption)] | rw [if_neg (by assumption)])) <;> first | rfl | exact (ref_id (by assumption)).symm⟩
set_option maxHeartbeats 4000000 in
set_option maxRecDepth 100000 in
theorem c_X8_barsBetween (l : Launch) (D : va_G) (G : Gx) (X : St) (a : Int32) (b : Int32) (ha : vp_in a 16) (hb : vp_in b 16) : Ci l yX8_barsBetween cX8_barsBetween 4 (some .int) 1 (xw G) D (tyG G) [.ref (G.1 0), .int a, .int b] X (fun r X1 => r = (v_bars X a b) ∧ X1 = X) := by
  refine m_i (nL := 4) (lv := [(0, .ref (G.1 0)), (1, .int a), (2, .int b)]) [.ref (G.1 0), .int a, .int b] RX8 rfl (xw_adr G) (by decide +kernel) (Nat.le_of_ble_eq_true rfl) rfl (fun K C ret => ?_)
  refine x_iconst C (pc := 0) (v := 0) dX8_barsBetween_0 (by decide) ?_
  refine x_istore_n C (pc := 1) dX8_barsBetween_1 [(0, .ref (G.1 0)), (1, .int a), (2, .int b), (3, .int 0)] [1, 2, 3, 0] rfl (by decide) rfl ?_
  have J27 : ∀ (v1 : Int32), (v1 = bars1 X a b) → WX K (xw G) 4 X 27 [(0, .ref (G.1 0)), (1, .int a), (2, .int b), (3, .int v1)] [] := by
    intro v1 hj27
    have J66 : ∀ (v2 : Int32), (v2 = bars2 X a b) → WX K (xw G) 4 X 66 [(0, .ref (G.1 0)), (1, .int a), (2, .int b), (3, .int v2)] [] := by
      intro v2 hj66
      refine x_aload_n C (pc := 66) dX8_barsBetween_66 0 rfl rfl ?_
      refine xG_tourney C fl_X8_33 dX8_barsBetween_67 ?_
      refine xG_going C fl_X8_76 dX8_barsBetween_70 ?_
      refine x_if_eq C (pc := 73) (tgt := 92) dX8_barsBetween_73 (by decide) (fun c73 => ?_) (fun c73 => ?_)
      · refine x_iload_n C (pc := 92) dX8_barsBetween_92 3 rfl rfl ?_
        exact ret v2 X 93 _ dX8_barsBetween_93 ⟨by rw [hj66]; unfold v_bars; (repeat (first | rw [if_pos (by assumption)] | rw [if_neg (by assumption)])) <;> rfl, rfl⟩
      · refine x_aload_n C (pc := 76) dX8_barsBetween_76 0 rfl rfl ?_
        refine xG_tourney C fl_X8_33 dX8_barsBetween_77 ?_
        refine x_iload_n C (pc := 80) dX8_barsBetween_80 1 rfl rfl ?_
        refine x_iload_n C (pc := 81) dX8_barsBetween_81 2 rfl rfl ?_
        refine x_callVi C (pc := 82) [.int a, .int b] (fun l D => c_X6_haveMet l D G X a b (by assumption)) (xe_4 G _) rfl ml_X8_345 co_X6_haveMet im_X6_haveMet se_X6_haveMet in_X6 hy_X6_haveMet (by decide) (by decide) (Nat.le_of_ble_eq_true rfl) dX8_barsBetween_82 rfl (kx ?_)
        refine x_if_eq C (pc := 85) (tgt := 92) dX8_barsBetween_85 (by decide) (fun c85 => ?_) (fun c85 => ?_)
        · refine x_iload_n C (pc := 92) dX8_barsBetween_92 3 rfl rfl ?_
          exact ret v2 X 93 _ dX8_barsBetween_93 ⟨by rw [hj66]; unfold v_bars; (repeat (first | rw [if_pos (by assumption)] | rw [if_neg (by assumption)])) <;> rfl, rfl⟩
        · refine x_iload_n C (pc := 88) dX8_barsBetween_88 3 rfl rfl ?_
          refine x_iconst C (pc := 89) (v := 4) dX8_barsBetween_89 (by decide) ?_
          refine x_ior C (pc := 90) dX8_barsBetween_90 ?_
          refine x_istore_n C (pc := 91) dX8_barsBetween_91 [(0, .ref (G.1 0)), (1, .int a), (2, .int b), (3, .int (v2 ||| 4))] [1, 2, 3, 0] rfl (by decide) rfl ?_
          refine x_iload_n C (pc := 92) dX8_barsBetween_92 3 rfl rfl ?_
          exact ret (v2 ||| 4) X 93 _ dX8_barsBetween_93 ⟨by rw [hj66]; unfold v_bars; (repeat (first | rw [if_pos (by assumption)] | rw [if_neg (by assumption)])) <;> rfl, rfl⟩
    refine x_aload_n C (pc := 27) dX8_barsBetween_27 0 rfl rfl ?_
    refine xG_roster C fl_X8_19 dX8_barsBetween_28 ?_
    refine xG_kin C fl_X8_342 dX8_barsBetween_31 ?_
    refine x_iload_n C (pc := 34) dX8_barsBetween_34 1 rfl rfl ?_
    refine xL_kin C dX8_barsBetween_35 (by assumption) ?_
    refine x_bipush C (pc := 36) (v := (-9)) dX8_barsBetween_36 (by decide) ?_
    refine x_icmp_eq C (pc := 38) (tgt := 66) dX8_barsBetween_38 (by decide) (fun c38 => ?_) (fun c38 => ?_)
    · exact J66 v1 (by rw [hj27]; unfold bars2; (repeat (first | rw [if_pos (by assumption)] | rw [if_neg (by assumption)])) <;> rfl)
    · refine x_aload_n C (pc := 41) dX8_barsBetween_41 0 rfl rfl ?_
      refine xG_roster C fl_X8_19 dX8_barsBetween_42 ?_
      refine xG_kin C fl_X8_342 dX8_barsBetween_45 ?_
      refine x_iload_n C (pc := 48) dX8_barsBetween_48 1 rfl rfl ?_
      refine xL_kin C dX8_barsBetween_49 (by assumption) ?_
      refine x_aload_n C (pc := 50) dX8_barsBetween_50 0 rfl rfl ?_
      refine xG_roster C fl_X8_19 dX8_barsBetween_51 ?_
      refine xG_kin C fl_X8_342 dX8_barsBetween_54 ?_
      refine x_iload_n C (pc := 57) dX8_barsBetween_57 2 rfl rfl ?_
      refine xL_kin C dX8_barsBetween_58 (by assumption) ?_
      refine x_icmp_ne C (pc := 59) (tgt := 66) dX8_barsBetween_59 (by decide) (fun c59 => ?_) (fun c59 => ?_)
      · exact J66 v1 (by rw [hj27]; unfold bars2; (repeat (first | rw [if_pos (by assumption)] | rw [if_neg (by assumption)])) <;> rfl)
      · refine x_iload_n C (pc := 62) dX8_barsBetween_62 3 rfl rfl ?_
        refine x_iconst C (pc := 63) (v := 2) dX8_barsBetween_63 (by decide) ?_
        refine x_ior C (pc := 64) dX8_barsBetween_64 ?_
        refine x_istore_n C (pc := 65) dX8_barsBetween_65 [(0, .ref (G.1 0)), (1, .int a), (2, .int b), (3, .int (v1 ||| 2))] [1, 2, 3, 0] rfl (by decide) rfl ?_
        exact J66 (v1 ||| 2) (by rw [hj27]; unfold bars2; (repeat (first | rw [if_pos (by assumption)] | rw [if_neg (by assumption)])) <;> rfl)
  refine x_aload_n C (pc := 2) dX8_barsBetween_2 0 rfl rfl ?_
  refine xG_roster C fl_X8_19 dX8_barsBetween_3 ?_
  refine xG_stable C fl_X8_122 dX8_barsBetween_6 ?_
  refine x_iload_n C (pc := 9) dX8_barsBetween_9 1 rfl rfl ?_
  refine xL_stable C dX8_barsBetween_10 (by assumption) ?_
  refine x_aload_n C (pc := 11) dX8_barsBetween_11 0 rfl rfl ?_
  refine xG_roster C fl_X8_19 dX8_barsBetween_12 ?_
  refine xG_stable C fl_X8_122 dX8_barsBetween_15 ?_
  refine x_iload_n C (pc := 18) dX8_barsBetween_18 2 rfl rfl ?_
  refine xL_stable C dX8_barsBetween_19 (by assumption) ?_
  refine x_icmp_ne C (pc := 20) (tgt := 27) dX8_barsBetween_20 (by decide) (fun c20 => ?_) (fun c20 => ?_)
  · exact J27 0 (by unfold bars1; (repeat (first | rw [if_pos (by assumption)] | rw [if_neg (by assumption)])) <;> first | rfl )
  · refine x_iload_n C (pc := 23) dX8_barsBetween_23 3 rfl rfl ?_
    refine x_iconst C (pc := 24) (v := 1) dX8_barsBetween_24 (by decide) ?_
    refine x_ior C (pc := 25) dX8_barsBetween_25 ?_
    refine x_istore_n C (pc := 26) dX8_barsBetween_26 [(0, .ref (G.1 0)), (1, .int a), (2, .int b), (3, .int (0 ||| 1))] [1, 2, 3, 0] rfl (by decide) rfl ?_
    exact J27 (0 ||| 1) (by unfold bars1; (repeat (first | rw [if_pos (by assumption)] | rw [if_neg (by assumption)])) <;> first | rfl )
set_option maxHeartbeats 4000000 in
set_option maxRecDepth 100000 in
theorem c_X8_barred (l : Launch) (D : va_G) (G : Gx) (E : Nat) (X : St) (a : Int32) (b : Int32) (hE : (X 101 0) = nI E) (hE16 : E ≤ 16) : Ci l yX8_barred cX8_barred 3 (some .int) 2 (xw G) D (tyG G) [.ref (G.1 0), .int a, .int b] X (fun r X1 => r = (v_barred X a b) ∧ X1 = (s_barred X a b)) := by
  refine m_i (nL := 3) (lv := [(0, .ref (G.1 0)), (1, .int a), (2, .int b)]) [.ref (G.1 0), .int a, .int b] RX8 rfl (xw_adr G) (by decide +kernel) (Nat.le_of_ble_eq_true rfl) rfl (fun K C ret => ?_)
  refine x_aload_n C (pc := 0) dX8_barred_0 0 rfl rfl ?_
  refine xG_roster C fl_X8_19 dX8_barred_1 ?_
  refine x_iload_n C (pc := 4) dX8_barred_4 1 rfl rfl ?_
  refine x_callVi C (pc := 5) [.int a] (fun l D => c_X3_knows l D G X a ) (xe_2 G _) rfl ml_X8_87 co_X3_knows im_X3_knows se_X3_knows in_X3 hy_X3_knows (by decide) (by decide) (Nat.le_of_ble_eq_true rfl) dX8_barred_5 rfl (kx ?_)
  refine x_if_eq C (pc := 8) (tgt := 27) dX8_barred_8 (by decide) (fun c8 => ?_) (fun c8 => ?_)
  · refine x_iconst C (pc := 27) (v := (-1)) dX8_barred_27 (by decide) ?_
    exact ret (-1) X 28 _ dX8_barred_28 ⟨by unfold v_barred; (repeat (first | rw [if_pos (by assumption)] | rw [if_neg (by assumption)])) <;> first | rfl , by unfold s_barred; (repeat (first | rw [if_pos (by assumption)] | rw [if_neg (by assumption)])) <;> first | rfl | exact (ref_id (by assumption)).symm⟩
  · refine x_aload_n C (pc := 11) dX8_barred_11 0 rfl rfl ?_
    refine xG_roster C fl_X8_19 dX8_barred_12 ?_
    refine x_iload_n C (pc := 15) dX8_barred_15 2 rfl rfl ?_
    refine x_callVi C (pc := 16) [.int b] (fun l D => c_X3_knows l D G X b ) (xe_2 G _) rfl ml_X8_87 co_X3_knows im_X3_knows se_X3_knows in_X3 hy_X3_knows (by decide) (by decide) (Nat.le_of_ble_eq_true rfl) dX8_barred_16 rfl (kx ?_)
    refine x_if_eq C (pc := 19) (tgt := 27) dX8_barred_19 (by decide) (fun c19 => ?_) (fun c19 => ?_)
    · refine x_iconst C (pc := 27) (v := (-1)) dX8_barred_27 (by decide) ?_
      exact ret (-1) X 28 _ dX8_barred_28 ⟨by unfold v_barred; (repeat (first | rw [if_pos (by assumption)] | rw [if_neg (by assumption)])) <;> first | rfl , by unfold s_barred; (repeat (first | rw [if_pos (by assumption)] | rw [if_neg (by assumption)])) <;> first | rfl | exact (ref_id (by assumption)).symm⟩
    · refine x_iload_n C (pc := 22) dX8_barred_22 1 rfl rfl ?_
      refine x_iload_n C (pc := 23) dX8_barred_23 2 rfl rfl ?_
      refine x_icmp_ne C (pc := 24) (tgt := 29) dX8_barred_24 (by decide) (fun c24 => ?_) (fun c24 => ?_)
      · have ha : vp_in a 16 := knows_in c8 hE hE16
        have hb : vp_in b 16 := knows_in c19 hE hE16
        refine x_aload_n C (pc := 29) dX8_barred_29 0 rfl rfl ?_
        refine xG_roster C fl_X8_19 dX8_barred_30 ?_
        refine xG_gone C fl_X8_90 dX8_barred_33 ?_
        refine x_iload_n C (pc := 36) dX8_barred_36 1 rfl rfl ?_
        refine xL_gone C dX8_barred_37 (by assumption) ?_
        refine x_if_ne C (pc := 38) (tgt := 53) dX8_barred_38 (by decide) (fun c38 => ?_) (fun c38 => ?_)
        · refine x_aload_n C (pc := 53) dX8_barred_53 0 rfl rfl ?_
          refine xG_log C fl_X8_12 dX8_barred_54 ?_
          refine x_iconst C (pc := 57) (v := 1) dX8_barred_57 (by decide) ?_
          refine x_callVi C (pc := 58) [.int 1] (fun l D => c_X2_found l D G X 1 in1_6) (xe_1 G _) rfl ml_X8_94 co_X2_found im_X2_found se_X2_found in_X2 hy_X2_found (by decide) (by decide) (Nat.le_of_ble_eq_true rfl) dX8_barred_58 rfl (kx ?_)
          refine x_eqX (X' := (ux (ux X 100 0 1) 9 (ix 1) ((X 9 (ix 1)) + 1))) rfl ?_
          exact ret (-3) (ux (ux X 100 0 1) 9 (ix 1) ((X 9 (ix 1)) + 1)) 61 _ dX8_barred_61 ⟨by unfold v_barred; (repeat (first | rw [if_pos (by assumption)] | rw [if_neg (by assumption)])) <;> first | rfl , by unfold s_barred; (repeat (first | rw [if_pos (by assumption)] | rw [if_neg (by assumption)])) <;> first | rfl | exact (ref_id (by assumption)).symm⟩
        · refine x_aload_n C (pc := 41) dX8_barred_41 0 rfl rfl ?_
          refine xG_roster C fl_X8_19 dX8_barred_42 ?_
          refine xG_gone C fl_X8_90 dX8_barred_45 ?_
          refine x_iload_n C (pc := 48) dX8_barred_48 2 rfl rfl ?_
          refine xL_gone C dX8_barred_49 (by assumption) ?_
          refine x_if_eq C (pc := 50) (tgt := 62) dX8_barred_50 (by decide) (fun c50 => ?_) (fun c50 => ?_)
          · refine x_aload_n C (pc := 62) dX8_barred_62 0 rfl rfl ?_
            refine x_iload_n C (pc := 63) dX8_barred_63 1 rfl rfl ?_
            refine x_iload_n C (pc := 64) dX8_barred_64 2 rfl rfl ?_
            refine x_callVi C (pc := 65) [.int a, .int b] (fun l D => c_X8_barsBetween l D G X a b (by assumption) (by assumption)) (xe_0 G _) rfl ml_X8_178 co_X8_barsBetween im_X8_barsBetween se_X8_barsBetween in_X8 hy_X8_barsBetween (by decide) (by decide) (Nat.le_of_ble_eq_true rfl) dX8_barred_65 rfl (kx ?_)
            exact ret (v_bars X a b) X 68 _ dX8_barred_68 ⟨by unfold v_barred; (repeat (first | rw [if_pos (by assumption)] | rw [if_neg (by assumption)])) <;> first | rfl , by unfold s_barred; (repeat (first | rw [if_pos (by assumption)] | rw [if_neg (by assumption)])) <;> first | rfl | exact (ref_id (by assumption)).symm⟩
          · refine x_aload_n C (pc := 53) dX8_barred_53 0 rfl rfl ?_
            refine xG_log C fl_X8_12 dX8_barred_54 ?_
            refine x_iconst C (pc := 57) (v := 1) dX8_barred_57 (by decide) ?_
            refine x_callVi C (pc := 58) [.int 1] (fun l D => c_X2_found l D G X 1 in1_6) (xe_1 G _) rfl ml_X8_94 co_X2_found im_X2_found se_X2_found in_X2 hy_X2_found (by decide) (by decide) (Nat.le_of_ble_eq_true rfl) dX8_barred_58 rfl (kx ?_)
            refine x_eqX (X' := (ux (ux X 100 0 1) 9 (ix 1) ((X 9 (ix 1)) + 1))) rfl ?_
            exact ret (-3) (ux (ux X 100 0 1) 9 (ix 1) ((X 9 (ix 1)) + 1)) 61 _ dX8_barred_61 ⟨by unfold v_barred; (repeat (first | rw [if_pos (by assumption)] | rw [if_neg (by assumption)])) <;> first | rfl , by unfold s_barred; (repeat (first | rw [if_pos (by assumption)] | rw [if_neg (by assumption)])) <;> first | rfl | exact (ref_id (by assumption)).symm⟩
      · refine x_iconst C (pc := 27) (v := (-1)) dX8_barred_27 (by decide) ?_
        exact ret (-1) X 28 _ dX8_barred_28 ⟨by unfold v_barred; (repeat (first | rw [if_pos (by assumption)] | rw [if_neg (by assumption)])) <;> first | rfl , by unfold s_barred; (repeat (first | rw [if_pos (by assumption)] | rw [if_neg (by assumption)])) <;> first | rfl | exact (ref_id (by assumption)).symm⟩
set_option maxHeartbeats 4000000 in
set_option maxRecDepth 100000 in
theorem c_X8_cost (l : Launch) (D : va_G) (G : Gx) (X : St)  : Ci l yX8_cost cX8_cost 1 (some .int) 0 (xw G) D (tyG G) [.ref (G.1 0)] X (fun r X1 => r = (X 109 0) ∧ X1 = X) := by
  refine m_i (nL := 1) (lv := [(0, .ref (G.1 0))]) [.ref (G.1 0)] RX8 rfl (xw_adr G) (by decide +kernel) (Nat.le_of_ble_eq_true rfl) rfl (fun K C ret => ?_)
  refine x_aload_n C (pc := 0) dX8_cost_0 0 rfl rfl ?_
  refine xG_tourney C fl_X8_33 dX8_cost_1 ?_
  refine xG_cost C fl_X8_200 dX8_cost_4 ?_
  exact ret (X 109 0) X 7 _ dX8_cost_7 ⟨rfl, rfl⟩
set_option maxHeartbeats 4000000 in
set_option maxRecDepth 100000 in
theorem c_X8_sat (l : Launch) (D : va_G) (G : Gx) (X : St)  : Ci l yX8_sat cX8_sat 1 (some .int) 0 (xw G) D (tyG G) [.ref (G.1 0)] X (fun r X1 => r = (X 110 0) ∧ X1 = X) := by
  refine m_i (nL := 1) (lv := [(0, .ref (G.1 0))]) [.ref (G.1 0)] RX8 rfl (xw_adr G) (by decide +kernel) (Nat.le_of_ble_eq_true rfl) rfl (fun K C ret => ?_)
  refine x_aload_n C (pc := 0) dX8_sat_0 0 rfl rfl ?_
  refine xG_tourney C fl_X8_33 dX8_sat_1 ?_
  refine xG_satOut C fl_X8_223 dX8_sat_4 ?_
  exact ret (X 110 0) X 7 _ dX8_sat_7 ⟨rfl, rfl⟩
set_option maxHeartbeats 4000000 in
set_option maxRecDepth 100000 in
theorem c_X8_champion (l : Launch) (D : va_G) (G : Gx) (X : St)  : Ci l yX8_champion cX8_champion 1 (some .int) 0 (xw G) D (tyG G) [.ref (G.1 0)] X (fun r X1 => r = (X 119 0) ∧ X1 = X) := by
  refine m_i (nL := 1) (lv := [(0, .ref (G.1 0))]) [.ref (G.1 0)] RX8 rfl (xw_adr G) (by decide +kernel) (Nat.le_of_ble_eq_true rfl) rfl (fun K C ret => ?_)
  refine x_aload_n C (pc := 0) dX8_champion_0 0 rfl rfl ?_
  refine xG_titleRow C fl_X8_61 dX8_champion_1 ?_
  refine xG_holder C fl_X8_316 dX8_champion_4 ?_
  exact ret (X 119 0) X 7 _ dX8_champion_7 ⟨rfl, rfl⟩
set_option maxHeartbeats 4000000 in
set_option maxRecDepth 100000 in
theorem c_X8_finding (l : Launch) (D : va_G) (G : Gx) (X : St)  : Ci l yX8_finding cX8_finding 1 (some .int) 0 (xw G) D (tyG G) [.ref (G.1 0)] X (fun r X1 => r = (X 100 0) ∧ X1 = X) := by
  refine m_i (nL := 1) (lv := [(0, .ref (G.1 0))]) [.ref (G.1 0)] RX8 rfl (xw_adr G) (by decide +kernel) (Nat.le_of_ble_eq_true rfl) rfl (fun K C ret => ?_)
  refine x_aload_n C (pc := 0) dX8_finding_0 0 rfl rfl ?_
  refine xG_log C fl_X8_12 dX8_finding_1 ?_
  refine xG_latest C fl_X8_322 dX8_finding_4 ?_
  exact ret (X 100 0) X 7 _ dX8_finding_7 ⟨rfl, rfl⟩
theorem loser_in {X : St} {b u : Int32} (h : vp_in ((X 24) (ix b)) 16 ∧ vp_in ((X 25) (ix b)) 16) : vp_in (v_loser X b u) 16 := by
  unfold v_loser v_X6_loserOf
  by_cases hc : s_res3 X b u 26 (ix b) = s_res3 X b u 24 (ix b)
  · rw [if_pos hc]; exact h.2
  · rw [if_neg hc]; exact h.1
theorem wonB_in {X : St} {b u : Int32} (h : vp_in ((X 24) (ix b)) 16 ∧ vp_in ((X 25) (ix b)) 16) : vp_in (v_wonB X b u) 16 := by
  unfold v_wonB
  by_cases hc : u = 0
  · rw [if_pos hc]; exact h.2
  · rw [if_neg hc]; exact h.1

set_option maxHeartbeats 4000000 in
set_option maxRecDepth 100000 in
theorem c_X8_result (l : Launch) (D : va_G) (G : Gx) (B : Nat) (X : St) (b : Int32) (u : Int32) (hBt : (X 107 0) = nI B) (hB120 : B ≤ 120) (hU : ∀ k, k < B → vp_in ((X 24) k) 16 ∧ vp_in ((X 25) k) 16) : Ci l yX8_result cX8_result 4 (some .int) 1 (xw G) D (tyG G) [.ref (G.1 0), .int b, .int u] X (fun r X1 => r = (v_result X b) ∧ X1 = (s_result X b u)) := by
  refine m_i (nL := 4) (lv := [(0, .ref (G.1 0)), (1, .int b), (2, .int u)]) [.ref (G.1 0), .int b, .int u] RX8 rfl (xw_adr G) (by decide +kernel) (Nat.le_of_ble_eq_true rfl) rfl (fun K C ret => ?_)
  refine x_aload_n C (pc := 0) dX8_result_0 0 rfl rfl ?_
  refine xG_tourney C fl_X8_33 dX8_result_1 ?_
  refine x_iload_n C (pc := 4) dX8_result_4 1 rfl rfl ?_
  refine x_callVi C (pc := 5) [.int b] (fun l D => c_X6_knows l D G X b ) (xe_4 G _) rfl ml_X8_206 co_X6_knows im_X6_knows se_X6_knows in_X6 hy_X6_knows (by decide) (by decide) (Nat.le_of_ble_eq_true rfl) dX8_result_5 rfl (kx ?_)
  refine x_if_ne C (pc := 8) (tgt := 13) dX8_result_8 (by decide) (fun c8 => ?_) (fun c8 => ?_)
  · have hb : vp_in b 120 := bknows_in c8 hBt hB120
    have hk : ix b < B := bknows_lt c8 hBt hB120
    have hUL := hU (ix b) hk
    refine x_aload_n C (pc := 13) dX8_result_13 0 rfl rfl ?_
    refine xG_tourney C fl_X8_33 dX8_result_14 ?_
    refine xG_winner C fl_X8_207 dX8_result_17 ?_
    refine x_iload_n C (pc := 20) dX8_result_20 1 rfl rfl ?_
    refine xL_winner C dX8_result_21 (by assumption) ?_
    refine x_bipush C (pc := 22) (v := (-9)) dX8_result_22 (by decide) ?_
    refine x_icmp_eq C (pc := 24) (tgt := 30) dX8_result_24 (by decide) (fun c24 => ?_) (fun c24 => ?_)
    · have J55 : WX K (xw G) 4 X 55 [(0, .ref (G.1 0)), (1, .int b), (2, .int u)] [.int (v_wonB X b u)] := by
        have hwi : vp_in (v_wonB X b u) 16 := wonB_in hUL
        have hlo : vp_in (v_loser X b u) 16 := loser_in hUL
        refine x_istore_n C (pc := 55) dX8_result_55 [(0, .ref (G.1 0)), (1, .int b), (2, .int u), (3, .int (v_wonB X b u))] [1, 2, 3, 0] rfl (by decide) rfl ?_
        refine x_aload_n C (pc := 56) dX8_result_56 0 rfl rfl ?_
        refine xG_tourney C fl_X8_33 dX8_result_57 ?_
        refine xG_winner C fl_X8_207 dX8_result_60 ?_
        refine x_iload_n C (pc := 63) dX8_result_63 1 rfl rfl ?_
        refine x_iload_n C (pc := 64) dX8_result_64 3 rfl rfl ?_
        refine xS_winner C dX8_result_65 (by assumption) ?_
        refine x_aload_n C (pc := 66) dX8_result_66 0 rfl rfl ?_
        refine xG_tourney C fl_X8_33 dX8_result_67 ?_
        refine x_dup C (pc := 70) dX8_result_70 rfl ?_
        refine xG_lacking C fl_X8_181 dX8_result_71 ?_
        refine x_top (y := (X 108 0)) rfl ?_
        refine x_iconst C (pc := 74) (v := 1) dX8_result_74 (by decide) ?_
        refine x_isub C (pc := 75) dX8_result_75 ?_
        refine xP_lacking C fl_X8_181 (v := (X 108 0) - 1) dX8_result_76 ?_
        refine x_aload_n C (pc := 79) dX8_result_79 0 rfl rfl ?_
        refine xG_roster C fl_X8_19 dX8_result_80 ?_
        refine xG_wins C fl_X8_125 dX8_result_83 ?_
        refine x_iload_n C (pc := 86) dX8_result_86 3 rfl rfl ?_
        refine x_dup2 C (pc := 87) dX8_result_87 rfl rfl ?_
        refine xL_wins C dX8_result_88 (by assumption) ?_
        refine x_top (y := (X 14 (ix (v_wonB X b u)))) rfl ?_
        refine x_iconst C (pc := 89) (v := 1) dX8_result_89 (by decide) ?_
        refine x_iadd C (pc := 90) dX8_result_90 ?_
        refine xS_wins C dX8_result_91 (by assumption) ?_
        refine x_aload_n C (pc := 92) dX8_result_92 0 rfl rfl ?_
        refine xG_roster C fl_X8_19 dX8_result_93 ?_
        refine xG_losses C fl_X8_216 dX8_result_96 ?_
        refine x_aload_n C (pc := 99) dX8_result_99 0 rfl rfl ?_
        refine xG_tourney C fl_X8_33 dX8_result_100 ?_
        refine x_iload_n C (pc := 103) dX8_result_103 1 rfl rfl ?_
        refine x_callVi C (pc := 104) [.int b] (fun l D => c_X6_loserOf l D G (ux (ux (ux X 26 (ix b) (v_wonB X b u)) 108 0 ((X 108 0) - 1)) 14 (ix (v_wonB X b u)) ((X 14 (ix (v_wonB X b u))) + 1)) b hb) (xe_4 G _) rfl ml_X8_219 co_X6_loserOf im_X6_loserOf se_X6_loserOf in_X6 hy_X6_loserOf (by decide) (by decide) (Nat.le_of_ble_eq_true rfl) dX8_result_104 rfl (kx ?_)
        refine x_top (y := v_loser X b u) rfl ?_
        refine x_dup2 C (pc := 107) dX8_result_107 rfl rfl ?_
        refine xL_losses C dX8_result_108 (by assumption) ?_
        refine x_top (y := (X 15 (ix (v_loser X b u)))) rfl ?_
        refine x_iconst C (pc := 109) (v := 1) dX8_result_109 (by decide) ?_
        refine x_iadd C (pc := 110) dX8_result_110 ?_
        refine xS_losses C dX8_result_111 (by assumption) ?_
        refine x_iconst C (pc := 112) (v := 1) dX8_result_112 (by decide) ?_
        exact ret 1 (ux (ux (ux (ux X 26 (ix b) (v_wonB X b u)) 108 0 ((X 108 0) - 1)) 14 (ix (v_wonB X b u)) ((X 14 (ix (v_wonB X b u))) + 1)) 15 (ix (v_loser X b u)) ((X 15 (ix (v_loser X b u))) + 1)) 113 _ dX8_result_113 ⟨by unfold v_result; rw [if_neg c8, if_pos c24], by unfold s_result; rw [if_neg c8, if_pos c24]; rfl⟩
      refine x_iload_n C (pc := 30) dX8_result_30 2 rfl rfl ?_
      refine x_if_eq C (pc := 31) (tgt := 46) dX8_result_31 (by decide) (fun c31 => ?_) (fun c31 => ?_)
      · refine x_aload_n C (pc := 46) dX8_result_46 0 rfl rfl ?_
        refine xG_tourney C fl_X8_33 dX8_result_47 ?_
        refine xG_lower C fl_X8_213 dX8_result_50 ?_
        refine x_iload_n C (pc := 53) dX8_result_53 1 rfl rfl ?_
        refine xL_lower C dX8_result_54 (by assumption) ?_
        refine x_top (y := (v_wonB X b u)) (by unfold v_wonB; (repeat (first | rw [if_pos (by assumption)] | rw [if_neg (by assumption)])) <;> first | rfl ) ?_
        exact J55
      · refine x_aload_n C (pc := 34) dX8_result_34 0 rfl rfl ?_
        refine xG_tourney C fl_X8_33 dX8_result_35 ?_
        refine xG_upper C fl_X8_210 dX8_result_38 ?_
        refine x_iload_n C (pc := 41) dX8_result_41 1 rfl rfl ?_
        refine xL_upper C dX8_result_42 (by assumption) ?_
        refine x_goto C (pc := 43) (tgt := 55) dX8_result_43 (by decide) ?_
        refine x_top (y := (v_wonB X b u)) (by unfold v_wonB; (repeat (first | rw [if_pos (by assumption)] | rw [if_neg (by assumption)])) <;> first | rfl ) ?_
        exact J55
    · refine x_bipush C (pc := 27) (v := (-4)) dX8_result_27 (by decide) ?_
      exact ret (-4) X 29 _ dX8_result_29 ⟨by unfold v_result; (repeat (first | rw [if_pos (by assumption)] | rw [if_neg (by assumption)])) <;> first | rfl , by unfold s_result; (repeat (first | rw [if_pos (by assumption)] | rw [if_neg (by assumption)])) <;> first | rfl | exact (ref_id (by assumption)).symm⟩
  · refine x_iconst C (pc := 11) (v := (-1)) dX8_result_11 (by decide) ?_
    exact ret (-1) X 12 _ dX8_result_12 ⟨by unfold v_result; (repeat (first | rw [if_pos (by assumption)] | rw [if_neg (by assumption)])) <;> first | rfl , by unfold s_result; (repeat (first | rw [if_pos (by assumption)] | rw [if_neg (by assumption)])) <;> first | rfl | exact (ref_id (by assumption)).symm⟩
set_option maxHeartbeats 4000000 in
set_option maxRecDepth 100000 in
theorem c_X8_bout (l : Launch) (D : va_G) (G : Gx) (B : Nat) (X : St) (b : Int32) (what : Int32) (hBt : (X 107 0) = nI B) (hB120 : B ≤ 120) : Ci l yX8_bout cX8_bout 3 (some .int) 1 (xw G) D (tyG G) [.ref (G.1 0), .int b, .int what] X (fun r X1 => r = (v_bout X b what) ∧ X1 = X) := by
  refine m_i (nL := 3) (lv := [(0, .ref (G.1 0)), (1, .int b), (2, .int what)]) [.ref (G.1 0), .int b, .int what] RX8 rfl (xw_adr G) (by decide +kernel) (Nat.le_of_ble_eq_true rfl) rfl (fun K C ret => ?_)
  refine x_aload_n C (pc := 0) dX8_bout_0 0 rfl rfl ?_
  refine xG_tourney C fl_X8_33 dX8_bout_1 ?_
  refine x_iload_n C (pc := 4) dX8_bout_4 1 rfl rfl ?_
  refine x_callVi C (pc := 5) [.int b] (fun l D => c_X6_knows l D G X b ) (xe_4 G _) rfl ml_X8_206 co_X6_knows im_X6_knows se_X6_knows in_X6 hy_X6_knows (by decide) (by decide) (Nat.le_of_ble_eq_true rfl) dX8_bout_5 rfl (kx ?_)
  refine x_if_eq C (pc := 8) (tgt := 20) dX8_bout_8 (by decide) (fun c8 => ?_) (fun c8 => ?_)
  · refine x_iconst C (pc := 20) (v := (-1)) dX8_bout_20 (by decide) ?_
    exact ret (-1) X 21 _ dX8_bout_21 ⟨by unfold v_bout; (repeat (first | rw [if_pos (by assumption)] | rw [if_neg (by assumption)])) <;> first | rfl , rfl⟩
  · refine x_iload_n C (pc := 11) dX8_bout_11 2 rfl rfl ?_
    refine x_if_lt C (pc := 12) (tgt := 20) dX8_bout_12 (by decide) (fun c12 => ?_) (fun c12 => ?_)
    · refine x_iconst C (pc := 20) (v := (-1)) dX8_bout_20 (by decide) ?_
      exact ret (-1) X 21 _ dX8_bout_21 ⟨by unfold v_bout; (repeat (first | rw [if_pos (by assumption)] | rw [if_neg (by assumption)])) <;> first | rfl , rfl⟩
    · refine x_iload_n C (pc := 15) dX8_bout_15 2 rfl rfl ?_
      refine x_iconst C (pc := 16) (v := 4) dX8_bout_16 (by decide) ?_
      refine x_icmp_lt C (pc := 17) (tgt := 22) dX8_bout_17 (by decide) (fun c17 => ?_) (fun c17 => ?_)
      · have hb : vp_in b 120 := bknows_in c8 hBt hB120
        refine x_aload_n C (pc := 22) dX8_bout_22 0 rfl rfl ?_
        refine xG_tourney C fl_X8_33 dX8_bout_23 ?_
        refine x_iload_n C (pc := 26) dX8_bout_26 1 rfl rfl ?_
        refine x_iload_n C (pc := 27) dX8_bout_27 2 rfl rfl ?_
        refine x_callVi C (pc := 28) [.int b, .int what] (fun l D => c_X6_fact l D G X b what (by assumption)) (xe_4 G _) rfl ml_X8_222 co_X6_fact im_X6_fact se_X6_fact in_X6 hy_X6_fact (by decide) (by decide) (Nat.le_of_ble_eq_true rfl) dX8_bout_28 rfl (kx ?_)
        exact ret (v_X6_fact X b what) X 31 _ dX8_bout_31 ⟨by unfold v_bout; (repeat (first | rw [if_pos (by assumption)] | rw [if_neg (by assumption)])) <;> first | rfl , rfl⟩
      · refine x_iconst C (pc := 20) (v := (-1)) dX8_bout_20 (by decide) ?_
        exact ret (-1) X 21 _ dX8_bout_21 ⟨by unfold v_bout; (repeat (first | rw [if_pos (by assumption)] | rw [if_neg (by assumption)])) <;> first | rfl , rfl⟩
set_option maxHeartbeats 4000000 in
set_option maxRecDepth 100000 in
theorem c_X8_line (l : Launch) (D : va_G) (G : Gx) (Ln : Nat) (X : St) (lo : Int32) (hi : Int32) (up : Int32) (hL : (X 112 0) = nI Ln) (hL12 : Ln ≤ 12) : Ci l yX8_line cX8_line 4 (some .int) 1 (xw G) D (tyG G) [.ref (G.1 0), .int lo, .int hi, .int up] X (fun r X1 => r = (v_line X lo hi up) ∧ X1 = (s_line X lo hi up)) := by
  refine m_i (nL := 4) (lv := [(0, .ref (G.1 0)), (1, .int lo), (2, .int hi), (3, .int up)]) [.ref (G.1 0), .int lo, .int hi, .int up] RX8 rfl (xw_adr G) (by decide +kernel) (Nat.le_of_ble_eq_true rfl) rfl (fun K C ret => ?_)
  refine x_iload_n C (pc := 0) dX8_line_0 1 rfl rfl ?_
  refine x_iload_n C (pc := 1) dX8_line_1 2 rfl rfl ?_
  refine x_icmp_gt C (pc := 2) (tgt := 17) dX8_line_2 (by decide) (fun c2 => ?_) (fun c2 => ?_)
  · refine x_iconst C (pc := 17) (v := (-1)) dX8_line_17 (by decide) ?_
    exact ret (-1) X 18 _ dX8_line_18 ⟨by unfold v_line; (repeat (first | rw [if_pos (by assumption)] | rw [if_neg (by assumption)])) <;> first | rfl , by unfold s_line; (repeat (first | rw [if_pos (by assumption)] | rw [if_neg (by assumption)])) <;> first | rfl | exact (ref_id (by assumption)).symm⟩
  · refine x_iload_n C (pc := 5) dX8_line_5 3 rfl rfl ?_
    refine x_bipush C (pc := 6) (v := (-15)) dX8_line_6 (by decide) ?_
    refine x_icmp_lt C (pc := 8) (tgt := 17) dX8_line_8 (by decide) (fun c8 => ?_) (fun c8 => ?_)
    · refine x_iconst C (pc := 17) (v := (-1)) dX8_line_17 (by decide) ?_
      exact ret (-1) X 18 _ dX8_line_18 ⟨by unfold v_line; (repeat (first | rw [if_pos (by assumption)] | rw [if_neg (by assumption)])) <;> first | rfl , by unfold s_line; (repeat (first | rw [if_pos (by assumption)] | rw [if_neg (by assumption)])) <;> first | rfl | exact (ref_id (by assumption)).symm⟩
    · refine x_iload_n C (pc := 11) dX8_line_11 3 rfl rfl ?_
      refine x_bipush C (pc := 12) (v := 15) dX8_line_12 (by decide) ?_
      refine x_icmp_le C (pc := 14) (tgt := 19) dX8_line_14 (by decide) (fun c14 => ?_) (fun c14 => ?_)
      · refine x_aload_n C (pc := 19) dX8_line_19 0 rfl rfl ?_
        refine xG_custom C fl_X8_47 dX8_line_20 ?_
        refine xG_lines C fl_X8_226 dX8_line_23 ?_
        refine x_bipush C (pc := 26) (v := 12) dX8_line_26 (by decide) ?_
        refine x_icmp_lt C (pc := 28) (tgt := 34) dX8_line_28 (by decide) (fun c28 => ?_) (fun c28 => ?_)
        · refine x_aload_n C (pc := 34) dX8_line_34 0 rfl rfl ?_
          refine xG_custom C fl_X8_47 dX8_line_35 ?_
          refine x_iload_n C (pc := 38) dX8_line_38 1 rfl rfl ?_
          refine x_iload_n C (pc := 39) dX8_line_39 2 rfl rfl ?_
          refine x_iload_n C (pc := 40) dX8_line_40 3 rfl rfl ?_
          refine x_callVi C (pc := 41) [.int lo, .int hi, .int up] (fun l D => c_X0_add l D G X lo hi up (in_ltc hL (by omega) c28 (by decide))) (xe_6 G _) rfl ml_X8_229 co_X0_add im_X0_add se_X0_add in_X0 hy_X0_add (by decide) (by decide) (Nat.le_of_ble_eq_true rfl) dX8_line_41 rfl (kx ?_)
          exact ret ((X 112 0) + 1 - 1) (s_X0_add X lo hi up) 44 _ dX8_line_44 ⟨by unfold v_line; (repeat (first | rw [if_pos (by assumption)] | rw [if_neg (by assumption)])) <;> first | rfl , by unfold s_line; (repeat (first | rw [if_pos (by assumption)] | rw [if_neg (by assumption)])) <;> first | rfl | exact (ref_id (by assumption)).symm⟩
        · refine x_bipush C (pc := 31) (v := (-2)) dX8_line_31 (by decide) ?_
          exact ret (-2) X 33 _ dX8_line_33 ⟨by unfold v_line; (repeat (first | rw [if_pos (by assumption)] | rw [if_neg (by assumption)])) <;> first | rfl , by unfold s_line; (repeat (first | rw [if_pos (by assumption)] | rw [if_neg (by assumption)])) <;> first | rfl | exact (ref_id (by assumption)).symm⟩
      · refine x_iconst C (pc := 17) (v := (-1)) dX8_line_17 (by decide) ?_
        exact ret (-1) X 18 _ dX8_line_18 ⟨by unfold v_line; (repeat (first | rw [if_pos (by assumption)] | rw [if_neg (by assumption)])) <;> first | rfl , by unfold s_line; (repeat (first | rw [if_pos (by assumption)] | rw [if_neg (by assumption)])) <;> first | rfl | exact (ref_id (by assumption)).symm⟩
set_option maxHeartbeats 4000000 in
set_option maxRecDepth 100000 in
theorem c_X8_why (l : Launch) (D : va_G) (G : Gx) (E : Nat) (X : St) (w : Int32) (hE : (X 101 0) = nI E) (hE16 : E ≤ 16) : Ci l yX8_why cX8_why 3 (some .int) 2 (xw G) D (tyG G) [.ref (G.1 0), .int w] X (fun r X1 => r = (v_why X w) ∧ X1 = (s_ref X w)) := by
  refine m_i (nL := 3) (lv := [(0, .ref (G.1 0)), (1, .int w)]) [.ref (G.1 0), .int w] RX8 rfl (xw_adr G) (by decide +kernel) (Nat.le_of_ble_eq_true rfl) rfl (fun K C ret => ?_)
  refine x_aload_n C (pc := 0) dX8_why_0 0 rfl rfl ?_
  refine x_iload_n C (pc := 1) dX8_why_1 1 rfl rfl ?_
  refine x_callVi C (pc := 2) [.int w] (fun l D => c_X8_refusalOf l D G E X w hE hE16) (xe_0 G _) rfl ml_X8_101 co_X8_refusalOf im_X8_refusalOf se_X8_refusalOf in_X8 hy_X8_refusalOf (by decide) (by decide) (Nat.le_of_ble_eq_true rfl) dX8_why_2 rfl (kx ?_)
  refine x_istore_n C (pc := 5) dX8_why_5 [(0, .ref (G.1 0)), (1, .int w), (2, .int (v_ref X w))] [1, 2, 0] rfl (by decide) rfl ?_
  refine x_iload_n C (pc := 6) dX8_why_6 2 rfl rfl ?_
  refine x_if_eq C (pc := 7) (tgt := 14) dX8_why_7 (by decide) (fun c7 => ?_) (fun c7 => ?_)
  · refine x_eqX (X' := X) (ref_id c7) ?_
    have hw : vp_in w 16 := knows_in (ref_kn c7).1 hE hE16
    refine x_aload_n C (pc := 14) dX8_why_14 0 rfl rfl ?_
    refine xG_writing C fl_X8_54 dX8_why_15 ?_
    refine xG_byLine C fl_X8_267 dX8_why_18 ?_
    refine x_iload_n C (pc := 21) dX8_why_21 1 rfl rfl ?_
    refine xL_byLine C dX8_why_22 (by assumption) ?_
    exact ret (X 38 (ix w)) X 23 _ dX8_why_23 ⟨by unfold v_why; (repeat (first | rw [if_pos (by assumption)] | rw [if_neg (by assumption)])) <;> first | rfl , by first | rfl | exact (ref_id (by assumption)).symm⟩
  · refine x_iload_n C (pc := 10) dX8_why_10 2 rfl rfl ?_
    refine x_goto C (pc := 11) (tgt := 23) dX8_why_11 (by decide) ?_
    exact ret (v_ref X w) (s_ref X w) 23 _ dX8_why_23 ⟨by unfold v_why; (repeat (first | rw [if_pos (by assumption)] | rw [if_neg (by assumption)])) <;> first | rfl , by first | rfl | exact (ref_id (by assumption)).symm⟩
set_option maxHeartbeats 4000000 in
set_option maxRecDepth 100000 in
theorem c_X8_rungBeside (l : Launch) (D : va_G) (G : Gx) (E : Nat) (X : St) (w : Int32) (hE : (X 101 0) = nI E) (hE16 : E ≤ 16) : Ci l yX8_rungBeside cX8_rungBeside 3 (some .int) 2 (xw G) D (tyG G) [.ref (G.1 0), .int w] X (fun r X1 => r = (v_rungBeside X w) ∧ X1 = (s_ref X w)) := by
  refine m_i (nL := 3) (lv := [(0, .ref (G.1 0)), (1, .int w)]) [.ref (G.1 0), .int w] RX8 rfl (xw_adr G) (by decide +kernel) (Nat.le_of_ble_eq_true rfl) rfl (fun K C ret => ?_)
  refine x_aload_n C (pc := 0) dX8_rungBeside_0 0 rfl rfl ?_
  refine x_iload_n C (pc := 1) dX8_rungBeside_1 1 rfl rfl ?_
  refine x_callVi C (pc := 2) [.int w] (fun l D => c_X8_refusalOf l D G E X w hE hE16) (xe_0 G _) rfl ml_X8_101 co_X8_refusalOf im_X8_refusalOf se_X8_refusalOf in_X8 hy_X8_refusalOf (by decide) (by decide) (Nat.le_of_ble_eq_true rfl) dX8_rungBeside_2 rfl (kx ?_)
  refine x_istore_n C (pc := 5) dX8_rungBeside_5 [(0, .ref (G.1 0)), (1, .int w), (2, .int (v_ref X w))] [1, 2, 0] rfl (by decide) rfl ?_
  refine x_iload_n C (pc := 6) dX8_rungBeside_6 2 rfl rfl ?_
  refine x_if_eq C (pc := 7) (tgt := 14) dX8_rungBeside_7 (by decide) (fun c7 => ?_) (fun c7 => ?_)
  · refine x_eqX (X' := X) (ref_id c7) ?_
    have hw : vp_in w 16 := knows_in (ref_kn c7).1 hE hE16
    refine x_aload_n C (pc := 14) dX8_rungBeside_14 0 rfl rfl ?_
    refine xG_writing C fl_X8_54 dX8_rungBeside_15 ?_
    refine xG_aside C fl_X8_291 dX8_rungBeside_18 ?_
    refine x_iload_n C (pc := 21) dX8_rungBeside_21 1 rfl rfl ?_
    refine xL_aside C dX8_rungBeside_22 (by assumption) ?_
    exact ret (X 39 (ix w)) X 23 _ dX8_rungBeside_23 ⟨by unfold v_rungBeside; (repeat (first | rw [if_pos (by assumption)] | rw [if_neg (by assumption)])) <;> first | rfl , by first | rfl | exact (ref_id (by assumption)).symm⟩
  · refine x_iload_n C (pc := 10) dX8_rungBeside_10 2 rfl rfl ?_
    refine x_goto C (pc := 11) (tgt := 23) dX8_rungBeside_11 (by decide) ?_
    exact ret (v_ref X w) (s_ref X w) 23 _ dX8_rungBeside_23 ⟨by unfold v_rungBeside; (repeat (first | rw [if_pos (by assumption)] | rw [if_neg (by assumption)])) <;> first | rfl , by first | rfl | exact (ref_id (by assumption)).symm⟩
set_option maxHeartbeats 4000000 in
set_option maxRecDepth 100000 in
theorem c_X8_passed (l : Launch) (D : va_G) (G : Gx) (E : Nat) (X : St) (a : Int32) (b : Int32) (hE : (X 101 0) = nI E) (hE16 : E ≤ 16) : Ci l yX8_passed cX8_passed 3 (some .int) 2 (xw G) D (tyG G) [.ref (G.1 0), .int a, .int b] X (fun r X1 => r = (v_passed X a b) ∧ X1 = (s_passed X a b)) := by
  refine m_i (nL := 3) (lv := [(0, .ref (G.1 0)), (1, .int a), (2, .int b)]) [.ref (G.1 0), .int a, .int b] RX8 rfl (xw_adr G) (by decide +kernel) (Nat.le_of_ble_eq_true rfl) rfl (fun K C ret => ?_)
  refine x_aload_n C (pc := 0) dX8_passed_0 0 rfl rfl ?_
  refine xG_roster C fl_X8_19 dX8_passed_1 ?_
  refine x_iload_n C (pc := 4) dX8_passed_4 1 rfl rfl ?_
  refine x_callVi C (pc := 5) [.int a] (fun l D => c_X3_knows l D G X a ) (xe_2 G _) rfl ml_X8_87 co_X3_knows im_X3_knows se_X3_knows in_X3 hy_X3_knows (by decide) (by decide) (Nat.le_of_ble_eq_true rfl) dX8_passed_5 rfl (kx ?_)
  refine x_if_eq C (pc := 8) (tgt := 22) dX8_passed_8 (by decide) (fun c8 => ?_) (fun c8 => ?_)
  · refine x_iconst C (pc := 22) (v := (-1)) dX8_passed_22 (by decide) ?_
    exact ret (-1) X 23 _ dX8_passed_23 ⟨by unfold v_passed; (repeat (first | rw [if_pos (by assumption)] | rw [if_neg (by assumption)])) <;> first | rfl , by unfold s_passed; (repeat (first | rw [if_pos (by assumption)] | rw [if_neg (by assumption)])) <;> first | rfl | exact (ref_id (by assumption)).symm⟩
  · refine x_aload_n C (pc := 11) dX8_passed_11 0 rfl rfl ?_
    refine xG_roster C fl_X8_19 dX8_passed_12 ?_
    refine x_iload_n C (pc := 15) dX8_passed_15 2 rfl rfl ?_
    refine x_callVi C (pc := 16) [.int b] (fun l D => c_X3_knows l D G X b ) (xe_2 G _) rfl ml_X8_87 co_X3_knows im_X3_knows se_X3_knows in_X3 hy_X3_knows (by decide) (by decide) (Nat.le_of_ble_eq_true rfl) dX8_passed_16 rfl (kx ?_)
    refine x_if_ne C (pc := 19) (tgt := 24) dX8_passed_19 (by decide) (fun c19 => ?_) (fun c19 => ?_)
    · have ha : vp_in a 16 := knows_in c8 hE hE16
      have hb : vp_in b 16 := knows_in c19 hE hE16
      refine x_aload_n C (pc := 24) dX8_passed_24 0 rfl rfl ?_
      refine xG_roster C fl_X8_19 dX8_passed_25 ?_
      refine xG_gone C fl_X8_90 dX8_passed_28 ?_
      refine x_iload_n C (pc := 31) dX8_passed_31 1 rfl rfl ?_
      refine xL_gone C dX8_passed_32 (by assumption) ?_
      refine x_if_ne C (pc := 33) (tgt := 48) dX8_passed_33 (by decide) (fun c33 => ?_) (fun c33 => ?_)
      · refine x_aload_n C (pc := 48) dX8_passed_48 0 rfl rfl ?_
        refine xG_log C fl_X8_12 dX8_passed_49 ?_
        refine x_iconst C (pc := 52) (v := 1) dX8_passed_52 (by decide) ?_
        refine x_callVi C (pc := 53) [.int 1] (fun l D => c_X2_found l D G X 1 in1_6) (xe_1 G _) rfl ml_X8_94 co_X2_found im_X2_found se_X2_found in_X2 hy_X2_found (by decide) (by decide) (Nat.le_of_ble_eq_true rfl) dX8_passed_53 rfl (kx ?_)
        refine x_eqX (X' := (ux (ux X 100 0 1) 9 (ix 1) ((X 9 (ix 1)) + 1))) rfl ?_
        exact ret (-3) (ux (ux X 100 0 1) 9 (ix 1) ((X 9 (ix 1)) + 1)) 56 _ dX8_passed_56 ⟨by unfold v_passed; (repeat (first | rw [if_pos (by assumption)] | rw [if_neg (by assumption)])) <;> first | rfl , by unfold s_passed; (repeat (first | rw [if_pos (by assumption)] | rw [if_neg (by assumption)])) <;> first | rfl | exact (ref_id (by assumption)).symm⟩
      · refine x_aload_n C (pc := 36) dX8_passed_36 0 rfl rfl ?_
        refine xG_roster C fl_X8_19 dX8_passed_37 ?_
        refine xG_gone C fl_X8_90 dX8_passed_40 ?_
        refine x_iload_n C (pc := 43) dX8_passed_43 2 rfl rfl ?_
        refine xL_gone C dX8_passed_44 (by assumption) ?_
        refine x_if_eq C (pc := 45) (tgt := 57) dX8_passed_45 (by decide) (fun c45 => ?_) (fun c45 => ?_)
        · refine x_aload_n C (pc := 57) dX8_passed_57 0 rfl rfl ?_
          refine xG_writing C fl_X8_54 dX8_passed_58 ?_
          refine x_iload_n C (pc := 61) dX8_passed_61 1 rfl rfl ?_
          refine x_iload_n C (pc := 62) dX8_passed_62 2 rfl rfl ?_
          refine x_callVi C (pc := 63) [.int a, .int b] (fun l D => c_X7_overtook l D G X a b (by assumption) (by assumption)) (xe_7 G _) rfl ml_X8_270 co_X7_overtook im_X7_overtook se_X7_overtook in_X7 hy_X7_overtook (by decide) (by decide) (Nat.le_of_ble_eq_true rfl) dX8_passed_63 rfl (kx ?_)
          refine x_if_eq C (pc := 66) (tgt := 73) dX8_passed_66 (by decide) (fun c66 => ?_) (fun c66 => ?_)
          · refine x_iconst C (pc := 73) (v := 0) dX8_passed_73 (by decide) ?_
            exact ret 0 X 74 _ dX8_passed_74 ⟨by unfold v_passed; (repeat (first | rw [if_pos (by assumption)] | rw [if_neg (by assumption)])) <;> first | rfl , by unfold s_passed; (repeat (first | rw [if_pos (by assumption)] | rw [if_neg (by assumption)])) <;> first | rfl | exact (ref_id (by assumption)).symm⟩
          · refine x_iconst C (pc := 69) (v := 1) dX8_passed_69 (by decide) ?_
            refine x_goto C (pc := 70) (tgt := 74) dX8_passed_70 (by decide) ?_
            exact ret 1 X 74 _ dX8_passed_74 ⟨by unfold v_passed; (repeat (first | rw [if_pos (by assumption)] | rw [if_neg (by assumption)])) <;> first | rfl , by unfold s_passed; (repeat (first | rw [if_pos (by assumption)] | rw [if_neg (by assumption)])) <;> first | rfl | exact (ref_id (by assumption)).symm⟩
        · refine x_aload_n C (pc := 48) dX8_passed_48 0 rfl rfl ?_
          refine xG_log C fl_X8_12 dX8_passed_49 ?_
          refine x_iconst C (pc := 52) (v := 1) dX8_passed_52 (by decide) ?_
          refine x_callVi C (pc := 53) [.int 1] (fun l D => c_X2_found l D G X 1 in1_6) (xe_1 G _) rfl ml_X8_94 co_X2_found im_X2_found se_X2_found in_X2 hy_X2_found (by decide) (by decide) (Nat.le_of_ble_eq_true rfl) dX8_passed_53 rfl (kx ?_)
          refine x_eqX (X' := (ux (ux X 100 0 1) 9 (ix 1) ((X 9 (ix 1)) + 1))) rfl ?_
          exact ret (-3) (ux (ux X 100 0 1) 9 (ix 1) ((X 9 (ix 1)) + 1)) 56 _ dX8_passed_56 ⟨by unfold v_passed; (repeat (first | rw [if_pos (by assumption)] | rw [if_neg (by assumption)])) <;> first | rfl , by unfold s_passed; (repeat (first | rw [if_pos (by assumption)] | rw [if_neg (by assumption)])) <;> first | rfl | exact (ref_id (by assumption)).symm⟩
    · refine x_iconst C (pc := 22) (v := (-1)) dX8_passed_22 (by decide) ?_
      exact ret (-1) X 23 _ dX8_passed_23 ⟨by unfold v_passed; (repeat (first | rw [if_pos (by assumption)] | rw [if_neg (by assumption)])) <;> first | rfl , by unfold s_passed; (repeat (first | rw [if_pos (by assumption)] | rw [if_neg (by assumption)])) <;> first | rfl | exact (ref_id (by assumption)).symm⟩
set_option maxHeartbeats 4000000 in
set_option maxRecDepth 100000 in
theorem c_X8_meets (l : Launch) (D : va_G) (G : Gx) (X : St) (a : Int32) : Ci l yX8_meets cX8_meets 2 (some .int) 1 (xw G) D (tyG G) [.ref (G.1 0), .int a] X (fun r X1 => r = (v_meets X a) ∧ X1 = X) := by
  refine m_i (nL := 2) (lv := [(0, .ref (G.1 0)), (1, .int a)]) [.ref (G.1 0), .int a] RX8 rfl (xw_adr G) (by decide +kernel) (Nat.le_of_ble_eq_true rfl) rfl (fun K C ret => ?_)
  refine x_aload_n C (pc := 0) dX8_meets_0 0 rfl rfl ?_
  refine xG_titleRow C fl_X8_61 dX8_meets_1 ?_
  refine x_callVi C (pc := 4) [] (fun l D => c_X5_goesOn l D G X ) (xe_8 G _) rfl ml_X8_234 co_X5_goesOn im_X5_goesOn se_X5_goesOn in_X5 hy_X5_goesOn (by decide) (by decide) (Nat.le_of_ble_eq_true rfl) dX8_meets_4 rfl (kx ?_)
  refine x_if_ne C (pc := 7) (tgt := 13) dX8_meets_7 (by decide) (fun c7 => ?_) (fun c7 => ?_)
  · refine x_aload_n C (pc := 13) dX8_meets_13 0 rfl rfl ?_
    refine xG_titleRow C fl_X8_61 dX8_meets_14 ?_
    refine xG_row C fl_X8_309 dX8_meets_17 ?_
    refine x_iload_n C (pc := 20) dX8_meets_20 1 rfl rfl ?_
    refine x_if_eq C (pc := 21) (tgt := 28) dX8_meets_21 (by decide) (fun c21 => ?_) (fun c21 => ?_)
    · refine x_iconst C (pc := 28) (v := 0) dX8_meets_28 (by decide) ?_
      refine xL_row C dX8_meets_29 (vp_in_nI (n := 0) (by decide) (by decide)) ?_
      exact ret (X 42 (ix 0)) X 30 _ dX8_meets_30 ⟨by unfold v_meets; (repeat (first | rw [if_pos (by assumption)] | rw [if_neg (by assumption)])) <;> first | rfl , rfl⟩
    · refine x_iconst C (pc := 24) (v := 1) dX8_meets_24 (by decide) ?_
      refine x_goto C (pc := 25) (tgt := 29) dX8_meets_25 (by decide) ?_
      refine xL_row C dX8_meets_29 (vp_in_nI (n := 1) (by decide) (by decide)) ?_
      exact ret (X 42 (ix 1)) X 30 _ dX8_meets_30 ⟨by unfold v_meets; (repeat (first | rw [if_pos (by assumption)] | rw [if_neg (by assumption)])) <;> first | rfl , rfl⟩
  · refine x_bipush C (pc := 10) (v := (-9)) dX8_meets_10 (by decide) ?_
    exact ret (-9) X 12 _ dX8_meets_12 ⟨by unfold v_meets; (repeat (first | rw [if_pos (by assumption)] | rw [if_neg (by assumption)])) <;> first | rfl , rfl⟩
set_option maxHeartbeats 4000000 in
set_option maxRecDepth 100000 in
theorem c_X8_tally (l : Launch) (D : va_G) (G : Gx) (X : St) (what : Int32) : Ci l yX8_tally cX8_tally 2 (some .int) 0 (xw G) D (tyG G) [.ref (G.1 0), .int what] X (fun r X1 => r = (v_tally X what) ∧ X1 = X) := by
  refine m_i (nL := 2) (lv := [(0, .ref (G.1 0)), (1, .int what)]) [.ref (G.1 0), .int what] RX8 rfl (xw_adr G) (by decide +kernel) (Nat.le_of_ble_eq_true rfl) rfl (fun K C ret => ?_)
  refine x_iload_n C (pc := 0) dX8_tally_0 1 rfl rfl ?_
  rcases tsw what 7 (by decide) with h1 | ⟨j1, hj1, h1⟩
  · refine x_tout C (pc := 1) (tgt := 126) dX8_tally_1 h1 (by decide) ?_
    have q1_0 : what ≠ 0 := sw_ne h1 0 (by decide) (by decide)
    have q1_1 : what ≠ 1 := sw_ne h1 1 (by decide) (by decide)
    have q1_2 : what ≠ 2 := sw_ne h1 2 (by decide) (by decide)
    have q1_3 : what ≠ 3 := sw_ne h1 3 (by decide) (by decide)
    have q1_4 : what ≠ 4 := sw_ne h1 4 (by decide) (by decide)
    have q1_5 : what ≠ 5 := sw_ne h1 5 (by decide) (by decide)
    have q1_6 : what ≠ 6 := sw_ne h1 6 (by decide) (by decide)
    have q1_7 : what ≠ 7 := sw_ne h1 7 (by decide) (by decide)
    refine x_iconst C (pc := 126) (v := (-1)) dX8_tally_126 (by decide) ?_
    exact ret (-1) X 127 _ dX8_tally_127 ⟨by simp [v_tally, *], rfl⟩
  · rcases (show j1 = 0 ∨ j1 = 1 ∨ j1 = 2 ∨ j1 = 3 ∨ j1 = 4 ∨ j1 = 5 ∨ j1 = 6 ∨ j1 = 7 by omega) with e1 | e1 | e1 | e1 | e1 | e1 | e1 | e1
    · subst e1
      have q1 : what = 0 := sw_eq h1 (by decide)
      refine x_tin C (pc := 1) (off := 47) (tgt := 48) dX8_tally_1 (by rw [h1]; decide) (by rw [h1]; decide) (by rw [h1]; rfl) (by decide) ?_
      refine x_aload_n C (pc := 48) dX8_tally_48 0 rfl rfl ?_
      refine xG_roster C fl_X8_19 dX8_tally_49 ?_
      refine xG_ever C fl_X8_72 dX8_tally_52 ?_
      exact ret (X 101 0) X 55 _ dX8_tally_55 ⟨by simp [v_tally, *], rfl⟩
    · subst e1
      have q1 : what = 1 := sw_eq h1 (by decide)
      refine x_tin C (pc := 1) (off := 55) (tgt := 56) dX8_tally_1 (by rw [h1]; decide) (by rw [h1]; decide) (by rw [h1]; rfl) (by decide) ?_
      refine x_aload_n C (pc := 56) dX8_tally_56 0 rfl rfl ?_
      refine xG_roster C fl_X8_19 dX8_tally_57 ?_
      refine xG_standing C fl_X8_112 dX8_tally_60 ?_
      exact ret (X 102 0) X 63 _ dX8_tally_63 ⟨by simp [v_tally, *], rfl⟩
    · subst e1
      have q1 : what = 2 := sw_eq h1 (by decide)
      refine x_tin C (pc := 1) (off := 63) (tgt := 64) dX8_tally_1 (by rw [h1]; decide) (by rw [h1]; decide) (by rw [h1]; rfl) (by decide) ?_
      refine x_aload_n C (pc := 64) dX8_tally_64 0 rfl rfl ?_
      refine xG_tourney C fl_X8_33 dX8_tally_65 ?_
      refine xG_drawn C fl_X8_184 dX8_tally_68 ?_
      exact ret (X 106 0) X 71 _ dX8_tally_71 ⟨by simp [v_tally, *], rfl⟩
    · subst e1
      have q1 : what = 3 := sw_eq h1 (by decide)
      refine x_tin C (pc := 1) (off := 71) (tgt := 72) dX8_tally_1 (by rw [h1]; decide) (by rw [h1]; decide) (by rw [h1]; rfl) (by decide) ?_
      refine x_aload_n C (pc := 72) dX8_tally_72 0 rfl rfl ?_
      refine xG_tourney C fl_X8_33 dX8_tally_73 ?_
      refine xG_going C fl_X8_76 dX8_tally_76 ?_
      refine x_if_eq C (pc := 79) (tgt := 92) dX8_tally_79 (by decide) (fun c79 => ?_) (fun c79 => ?_)
      · refine x_iconst C (pc := 92) (v := 0) dX8_tally_92 (by decide) ?_
        exact ret 0 X 93 _ dX8_tally_93 ⟨by simp [v_tally, *], rfl⟩
      · refine x_aload_n C (pc := 82) dX8_tally_82 0 rfl rfl ?_
        refine xG_tourney C fl_X8_33 dX8_tally_83 ?_
        refine xG_days C fl_X8_187 dX8_tally_86 ?_
        refine x_goto C (pc := 89) (tgt := 93) dX8_tally_89 (by decide) ?_
        exact ret (X 105 0) X 93 _ dX8_tally_93 ⟨by simp [v_tally, *], rfl⟩
    · subst e1
      have q1 : what = 4 := sw_eq h1 (by decide)
      refine x_tin C (pc := 1) (off := 93) (tgt := 94) dX8_tally_1 (by rw [h1]; decide) (by rw [h1]; decide) (by rw [h1]; rfl) (by decide) ?_
      refine x_aload_n C (pc := 94) dX8_tally_94 0 rfl rfl ?_
      refine xG_tourney C fl_X8_33 dX8_tally_95 ?_
      refine xG_bouts C fl_X8_336 dX8_tally_98 ?_
      exact ret (X 107 0) X 101 _ dX8_tally_101 ⟨by simp [v_tally, *], rfl⟩
    · subst e1
      have q1 : what = 5 := sw_eq h1 (by decide)
      refine x_tin C (pc := 1) (off := 101) (tgt := 102) dX8_tally_1 (by rw [h1]; decide) (by rw [h1]; decide) (by rw [h1]; rfl) (by decide) ?_
      refine x_aload_n C (pc := 102) dX8_tally_102 0 rfl rfl ?_
      refine xG_tourney C fl_X8_33 dX8_tally_103 ?_
      refine xG_lacking C fl_X8_181 dX8_tally_106 ?_
      exact ret (X 108 0) X 109 _ dX8_tally_109 ⟨by simp [v_tally, *], rfl⟩
    · subst e1
      have q1 : what = 6 := sw_eq h1 (by decide)
      refine x_tin C (pc := 1) (off := 109) (tgt := 110) dX8_tally_1 (by rw [h1]; decide) (by rw [h1]; decide) (by rw [h1]; rfl) (by decide) ?_
      refine x_aload_n C (pc := 110) dX8_tally_110 0 rfl rfl ?_
      refine xG_custom C fl_X8_47 dX8_tally_111 ?_
      refine xG_lines C fl_X8_226 dX8_tally_114 ?_
      exact ret (X 112 0) X 117 _ dX8_tally_117 ⟨by simp [v_tally, *], rfl⟩
    · subst e1
      have q1 : what = 7 := sw_eq h1 (by decide)
      refine x_tin C (pc := 1) (off := 117) (tgt := 118) dX8_tally_1 (by rw [h1]; decide) (by rw [h1]; decide) (by rw [h1]; rfl) (by decide) ?_
      refine x_aload_n C (pc := 118) dX8_tally_118 0 rfl rfl ?_
      refine xG_writing C fl_X8_54 dX8_tally_119 ?_
      refine xG_wtimes C fl_X8_377 dX8_tally_122 ?_
      exact ret (X 115 0) X 125 _ dX8_tally_125 ⟨by simp [v_tally, *], rfl⟩
set_option maxHeartbeats 4000000 in
set_option maxRecDepth 100000 in
theorem c_X8_count (l : Launch) (D : va_G) (G : Gx) (X : St) (what : Int32) : Ci l yX8_count cX8_count 2 (some .int) 1 (xw G) D (tyG G) [.ref (G.1 0), .int what] X (fun r X1 => r = (v_tally X what) ∧ X1 = X) := by
  refine m_i (nL := 2) (lv := [(0, .ref (G.1 0)), (1, .int what)]) [.ref (G.1 0), .int what] RX8 rfl (xw_adr G) (by decide +kernel) (Nat.le_of_ble_eq_true rfl) rfl (fun K C ret => ?_)
  refine x_aload_n C (pc := 0) dX8_count_0 0 rfl rfl ?_
  refine x_iload_n C (pc := 1) dX8_count_1 1 rfl rfl ?_
  refine x_callVi C (pc := 2) [.int what] (fun l D => c_X8_tally l D G X what ) (xe_0 G _) rfl ml_X8_319 co_X8_tally im_X8_tally se_X8_tally in_X8 hy_X8_tally (by decide) (by decide) (Nat.le_of_ble_eq_true rfl) dX8_count_2 rfl (kx ?_)
  exact ret (v_tally X what) X 5 _ dX8_count_5 ⟨rfl, rfl⟩
set_option maxHeartbeats 4000000 in
set_option maxRecDepth 100000 in
theorem c_X8_findings (l : Launch) (D : va_G) (G : Gx) (X : St) (f : Int32) : Ci l yX8_findings cX8_findings 2 (some .int) 0 (xw G) D (tyG G) [.ref (G.1 0), .int f] X (fun r X1 => r = (v_findings X f) ∧ X1 = X) := by
  refine m_i (nL := 2) (lv := [(0, .ref (G.1 0)), (1, .int f)]) [.ref (G.1 0), .int f] RX8 rfl (xw_adr G) (by decide +kernel) (Nat.le_of_ble_eq_true rfl) rfl (fun K C ret => ?_)
  refine x_iload_n C (pc := 0) dX8_findings_0 1 rfl rfl ?_
  refine x_iconst C (pc := 1) (v := 1) dX8_findings_1 (by decide) ?_
  refine x_icmp_lt C (pc := 2) (tgt := 10) dX8_findings_2 (by decide) (fun c2 => ?_) (fun c2 => ?_)
  · refine x_iconst C (pc := 10) (v := (-1)) dX8_findings_10 (by decide) ?_
    exact ret (-1) X 11 _ dX8_findings_11 ⟨by unfold v_findings; (repeat (first | rw [if_pos (by assumption)] | rw [if_neg (by assumption)])) <;> first | rfl , rfl⟩
  · refine x_iload_n C (pc := 5) dX8_findings_5 1 rfl rfl ?_
    refine x_iconst C (pc := 6) (v := 5) dX8_findings_6 (by decide) ?_
    refine x_icmp_le C (pc := 7) (tgt := 12) dX8_findings_7 (by decide) (fun c7 => ?_) (fun c7 => ?_)
    · refine x_aload_n C (pc := 12) dX8_findings_12 0 rfl rfl ?_
      refine xG_log C fl_X8_12 dX8_findings_13 ?_
      refine xG_times C fl_X8_325 dX8_findings_16 ?_
      refine x_iload_n C (pc := 19) dX8_findings_19 1 rfl rfl ?_
      refine xL_times C dX8_findings_20 (in_16 c2 c7) ?_
      exact ret (X 9 (ix f)) X 21 _ dX8_findings_21 ⟨by unfold v_findings; (repeat (first | rw [if_pos (by assumption)] | rw [if_neg (by assumption)])) <;> first | rfl , rfl⟩
    · refine x_iconst C (pc := 10) (v := (-1)) dX8_findings_10 (by decide) ?_
      exact ret (-1) X 11 _ dX8_findings_11 ⟨by unfold v_findings; (repeat (first | rw [if_pos (by assumption)] | rw [if_neg (by assumption)])) <;> first | rfl , rfl⟩
set_option maxHeartbeats 4000000 in
set_option maxRecDepth 100000 in
theorem c_X8_crownIfAlone (l : Launch) (D : va_G) (G : Gx) (X : St)  (h0 : (X 117 0) = 1 → vp_in ((X 42) 0) 16) : Cv l yX8_crownIfAlone cX8_crownIfAlone 1 none 0 (xw G) D (tyG G) [.ref (G.1 0)] X (fun X1 => X1 = (s_crown X)) := by
  refine m_v (nL := 1) (lv := [(0, .ref (G.1 0))]) [.ref (G.1 0)] RX8 rfl (xw_adr G) (by decide +kernel) (Nat.le_of_ble_eq_true rfl) rfl (fun K C ret => ?_)
  refine x_aload_n C (pc := 0) dX8_crownIfAlone_0 0 rfl rfl ?_
  refine xG_titleRow C fl_X8_61 dX8_crownIfAlone_1 ?_
  refine xG_left C fl_X8_306 dX8_crownIfAlone_4 ?_
  refine x_iconst C (pc := 7) (v := 1) dX8_crownIfAlone_7 (by decide) ?_
  refine x_icmp_ne C (pc := 8) (tgt := 46) dX8_crownIfAlone_8 (by decide) (fun c8 => ?_) (fun c8 => ?_)
  · exact ret X 46 _ dX8_crownIfAlone_46 (by unfold s_crown; (repeat (first | rw [if_pos (by assumption)] | rw [if_neg (by assumption)])) <;> first | rfl )
  · have hr0 : vp_in ((X 42) 0) 16 := h0 (by assumption)
    refine x_aload_n C (pc := 11) dX8_crownIfAlone_11 0 rfl rfl ?_
    refine xG_titleRow C fl_X8_61 dX8_crownIfAlone_12 ?_
    refine x_aload_n C (pc := 15) dX8_crownIfAlone_15 0 rfl rfl ?_
    refine xG_titleRow C fl_X8_61 dX8_crownIfAlone_16 ?_
    refine xG_row C fl_X8_309 dX8_crownIfAlone_19 ?_
    refine x_iconst C (pc := 22) (v := 0) dX8_crownIfAlone_22 (by decide) ?_
    refine xL_row C dX8_crownIfAlone_23 (vp_in_nI (n := 0) (by decide) (by decide)) ?_
    refine xP_holder C fl_X8_316 (v := (X 42 (ix 0))) dX8_crownIfAlone_24 ?_
    refine x_aload_n C (pc := 27) dX8_crownIfAlone_27 0 rfl rfl ?_
    refine xG_roster C fl_X8_19 dX8_crownIfAlone_28 ?_
    refine xG_titles C fl_X8_374 dX8_crownIfAlone_31 ?_
    refine x_aload_n C (pc := 34) dX8_crownIfAlone_34 0 rfl rfl ?_
    refine xG_titleRow C fl_X8_61 dX8_crownIfAlone_35 ?_
    refine xG_holder C fl_X8_316 dX8_crownIfAlone_38 ?_
    refine x_top (y := (X 42 (ix 0))) rfl ?_
    refine x_dup2 C (pc := 41) dX8_crownIfAlone_41 rfl rfl ?_
    refine xL_titles C dX8_crownIfAlone_42 (by assumption) ?_
    refine x_top (y := (X 16 (ix (X 42 (ix 0))))) rfl ?_
    refine x_iconst C (pc := 43) (v := 1) dX8_crownIfAlone_43 (by decide) ?_
    refine x_iadd C (pc := 44) dX8_crownIfAlone_44 ?_
    refine xS_titles C dX8_crownIfAlone_45 (by assumption) ?_
    exact ret (ux (ux X 119 0 (X 42 (ix 0))) 16 (ix (X 42 (ix 0))) ((X 16 (ix (X 42 (ix 0)))) + 1)) 46 _ dX8_crownIfAlone_46 (by unfold s_crown; (repeat (first | rw [if_pos (by assumption)] | rw [if_neg (by assumption)])) <;> first | rfl )
set_option maxHeartbeats 4000000 in
set_option maxRecDepth 100000 in
theorem c_X8_wins (l : Launch) (D : va_G) (G : Gx) (N : Nat) (X : St) (f : Int32) (hL : (X 117 0) = nI N) (hN16 : N ≤ 16) (hR : ∀ r, r < N → vp_in ((X 42) r) 16) : Ci l yX8_wins cX8_wins 2 (some .int) 2 (xw G) D (tyG G) [.ref (G.1 0), .int f] X (fun r X1 => r = (v_wins X) ∧ X1 = (s_wins X f)) := by
  refine m_i (nL := 2) (lv := [(0, .ref (G.1 0)), (1, .int f)]) [.ref (G.1 0), .int f] RX8 rfl (xw_adr G) (by decide +kernel) (Nat.le_of_ble_eq_true rfl) rfl (fun K C ret => ?_)
  refine x_aload_n C (pc := 0) dX8_wins_0 0 rfl rfl ?_
  refine xG_titleRow C fl_X8_61 dX8_wins_1 ?_
  refine x_callVi C (pc := 4) [] (fun l D => c_X5_goesOn l D G X ) (xe_8 G _) rfl ml_X8_234 co_X5_goesOn im_X5_goesOn se_X5_goesOn in_X5 hy_X5_goesOn (by decide) (by decide) (Nat.le_of_ble_eq_true rfl) dX8_wins_4 rfl (kx ?_)
  refine x_if_ne C (pc := 7) (tgt := 13) dX8_wins_7 (by decide) (fun c7 => ?_) (fun c7 => ?_)
  · have h2 : 2 ≤ N := goes_2 c7 hL (by omega)
    refine x_aload_n C (pc := 13) dX8_wins_13 0 rfl rfl ?_
    refine xG_titleRow C fl_X8_61 dX8_wins_14 ?_
    refine x_iload_n C (pc := 17) dX8_wins_17 1 rfl rfl ?_
    refine x_callVv C (pc := 18) [.int f] (fun l D => c_X5_settle l D G N X f hN16 h2 hL) (xe_8 G _) rfl ml_X8_312 co_X5_settle im_X5_settle se_X5_settle in_X5 hy_X5_settle (by decide) (by decide) (Nat.le_of_ble_eq_true rfl) dX8_wins_18 rfl (kxv ?_)
    refine x_aload_n C (pc := 21) dX8_wins_21 0 rfl rfl ?_
    refine x_callVv C (pc := 22) [] (fun l D => c_X8_crownIfAlone l D G (s_X5_settle X f) (settle_0 hL h2 hN16 hR)) (xe_0 G _) rfl ml_X8_303 co_X8_crownIfAlone im_X8_crownIfAlone se_X8_crownIfAlone in_X8 hy_X8_crownIfAlone (by decide) (by decide) (Nat.le_of_ble_eq_true rfl) dX8_wins_22 rfl (kxv ?_)
    refine x_aload_n C (pc := 25) dX8_wins_25 0 rfl rfl ?_
    refine xG_titleRow C fl_X8_61 dX8_wins_26 ?_
    refine xG_left C fl_X8_306 dX8_wins_29 ?_
    exact ret ((s_crown (s_X5_settle X f)) 117 0) (s_crown (s_X5_settle X f)) 32 _ dX8_wins_32 ⟨by rw [crown_left]; unfold v_wins; rw [if_neg c7]; rfl, by unfold s_wins; rw [if_neg c7]⟩
  · refine x_bipush C (pc := 10) (v := (-4)) dX8_wins_10 (by decide) ?_
    exact ret (-4) X 12 _ dX8_wins_12 ⟨by unfold v_wins; (repeat (first | rw [if_pos (by assumption)] | rw [if_neg (by assumption)])) <;> first | rfl , by unfold s_wins; (repeat (first | rw [if_pos (by assumption)] | rw [if_neg (by assumption)])) <;> first | rfl | exact (ref_id (by assumption)).symm⟩
