
def v_abs (d : Int32) : Int32 := if 0 ≤ d then d else 0 - d
def v_chg (X : St) (a b : Int32) : Int32 := if v_bars X a b = 0 then v_X4_priceOf X (v_abs ((X 14) (ix a) - (X 14) (ix b))) + (X 13) (ix b) - (X 13) (ix a) else (-1)
def gt1 (X : St) (j : Nat) : St := ux (sr X 28 (plR (X 19) (X 20) 0 (X 28) j)) 111 0 (nI (plC (X 19) (X 20) 0 j))
theorem gt1_0 (X : St) : gt1 X 0 = ux X 111 0 0 := by
  unfold gt1 plR plC
  rw [sr_self]
  rfl
theorem gt1_step {X : St} {j : Nat} (h : (X 19) (ix ((X 20) j)) = 0) : ux (ux (gt1 X j) 28 (plC (X 19) (X 20) 0 j) ((X 20) j)) 111 0 (nI (plC (X 19) (X 20) 0 j) + 1) = gt1 X (j + 1) := by
  unfold gt1
  rw [plR, plC, if_pos h, if_pos h, ux_com _ _ _ _ _ (by decide : 111 ≠ 28), ux_srs, ux_ux, nI_1]
theorem gt1_skip {X : St} {j : Nat} (h : ¬ (X 19) (ix ((X 20) j)) = 0) : gt1 X j = gt1 X (j + 1) := by
  unfold gt1
  rw [plR, plC, if_neg h, if_neg h]
/-- the charges laid: all pairs of places below p, and of place p those before q -/
def scP (X : St) (n p q : Nat) : St := fun i j => if 47 ≤ i ∧ ((i - 47 < p ∧ i - 47 < j ∧ j < n) ∨ (i - 47 = p ∧ p < j ∧ j < q)) then v_chg X ((X 28) (i - 47)) ((X 28) j) else X i j
theorem scP_row (X : St) (n p q : Nat) {a : Nat} (h : a < 47) : scP X n p q a = X a := by
  funext j
  unfold scP
  rw [if_neg (by omega)]
theorem scP_row2 (X : St) (n p q : Nat) {a : Nat} (h : 47 + p < a) : scP X n p q a = X a := by
  funext j
  unfold scP
  rw [if_neg (by omega)]
theorem scP_0 (X : St) (n : Nat) : scP X n 0 1 = X := by
  funext i j
  unfold scP
  rw [if_neg (by omega)]
theorem scP_next (X : St) (n p : Nat) : scP X n p n = scP X n (p + 1) (p + 2) := by
  funext i j
  unfold scP
  by_cases h : 47 ≤ i ∧ ((i - 47 < p ∧ i - 47 < j ∧ j < n) ∨ (i - 47 = p ∧ p < j ∧ j < n))
  · rw [if_pos h, if_pos (by omega)]
  · rw [if_neg h, if_neg (by omega)]
theorem scP_step (X : St) {n p q : Nat} (hpq : p < q) (hqn : q < n) : ux (scP X n p q) (47 + p) q (v_chg X ((X 28) p) ((X 28) q)) = scP X n p (q + 1) := by
  funext i j
  unfold ux sr
  by_cases e : i = 47 + p
  · rw [if_pos e]
    simp only [upd]
    by_cases e2 : j = q
    · rw [if_pos e2]
      unfold scP
      rw [if_pos (by omega), e, e2, show 47 + p - 47 = p by omega]
    · rw [if_neg e2, e]
      unfold scP
      by_cases h : 47 ≤ 47 + p ∧ ((47 + p - 47 < p ∧ 47 + p - 47 < j ∧ j < n) ∨ (47 + p - 47 = p ∧ p < j ∧ j < q))
      · rw [if_pos h, if_pos (by omega)]
      · rw [if_neg h, if_neg (by omega)]
  · rw [if_neg e]
    unfold scP
    by_cases h : 47 ≤ i ∧ ((i - 47 < p ∧ i - 47 < j ∧ j < n) ∨ (i - 47 = p ∧ p < j ∧ j < q))
    · rw [if_pos h, if_pos (by omega)]
    · rw [if_neg h, if_neg (by omega)]
theorem scP_at {X : St} {n p q : Nat} (hp : p < n) (hpq : p < q) (hq : q < n) : scP X n n (n + 1) (47 + p) q = v_chg X ((X 28) p) ((X 28) q) := by
  unfold scP
  rw [if_pos (by omega), show 47 + p - 47 = p by omega]
theorem chg_agr {X Y : St} (h : ∀ a, a < 47 ∨ 100 ≤ a → X a = Y a) (ht : (X 103 0) ≠ (-9) → vp_in (X 103 0) 4) (a b : Int32) : v_chg X a b = v_chg Y a b := by
  have h4 : (X 103 0) ≠ (-9) → X (43 + ix (X 103 0)) = Y (43 + ix (X 103 0)) := fun q => h _ (Or.inl (by have := in_ix (ht q); omega))
  have e : v_bars X a b = v_bars Y a b := by
    unfold v_bars bars2 bars1 v_X6_haveMet
    rw [h 11 (by decide), h 12 (by decide), h 104 (by decide), h 27 (by decide)]
  unfold v_chg
  rw [e, h 14 (by decide), h 13 (by decide)]
  unfold v_X4_priceOf
  by_cases q : (X 103 0) = (-9)
  · have q2 : (Y 103 0) = (-9) := by rw [← h 103 (by decide)]; exact q
    rw [if_pos q, if_pos q2]
  · have q2 : ¬ (Y 103 0) = (-9) := by rw [← h 103 (by decide)]; exact q
    rw [if_neg q, if_neg q2, h4 q, h 22 (by decide), h 103 (by decide)]
set_option maxHeartbeats 4000000 in
set_option maxRecDepth 100000 in
theorem c_X8_chargeFor (l : Launch) (D : va_G) (G : Gx) (X : St) (a : Int32) (b : Int32) (ha : vp_in a 16) (hb : vp_in b 16) (ht : (X 103 0) ≠ (-9) → vp_in (X 103 0) 4) (hZ : ∀ j, j < 4 → (X 22) j = (-1) ∨ ∃ z, z ≤ 16 ∧ (X 22) j = nI z) (hk : ∃ k, k < 2 ^ 31 ∧ v_abs ((X 14) (ix a) - (X 14) (ix b)) = nI k) : Ci l yX8_chargeFor cX8_chargeFor 4 (some .int) 2 (xw G) D (tyG G) [.ref (G.1 0), .int a, .int b] X (fun r X1 => r = (v_chg X a b) ∧ X1 = X) := by
  refine m_i (nL := 4) (lv := [(0, .ref (G.1 0)), (1, .int a), (2, .int b)]) [.ref (G.1 0), .int a, .int b] RX8 rfl (xw_adr G) (by decide +kernel) (Nat.le_of_ble_eq_true rfl) rfl (fun K C ret => ?_)
  refine x_aload_n C (pc := 0) dX8_chargeFor_0 0 rfl rfl ?_
  refine x_iload_n C (pc := 1) dX8_chargeFor_1 1 rfl rfl ?_
  refine x_iload_n C (pc := 2) dX8_chargeFor_2 2 rfl rfl ?_
  refine x_callVi C (pc := 3) [.int a, .int b] (fun l D => c_X8_barsBetween l D G X a b (by assumption) (by assumption)) (xe_0 G _) rfl ml_X8_178 co_X8_barsBetween im_X8_barsBetween se_X8_barsBetween in_X8 hy_X8_barsBetween (by decide) (by decide) (Nat.le_of_ble_eq_true rfl) dX8_chargeFor_3 rfl (kx ?_)
  refine x_if_eq C (pc := 6) (tgt := 11) dX8_chargeFor_6 (by decide) (fun c6 => ?_) (fun c6 => ?_)
  · obtain ⟨k, hk1, hk2⟩ := hk
    refine x_aload_n C (pc := 11) dX8_chargeFor_11 0 rfl rfl ?_
    refine xG_roster C fl_X8_19 dX8_chargeFor_12 ?_
    refine xG_wins C fl_X8_125 dX8_chargeFor_15 ?_
    refine x_iload_n C (pc := 18) dX8_chargeFor_18 1 rfl rfl ?_
    refine xL_wins C dX8_chargeFor_19 (by assumption) ?_
    refine x_aload_n C (pc := 20) dX8_chargeFor_20 0 rfl rfl ?_
    refine xG_roster C fl_X8_19 dX8_chargeFor_21 ?_
    refine xG_wins C fl_X8_125 dX8_chargeFor_24 ?_
    refine x_iload_n C (pc := 27) dX8_chargeFor_27 2 rfl rfl ?_
    refine xL_wins C dX8_chargeFor_28 (by assumption) ?_
    refine x_isub C (pc := 29) dX8_chargeFor_29 ?_
    refine x_abs C (pc := 30) ml_X8_360 (by decide) (Nat.le_of_ble_eq_true rfl) dX8_chargeFor_30 ?_
    refine x_top (y := v_abs ((X 14 (ix a)) - (X 14 (ix b)))) (rfl) ?_
    refine x_istore_n C (pc := 33) dX8_chargeFor_33 [(0, .ref (G.1 0)), (1, .int a), (2, .int b), (3, .int (v_abs ((X 14 (ix a)) - (X 14 (ix b)))))] [1, 2, 3, 0] rfl (by decide) rfl ?_
    refine x_aload_n C (pc := 34) dX8_chargeFor_34 0 rfl rfl ?_
    refine xG_sheets C fl_X8_26 dX8_chargeFor_35 ?_
    refine x_iload_n C (pc := 38) dX8_chargeFor_38 3 rfl rfl ?_
    refine x_callVi C (pc := 39) [.int (v_abs ((X 14 (ix a)) - (X 14 (ix b))))] (fun l D => c_X4_priceOf l D G X (v_abs ((X 14 (ix a)) - (X 14 (ix b)))) ht (price_in ht hZ hk2 hk1)) (xe_3 G _) rfl ml_X8_162 co_X4_priceOf im_X4_priceOf se_X4_priceOf in_X4 hy_X4_priceOf (by decide) (by decide) (Nat.le_of_ble_eq_true rfl) dX8_chargeFor_39 rfl (kx ?_)
    refine x_aload_n C (pc := 42) dX8_chargeFor_42 0 rfl rfl ?_
    refine xG_roster C fl_X8_19 dX8_chargeFor_43 ?_
    refine xG_rungOf C fl_X8_365 dX8_chargeFor_46 ?_
    refine x_iload_n C (pc := 49) dX8_chargeFor_49 2 rfl rfl ?_
    refine xL_rungOf C dX8_chargeFor_50 (by assumption) ?_
    refine x_iadd C (pc := 51) dX8_chargeFor_51 ?_
    refine x_aload_n C (pc := 52) dX8_chargeFor_52 0 rfl rfl ?_
    refine xG_roster C fl_X8_19 dX8_chargeFor_53 ?_
    refine xG_rungOf C fl_X8_365 dX8_chargeFor_56 ?_
    refine x_iload_n C (pc := 59) dX8_chargeFor_59 1 rfl rfl ?_
    refine xL_rungOf C dX8_chargeFor_60 (by assumption) ?_
    refine x_isub C (pc := 61) dX8_chargeFor_61 ?_
    exact ret (((v_X4_priceOf X (v_abs ((X 14 (ix a)) - (X 14 (ix b))))) + (X 13 (ix b))) - (X 13 (ix a))) X 62 _ dX8_chargeFor_62 ⟨by unfold v_chg; (repeat (first | rw [if_pos (by assumption)] | rw [if_neg (by assumption)])) <;> first | rfl , rfl⟩
  · refine x_iconst C (pc := 9) (v := (-1)) dX8_chargeFor_9 (by decide) ?_
    exact ret (-1) X 10 _ dX8_chargeFor_10 ⟨by unfold v_chg; (repeat (first | rw [if_pos (by assumption)] | rw [if_neg (by assumption)])) <;> first | rfl , rfl⟩
set_option maxHeartbeats 4000000 in
set_option maxRecDepth 100000 in
theorem c_X8_gatherThosePresent (l : Launch) (D : va_G) (G : Gx) (N : Nat) (X : St)  (hS : (X 102 0) = nI N) (hN16 : N ≤ 16) (hB : ∀ r, r < N → vp_in ((X 20) r) 16) : Cv l yX8_gatherThosePresent cX8_gatherThosePresent 3 none 0 (xw G) D (tyG G) [.ref (G.1 0)] X (fun X1 => X1 = (gt1 X N)) := by
  refine m_v (nL := 3) (lv := [(0, .ref (G.1 0))]) [.ref (G.1 0)] RX8 rfl (xw_adr G) (by decide +kernel) (Nat.le_of_ble_eq_true rfl) rfl (fun K C ret => ?_)
  refine x_aload_n C (pc := 0) dX8_gatherThosePresent_0 0 rfl rfl ?_
  refine xG_fitting C fl_X8_40 dX8_gatherThosePresent_1 ?_
  refine x_iconst C (pc := 4) (v := 0) dX8_gatherThosePresent_4 (by decide) ?_
  refine xP_fsize C fl_X8_348 (v := 0) dX8_gatherThosePresent_5 ?_
  refine x_iconst C (pc := 8) (v := 0) dX8_gatherThosePresent_8 (by decide) ?_
  refine x_istore_n C (pc := 9) dX8_gatherThosePresent_9 [(0, .ref (G.1 0)), (1, .int 0)] [1, 0] rfl (by decide) rfl ?_
  have L10 : ∀ (nu : Nat) (Y : St) (i : Int32) (j : Nat), (j ≤ N) → (i = nI j) → (Y = gt1 X j) → (N - j) < nu → WX K (xw G) 3 Y 10 [(0, .ref (G.1 0)), (1, .int i)] [] := by
    intro nu
    induction nu with
    | zero => intro Y i j hj hi hY hmu10; exact absurd hmu10 (Nat.not_lt_zero _)
    | succ n10 ih10 =>
      intro Y i j hj hi hY hmu10
      refine x_iload_n C (pc := 10) dX8_gatherThosePresent_10 1 rfl rfl ?_
      refine x_aload_n C (pc := 11) dX8_gatherThosePresent_11 0 rfl rfl ?_
      refine xG_roster C fl_X8_19 dX8_gatherThosePresent_12 ?_
      refine xG_standing C fl_X8_112 dX8_gatherThosePresent_15 ?_
      refine x_icmp_ge C (pc := 18) (tgt := 78) dX8_gatherThosePresent_18 (by decide) (fun c18 => ?_) (fun c18 => ?_)
      · have hYs : (Y 102 0) = nI N := by rw [hY]; exact hS
        have hge : N ≤ j := geN hi hYs c18 (by omega)
        have hjN : j = N := by omega
        exact ret Y 78 _ dX8_gatherThosePresent_78 (by rw [hY, hjN])
      · have hYs : (Y 102 0) = nI N := by rw [hY]; exact hS
        have hlt : j < N := ltN hi hYs c18 (by omega)
        have hin : vp_in i 16 := by rw [hi]; exact vp_in_nI (by omega) (by decide)
        have hix : ix i = j := by rw [hi]; exact ix_nI (by omega)
        have hYb : (Y 20) = (X 20) := by rw [hY]; rfl
        have hYa : (Y 19) = (X 19) := by rw [hY]; rfl
        have hin2 : vp_in ((Y 20) (ix i)) 16 := by rw [hYb, hix]; exact hB j hlt
        have hYf : (Y 111 0) = nI (plC (X 19) (X 20) 0 j) := by rw [hY]; rfl
        have hcl := plC_le (X 19) (X 20) 0 j
        refine x_aload_n C (pc := 21) dX8_gatherThosePresent_21 0 rfl rfl ?_
        refine xG_roster C fl_X8_19 dX8_gatherThosePresent_22 ?_
        refine xG_board C fl_X8_115 dX8_gatherThosePresent_25 ?_
        refine x_iload_n C (pc := 28) dX8_gatherThosePresent_28 1 rfl rfl ?_
        refine xL_board C dX8_gatherThosePresent_29 (by assumption) ?_
        refine x_istore_n C (pc := 30) dX8_gatherThosePresent_30 [(0, .ref (G.1 0)), (1, .int i), (2, .int (Y 20 (ix i)))] [1, 2, 0] rfl (by decide) rfl ?_
        refine x_aload_n C (pc := 31) dX8_gatherThosePresent_31 0 rfl rfl ?_
        refine xG_roster C fl_X8_19 dX8_gatherThosePresent_32 ?_
        refine xG_away C fl_X8_175 dX8_gatherThosePresent_35 ?_
        refine x_iload_n C (pc := 38) dX8_gatherThosePresent_38 2 rfl rfl ?_
        refine xL_away C dX8_gatherThosePresent_39 (by assumption) ?_
        refine x_if_ne C (pc := 40) (tgt := 72) dX8_gatherThosePresent_40 (by decide) (fun c40 => ?_) (fun c40 => ?_)
        · refine x_iinc C (pc := 72) (v := i + 1) dX8_gatherThosePresent_72 1 [(0, .ref (G.1 0)), (1, .int (i + 1)), (2, .int (Y 20 (ix i)))] [1, 0, 2] rfl (by rfl) (by decide) rfl ?_
          refine x_goto C (pc := 75) (tgt := 10) dX8_gatherThosePresent_75 (by decide) ?_
          refine x_sub [(0, .ref (G.1 0)), (1, .int (i + 1))] [0, 1] rfl ?_
          exact ih10 Y (i + 1) (j + 1) (by omega) (by rw [hi]; exact nI_1 j) (by rw [hYa, hYb, hix] at c40; first | (rw [hYf, ix_nI (by omega), hYb, hix, hY]; exact gt1_step c40) | (rw [hY]; exact gt1_skip c40)) (by omega)
        · have hinl : vp_in (Y 111 0) 16 := by rw [hYf]; exact vp_in_nI (by omega) (by decide)
          refine x_aload_n C (pc := 43) dX8_gatherThosePresent_43 0 rfl rfl ?_
          refine xG_fitting C fl_X8_40 dX8_gatherThosePresent_44 ?_
          refine xG_who C fl_X8_350 dX8_gatherThosePresent_47 ?_
          refine x_aload_n C (pc := 50) dX8_gatherThosePresent_50 0 rfl rfl ?_
          refine xG_fitting C fl_X8_40 dX8_gatherThosePresent_51 ?_
          refine xG_fsize C fl_X8_348 dX8_gatherThosePresent_54 ?_
          refine x_iload_n C (pc := 57) dX8_gatherThosePresent_57 2 rfl rfl ?_
          refine xS_who C dX8_gatherThosePresent_58 (by assumption) ?_
          refine x_aload_n C (pc := 59) dX8_gatherThosePresent_59 0 rfl rfl ?_
          refine xG_fitting C fl_X8_40 dX8_gatherThosePresent_60 ?_
          refine x_dup C (pc := 63) dX8_gatherThosePresent_63 rfl ?_
          refine xG_fsize C fl_X8_348 dX8_gatherThosePresent_64 ?_
          refine x_top (y := (Y 111 0)) rfl ?_
          refine x_iconst C (pc := 67) (v := 1) dX8_gatherThosePresent_67 (by decide) ?_
          refine x_iadd C (pc := 68) dX8_gatherThosePresent_68 ?_
          refine xP_fsize C fl_X8_348 (v := (Y 111 0) + 1) dX8_gatherThosePresent_69 ?_
          refine x_iinc C (pc := 72) (v := i + 1) dX8_gatherThosePresent_72 1 [(0, .ref (G.1 0)), (1, .int (i + 1)), (2, .int (Y 20 (ix i)))] [1, 0, 2] rfl (by rfl) (by decide) rfl ?_
          refine x_goto C (pc := 75) (tgt := 10) dX8_gatherThosePresent_75 (by decide) ?_
          refine x_sub [(0, .ref (G.1 0)), (1, .int (i + 1))] [0, 1] rfl ?_
          exact ih10 (ux (ux Y 28 (ix (Y 111 0)) (Y 20 (ix i))) 111 0 ((Y 111 0) + 1)) (i + 1) (j + 1) (by omega) (by rw [hi]; exact nI_1 j) (by rw [hYa, hYb, hix] at c40; first | (rw [hYf, ix_nI (by omega), hYb, hix, hY]; exact gt1_step c40) | (rw [hY]; exact gt1_skip c40)) (by omega)
  exact L10 _ (ux X 111 0 0) 0 0 (Nat.zero_le _) rfl ((gt1_0 X).symm) (Nat.lt_succ_self _)
set_option maxHeartbeats 4000000 in
set_option maxRecDepth 100000 in
theorem c_X8_setCharges (l : Launch) (D : va_G) (G : Gx) (n : Nat) (X : St)  (hn16 : n ≤ 16) (hf : (X 111 0) = nI n) (hW : ∀ p, p < n → vp_in ((X 28) p) 16) (ht : (X 103 0) ≠ (-9) → vp_in (X 103 0) 4) (hZs : ∀ j, j < 4 → (X 22) j = (-1) ∨ ∃ z, z ≤ 16 ∧ (X 22) j = nI z) (hk : ∀ p q, p < q → q < n → ∃ k, k < 2 ^ 31 ∧ v_abs ((X 14) (ix ((X 28) p)) - (X 14) (ix ((X 28) q))) = nI k) : Cv l yX8_setCharges cX8_setCharges 3 none 3 (xw G) D (tyG G) [.ref (G.1 0)] X (fun X1 => X1 = (scP X n n (n + 1))) := by
  refine m_v (nL := 3) (lv := [(0, .ref (G.1 0))]) [.ref (G.1 0)] RX8 rfl (xw_adr G) (by decide +kernel) (Nat.le_of_ble_eq_true rfl) rfl (fun K C ret => ?_)
  refine x_iconst C (pc := 0) (v := 0) dX8_setCharges_0 (by decide) ?_
  refine x_istore_n C (pc := 1) dX8_setCharges_1 [(0, .ref (G.1 0)), (1, .int 0)] [1, 0] rfl (by decide) rfl ?_
  have L2 : ∀ (nu : Nat) (Y : St) (i : Int32) (p : Nat), (p ≤ n) → (i = nI p) → (Y = scP X n p (p + 1)) → (n - p) < nu → WX K (xw G) 3 Y 2 [(0, .ref (G.1 0)), (1, .int i)] [] := by
    intro nu
    induction nu with
    | zero => intro Y i p hp hi hY hmu2; exact absurd hmu2 (Nat.not_lt_zero _)
    | succ n2 ih2 =>
      intro Y i p hp hi hY hmu2
      refine x_iload_n C (pc := 2) dX8_setCharges_2 1 rfl rfl ?_
      refine x_aload_n C (pc := 3) dX8_setCharges_3 0 rfl rfl ?_
      refine xG_fitting C fl_X8_40 dX8_setCharges_4 ?_
      refine xG_fsize C fl_X8_348 dX8_setCharges_7 ?_
      refine x_icmp_ge C (pc := 10) (tgt := 73) dX8_setCharges_10 (by decide) (fun c10 => ?_) (fun c10 => ?_)
      · have hYf : (Y 111 0) = nI n := by rw [hY, scP_row2 _ _ _ _ (by omega)]; exact hf
        have hpn : p = n := by have := geN hi hYf c10 (by omega); omega
        exact ret Y 73 _ dX8_setCharges_73 (by rw [hY, hpn])
      · have hYf : (Y 111 0) = nI n := by rw [hY, scP_row2 _ _ _ _ (by omega)]; exact hf
        have hpn : p < n := ltN hi hYf c10 (by omega)
        have hix : ix i = p := by rw [hi]; exact ix_nI (by omega)
        have hin : vp_in i 16 := by rw [hi]; exact vp_in_nI (by omega) (by decide)
        refine x_iload_n C (pc := 13) dX8_setCharges_13 1 rfl rfl ?_
        refine x_iconst C (pc := 14) (v := 1) dX8_setCharges_14 (by decide) ?_
        refine x_iadd C (pc := 15) dX8_setCharges_15 ?_
        refine x_istore_n C (pc := 16) dX8_setCharges_16 [(0, .ref (G.1 0)), (1, .int i), (2, .int (i + 1))] [1, 2, 0] rfl (by decide) rfl ?_
        have L17 : ∀ (nu : Nat) (Z : St) (x : Int32) (q : Nat), (p < q) → (q ≤ n) → (x = nI q) → (Z = scP X n p q) → (n - q) < nu → WX K (xw G) 3 Z 17 [(0, .ref (G.1 0)), (1, .int i), (2, .int x)] [] := by
          intro nu
          induction nu with
          | zero => intro Z x q hq hqn0 hx hZ hmu17; exact absurd hmu17 (Nat.not_lt_zero _)
          | succ n17 ih17 =>
            intro Z x q hq hqn0 hx hZ hmu17
            refine x_iload_n C (pc := 17) dX8_setCharges_17 2 rfl rfl ?_
            refine x_aload_n C (pc := 18) dX8_setCharges_18 0 rfl rfl ?_
            refine xG_fitting C fl_X8_40 dX8_setCharges_19 ?_
            refine xG_fsize C fl_X8_348 dX8_setCharges_22 ?_
            refine x_icmp_ge C (pc := 25) (tgt := 67) dX8_setCharges_25 (by decide) (fun c25 => ?_) (fun c25 => ?_)
            · have hZf : (Z 111 0) = nI n := by rw [hZ, scP_row2 _ _ _ _ (by omega)]; exact hf
              have hqn : q = n := by have := geN hx hZf c25 (by omega); omega
              refine x_iinc C (pc := 67) (v := i + 1) dX8_setCharges_67 1 [(0, .ref (G.1 0)), (1, .int (i + 1)), (2, .int x)] [1, 0, 2] rfl (by rfl) (by decide) rfl ?_
              refine x_goto C (pc := 70) (tgt := 2) dX8_setCharges_70 (by decide) ?_
              refine x_sub [(0, .ref (G.1 0)), (1, .int (i + 1))] [0, 1] rfl ?_
              exact ih2 Z (i + 1) (p + 1) (by omega) (by rw [hi]; exact nI_1 p) (by rw [hZ, hqn, scP_next]) (by omega)
            · have hZf : (Z 111 0) = nI n := by rw [hZ, scP_row2 _ _ _ _ (by omega)]; exact hf
              have hqn : q < n := ltN hx hZf c25 (by omega)
              have hxx : ix x = q := by rw [hx]; exact ix_nI (by omega)
              have hinx : vp_in x 16 := by rw [hx]; exact vp_in_nI (by omega) (by decide)
              have hZr : ∀ a, a < 47 ∨ 100 ≤ a → Z a = X a := fun a h => by
                rw [hZ]
                rcases h with h | h
                · exact scP_row _ _ _ _ h
                · exact scP_row2 _ _ _ _ (by omega)
              have hZw : (Z 28) = (X 28) := hZr _ (by decide)
              have hw1 : vp_in ((Z 28) (ix i)) 16 := by rw [hZw, hix]; exact hW p hpn
              have hw2 : vp_in ((Z 28) (ix x)) 16 := by rw [hZw, hxx]; exact hW q hqn
              have hpr : ix i < 16 := by rw [hix]; omega
              have hZt : (Z 103 0) ≠ (-9) → vp_in (Z 103 0) 4 := by rw [hZr 103 (by decide)]; exact ht
              have hZz : ∀ j, j < 4 → (Z 22) j = (-1) ∨ ∃ z, z ≤ 16 ∧ (Z 22) j = nI z := by rw [hZr 22 (by decide)]; exact hZs
              have hkk : ∃ k, k < 2 ^ 31 ∧ v_abs ((Z 14) (ix ((Z 28) (ix i))) - (Z 14) (ix ((Z 28) (ix x)))) = nI k := by rw [hZw, hZr 14 (by decide), hix, hxx]; exact hk p q hq hqn
              have hv : v_chg Z ((Z 28) (ix i)) ((Z 28) (ix x)) = v_chg X ((X 28) p) ((X 28) q) := by rw [hZw, hix, hxx]; exact (chg_agr (fun a h => (hZr a h).symm) ht _ _).symm
              refine x_aload_n C (pc := 28) dX8_setCharges_28 0 rfl rfl ?_
              refine xG_fitting C fl_X8_40 dX8_setCharges_29 ?_
              refine xG_charge C fl_X8_353 dX8_setCharges_32 ?_
              refine x_iload_n C (pc := 35) dX8_setCharges_35 1 rfl rfl ?_
              refine xL_charge C dX8_setCharges_36 (by exact hin) ?_
              refine x_iload_n C (pc := 37) dX8_setCharges_37 2 rfl rfl ?_
              refine x_aload_n C (pc := 38) dX8_setCharges_38 0 rfl rfl ?_
              refine x_aload_n C (pc := 39) dX8_setCharges_39 0 rfl rfl ?_
              refine xG_fitting C fl_X8_40 dX8_setCharges_40 ?_
              refine xG_who C fl_X8_350 dX8_setCharges_43 ?_
              refine x_iload_n C (pc := 46) dX8_setCharges_46 1 rfl rfl ?_
              refine xL_who C dX8_setCharges_47 (by exact hin) ?_
              refine x_aload_n C (pc := 48) dX8_setCharges_48 0 rfl rfl ?_
              refine xG_fitting C fl_X8_40 dX8_setCharges_49 ?_
              refine xG_who C fl_X8_350 dX8_setCharges_52 ?_
              refine x_iload_n C (pc := 55) dX8_setCharges_55 2 rfl rfl ?_
              refine xL_who C dX8_setCharges_56 (by exact hinx) ?_
              refine x_callVi C (pc := 57) [.int (Z 28 (ix i)), .int (Z 28 (ix x))] (fun l D => c_X8_chargeFor l D G Z (Z 28 (ix i)) (Z 28 (ix x)) hw1 hw2 hZt hZz hkk) (xe_0 G _) rfl ml_X8_357 co_X8_chargeFor im_X8_chargeFor se_X8_chargeFor in_X8 hy_X8_chargeFor (by decide) (by decide) (Nat.le_of_ble_eq_true rfl) dX8_setCharges_57 rfl (kx ?_)
              refine xSS_charge C dX8_setCharges_60 (by exact hpr) (by exact hinx) ?_
              refine x_iinc C (pc := 61) (v := x + 1) dX8_setCharges_61 2 [(0, .ref (G.1 0)), (1, .int i), (2, .int (x + 1))] [1, 2, 0] rfl (by rfl) (by decide) rfl ?_
              refine x_goto C (pc := 64) (tgt := 17) dX8_setCharges_64 (by decide) ?_
              exact ih17 (ux Z (47 + ix i) (ix x) (v_chg Z (Z 28 (ix i)) (Z 28 (ix x)))) (x + 1) (q + 1) (by omega) (by omega) (by rw [hx]; exact nI_1 q) (by rw [hv, hix, hxx, hZ, scP_step X hq hqn]) (by omega)
        exact L17 _ Y (i + 1) (p + 1) (by omega) (by omega) (by rw [hi]; exact nI_1 p) hY (Nat.lt_succ_self _)
  exact L2 _ X 0 0 (Nat.zero_le _) rfl ((scP_0 X n).symm) (Nat.lt_succ_self _)

theorem mT_inv {c : Nat → Nat → Option Nat} {n : Nat} {b : Nat → Int32} : ∀ j, j ≤ n →
    (∀ p, p < j → (fT c n p p = true → (sel c n p (fT c n p) = none → mT c n b j p = b p) ∧ (∀ q, sel c n p (fT c n p) = some q → mT c n b j p = nI q)) ∧ (fT c n p p = false → ∃ r, r < p ∧ mT c n b j p = nI r)) ∧
    (∀ p, j ≤ p → (fT c n j p = true → mT c n b j p = b p) ∧ (fT c n j p = false → ∃ r, r < j ∧ mT c n b j p = nI r))
  | 0, _ => ⟨fun p hp => absurd hp (Nat.not_lt_zero _), fun p _ => ⟨fun _ => rfl, fun h => by cases h⟩⟩
  | j + 1, hj => by
    obtain ⟨hA, hB⟩ := mT_inv (c := c) (n := n) (b := b) j (by omega)
    cases hf : fT c n j j with
    | false =>
      rw [mT_off hf, fT_off hf]
      refine ⟨fun p hp => ?_, fun p hp => ?_⟩
      · by_cases e : p = j
        · subst e
          refine ⟨fun h => (by rw [hf] at h; cases h), fun _ => (hB p (Nat.le_refl _)).2 hf⟩
        · exact hA p (by omega)
      · refine ⟨(hB p (by omega)).1, fun h => ?_⟩
        obtain ⟨r, h1, h2⟩ := (hB p (by omega)).2 h
        exact ⟨r, by omega, h2⟩
    | true =>
      cases hs : sel c n j (fT c n j) with
      | none =>
        rw [mT_none hs, fT_none hs]
        refine ⟨fun p hp => ?_, fun p hp => ?_⟩
        · by_cases e : p = j
          · subst e
            refine ⟨fun _ => ⟨fun _ => (hB p (Nat.le_refl _)).1 hf, fun q h => (by rw [hs] at h; cases h)⟩, fun h => (by rw [hf] at h; cases h)⟩
          · exact hA p (by omega)
        · refine ⟨(hB p (by omega)).1, fun h => ?_⟩
          obtain ⟨r, h1, h2⟩ := (hB p (by omega)).2 h
          exact ⟨r, by omega, h2⟩
      | some q =>
        obtain ⟨hjq, hqn, -, -⟩ := sel_some (by omega) hs
        rw [mT_some hf hs, fT_some hf hs]
        have hu : ∀ p, p ≠ j → p ≠ q → upd (upd (mT c n b j) j (nI q)) q (nI j) p = mT c n b j p := fun p h1 h2 => by simp [upd, h1, h2]
        refine ⟨fun p hp => ?_, fun p hp => ?_⟩
        · by_cases e : p = j
          · subst e
            refine ⟨fun _ => ⟨fun h => (by rw [hs] at h; cases h), fun r h => ?_⟩, fun h => (by rw [hf] at h; cases h)⟩
            rw [hs] at h
            cases h
            simp [upd, show ¬ p = q by omega]
          · rw [hu p e (by omega)]
            exact hA p (by omega)
        · by_cases e : p = q
          · subst e
            refine ⟨fun h => (by simp [rmv] at h), fun _ => ⟨j, by omega, by simp [upd]⟩⟩
          · rw [hu p (by omega) e]
            have e2 : rmv (fT c n j) q p = fT c n j p := by simp [rmv, e]
            rw [e2]
            refine ⟨(hB p (by omega)).1, fun h => ?_⟩
            obtain ⟨r, h1, h2⟩ := (hB p (by omega)).2 h
            exact ⟨r, by omega, h2⟩
def cE (c : Nat → Nat → Option Nat) (n : Nat) : Nat → Nat
  | 0 => 0
  | p + 1 => if fT c n p p = true then (match sel c n p (fT c n p) with
    | none => cE c n p
    | some _ => cE c n p + 1) else cE c n p
def cN (n : Nat) : Nat → (Nat → Bool) → Nat
  | 0, _ => 0
  | k + 1, f => (if f (n - (k + 1)) = true then 1 else 0) + cN n k f
theorem cN_le (n : Nat) : ∀ k f, cN n k f ≤ k
  | 0, _ => Nat.le_refl _
  | k + 1, f => by
    have := cN_le n k f
    unfold cN
    split <;> omega
theorem cN_rmv {n q : Nat} {f : Nat → Bool} (hq : q < n) (hf : f q = true) : ∀ k, k ≤ n → (n - k ≤ q → cN n k (rmv f q) + 1 = cN n k f) ∧ (q < n - k → cN n k (rmv f q) = cN n k f)
  | 0, _ => ⟨fun h => by omega, fun _ => rfl⟩
  | k + 1, hk => by
    obtain ⟨h1, h2⟩ := cN_rmv hq hf k (by omega)
    have e : rmv f q (n - (k + 1)) = if n - (k + 1) = q then false else f (n - (k + 1)) := rfl
    refine ⟨fun h => ?_, fun h => ?_⟩
    · unfold cN
      rw [e]
      by_cases e2 : n - (k + 1) = q
      · rw [if_pos e2, h2 (by omega), e2, hf]
        simp
        omega
      · rw [if_neg e2]
        have := h1 (by omega)
        split <;> omega
    · unfold cN
      rw [e, if_neg (show ¬ n - (k + 1) = q by omega), h2 (by omega)]
theorem cE_bound (c : Nat → Nat → Option Nat) (n : Nat) : ∀ p, p ≤ n → 2 * cE c n p + cN n (n - p) (fT c n p) ≤ n
  | 0, _ => by have := cN_le n (n - 0) (fT c n 0); unfold cE; omega
  | p + 1, hp => by
    have ih := cE_bound c n p (by omega)
    obtain ⟨k, hk⟩ : ∃ k, n - p = k + 1 := ⟨n - p - 1, by omega⟩
    have hk2 : n - (p + 1) = k := by omega
    have hpk : n - (k + 1) = p := by omega
    rw [hk, cN, hpk] at ih
    rw [hk2]
    cases hf : fT c n p p with
    | false =>
      rw [fT_off hf, cE, hf]
      rw [hf] at ih
      simp at ih ⊢
      exact ih
    | true =>
      rw [hf] at ih
      cases hs : sel c n p (fT c n p) with
      | none =>
        rw [fT_none hs, cE, hf, hs]
        simp at ih ⊢
        omega
      | some q =>
        obtain ⟨hpq, hqn, hfq, -⟩ := sel_some (by omega) hs
        have := (cN_rmv hqn hfq k (by omega)).1 (by omega)
        rw [fT_some hf hs, cE, hf, hs]
        simp at ih ⊢
        omega
def XE (c : Nat → Nat → Option Nat) (n : Nat) (wh : Nat → Int32) (X : St) : Nat → St
  | 0 => ux X 110 0 0
  | p + 1 => if fT c n p p = true then (match sel c n p (fT c n p) with
    | none => ux (XE c n wh X p) 110 0 (XE c n wh X p 110 0 ||| (1 <<< (wh p &&& 31)))
    | some q => s_X6_addBout (XE c n wh X p) (wh p) (wh q)) else XE c n wh X p
theorem addB_row (X : St) (u v : Int32) {a : Nat} (h1 : a ≠ 23) (h2 : a ≠ 24) (h3 : a ≠ 25) (h4 : a ≠ 26) (h5 : a ≠ 107) (h6 : a ≠ 108) (h7 : a ≠ 27) : s_X6_addBout X u v a = X a := by
  unfold s_X6_addBout
  simp only [ux_ne _ _ _ h1, ux_ne _ _ _ h2, ux_ne _ _ _ h3, ux_ne _ _ _ h4, ux_ne _ _ _ h5, ux_ne _ _ _ h6, ux_ne _ _ _ h7]
theorem XE_row (c : Nat → Nat → Option Nat) (n : Nat) (wh : Nat → Int32) (X : St) {a : Nat} (h0 : a ≠ 110) (h1 : a ≠ 23) (h2 : a ≠ 24) (h3 : a ≠ 25) (h4 : a ≠ 26) (h5 : a ≠ 107) (h6 : a ≠ 108) (h7 : a ≠ 27) : ∀ p, XE c n wh X p a = X a
  | 0 => ux_ne _ _ _ h0
  | p + 1 => by
    have ih := XE_row c n wh X h0 h1 h2 h3 h4 h5 h6 h7 p
    by_cases hf : fT c n p p = true
    · cases hs : sel c n p (fT c n p) with
      | none =>
        rw [XE, if_pos hf, hs]
        show ux _ _ _ _ a = _
        rw [ux_ne _ _ _ h0, ih]
      | some q =>
        rw [XE, if_pos hf, hs]
        show s_X6_addBout _ _ _ a = _
        rw [addB_row _ _ _ h1 h2 h3 h4 h5 h6 h7, ih]
    · rw [XE, if_neg hf, ih]
theorem XE_bouts (c : Nat → Nat → Option Nat) (n : Nat) (wh : Nat → Int32) (X : St) (B : Nat) (hB : (X 107 0) = nI B) : ∀ p, XE c n wh X p 107 0 = nI (B + cE c n p)
  | 0 => hB
  | p + 1 => by
    have ih := XE_bouts c n wh X B hB p
    unfold XE cE
    cases hf : fT c n p p with
    | false => simp only [Bool.false_eq_true, if_false]; exact ih
    | true =>
      simp only [if_true]
      cases hs : sel c n p (fT c n p) with
      | none => exact ih
      | some q =>
        show XE c n wh X p 107 0 + 1 = _
        rw [ih, nI_1]
        rfl
def lsL (aw bd ls : Nat → Int32) : Nat → Nat → Int32
  | 0 => ls
  | r + 1 => if aw (ix (bd r)) = 0 then lsL aw bd ls r else upd (lsL aw bd ls r) (ix (bd r)) (lsL aw bd ls r (ix (bd r)) + 1)
def s_enter (c : Nat → Nat → Option Nat) (n N : Nat) (wh : Nat → Int32) (X : St) : St := ux (sr (XE c n wh X n) 15 (lsL (X 19) (X 20) (X 15) N)) 106 0 ((X 106 0) + 1)
def MTok (c : Nat → Nat → Option Nat) (n : Nat) (mt : Nat → Int32) : Prop := ∀ p, p < n → (fT c n p p = true → (sel c n p (fT c n p) = none → mt p = (-9)) ∧ (∀ q, sel c n p (fT c n p) = some q → mt p = nI q)) ∧ (fT c n p p = false → ∃ r, r < p ∧ mt p = nI r)
theorem mt_off {c : Nat → Nat → Option Nat} {n p : Nat} {mt : Nat → Int32} (hM : MTok c n mt) (hpn : p < n) (hn : n ≤ 16) (h1 : ¬ mt p = (-9)) (h2 : mt p ≤ nI p) : fT c n p p = false := by
  cases h : fT c n p p with
  | false => rfl
  | true =>
    cases hs : sel c n p (fT c n p) with
    | none => exact absurd (((hM p hpn).1 h).1 hs) h1
    | some q =>
      have h3 := ((hM p hpn).1 h).2 q hs
      have h4 := sel_some hpn hs
      rw [h3] at h2
      exact absurd h2 (nI_ge h4.1 (by omega))
theorem XE_r1 (c : Nat → Nat → Option Nat) (n : Nat) (wh : Nat → Int32) (X : St) (p : Nat) {a : Nat} (h : a ∈ [111, 29, 28, 102, 20, 19, 15, 106]) : XE c n wh X p a = X a := by
  simp only [List.mem_cons, List.not_mem_nil, or_false] at h
  rcases h with rfl | rfl | rfl | rfl | rfl | rfl | rfl | rfl <;> exact XE_row c n wh X (by decide) (by decide) (by decide) (by decide) (by decide) (by decide) (by decide) (by decide) p

set_option maxHeartbeats 4000000 in
set_option maxRecDepth 100000 in
theorem c_X8_enterDay (l : Launch) (D : va_G) (G : Gx) (c : Nat → Nat → Option Nat) (n N B : Nat) (X : St)  (hn16 : n ≤ 16) (hf : (X 111 0) = nI n) (hM : MTok c n (X 29)) (hW : ∀ p, p < n → vp_in ((X 28) p) 16) (hBt : (X 107 0) = nI B) (hB112 : B + 8 ≤ 120) (hS : (X 102 0) = nI N) (hN16 : N ≤ 16) (hB : ∀ r, r < N → vp_in ((X 20) r) 16) : Ci l yX8_enterDay cX8_enterDay 4 (some .int) 1 (xw G) D (tyG G) [.ref (G.1 0)] X (fun r X1 => r = (nI (cE c n n)) ∧ X1 = (s_enter c n N (X 28) X)) := by
  refine m_i (nL := 4) (lv := [(0, .ref (G.1 0))]) [.ref (G.1 0)] RX8 rfl (xw_adr G) (by decide +kernel) (Nat.le_of_ble_eq_true rfl) rfl (fun K C ret => ?_)
  refine x_iconst C (pc := 0) (v := 0) dX8_enterDay_0 (by decide) ?_
  refine x_istore_n C (pc := 1) dX8_enterDay_1 [(0, .ref (G.1 0)), (1, .int 0)] [1, 0] rfl (by decide) rfl ?_
  refine x_aload_n C (pc := 2) dX8_enterDay_2 0 rfl rfl ?_
  refine xG_tourney C fl_X8_33 dX8_enterDay_3 ?_
  refine x_iconst C (pc := 6) (v := 0) dX8_enterDay_6 (by decide) ?_
  refine xP_satOut C fl_X8_223 (v := 0) dX8_enterDay_7 ?_
  refine x_iconst C (pc := 10) (v := 0) dX8_enterDay_10 (by decide) ?_
  refine x_istore_n C (pc := 11) dX8_enterDay_11 [(0, .ref (G.1 0)), (1, .int 0), (2, .int 0)] [1, 2, 0] rfl (by decide) rfl ?_
  have L12 : ∀ (nu : Nat) (Y : St) (b : Int32) (i : Int32) (p : Nat), (p ≤ n) → (i = nI p) → (Y = XE c n (X 28) X p) → (b = nI (cE c n p)) → (n - p) < nu → WX K (xw G) 4 Y 12 [(0, .ref (G.1 0)), (1, .int b), (2, .int i)] [] := by
    intro nu
    induction nu with
    | zero => intro Y b i p hp hi hY hb hmu12; exact absurd hmu12 (Nat.not_lt_zero _)
    | succ n12 ih12 =>
      intro Y b i p hp hi hY hb hmu12
      refine x_iload_n C (pc := 12) dX8_enterDay_12 2 rfl rfl ?_
      refine x_aload_n C (pc := 13) dX8_enterDay_13 0 rfl rfl ?_
      refine xG_fitting C fl_X8_40 dX8_enterDay_14 ?_
      refine xG_fsize C fl_X8_348 dX8_enterDay_17 ?_
      refine x_icmp_ge C (pc := 20) (tgt := 104) dX8_enterDay_20 (by decide) (fun c20 => ?_) (fun c20 => ?_)
      · have hYf : (Y 111 0) = nI n := by rw [hY, XE_r1 _ _ _ _ _ (by decide)]; exact hf
        have hpn : p = n := by have := geN hi hYf c20 (by omega); omega
        rw [hpn] at hY hb
        have hYs : (Y 102 0) = nI N := by rw [hY, XE_r1 _ _ _ _ _ (by decide)]; exact hS
        have hYb : (Y 20) = (X 20) := by rw [hY, XE_r1 _ _ _ _ _ (by decide)]
        have hYa : (Y 19) = (X 19) := by rw [hY, XE_r1 _ _ _ _ _ (by decide)]
        have hYl : (Y 15) = (X 15) := by rw [hY, XE_r1 _ _ _ _ _ (by decide)]
        have hYd : (Y 106 0) = (X 106 0) := by rw [hY, XE_r1 _ _ _ _ _ (by decide)]
        refine x_iconst C (pc := 104) (v := 0) dX8_enterDay_104 (by decide) ?_
        refine x_istore_n C (pc := 105) dX8_enterDay_105 [(0, .ref (G.1 0)), (1, .int b), (2, .int 0)] [1, 2, 0] rfl (by decide) rfl ?_
        have L106 : ∀ (nu : Nat) (i : Int32) (j : Nat), (j ≤ N) → (i = nI j) → (N - j) < nu → WX K (xw G) 4 (sr Y 15 (lsL (X 19) (X 20) (X 15) j)) 106 [(0, .ref (G.1 0)), (1, .int b), (2, .int i)] [] := by
          intro nu
          induction nu with
          | zero => intro i j hj hi hmu106; exact absurd hmu106 (Nat.not_lt_zero _)
          | succ n106 ih106 =>
            intro i j hj hi hmu106
            refine x_iload_n C (pc := 106) dX8_enterDay_106 2 rfl rfl ?_
            refine x_aload_n C (pc := 107) dX8_enterDay_107 0 rfl rfl ?_
            refine xG_roster C fl_X8_19 dX8_enterDay_108 ?_
            refine xG_standing C fl_X8_112 dX8_enterDay_111 ?_
            refine x_top (y := (Y 102 0)) rfl ?_
            refine x_icmp_ge C (pc := 114) (tgt := 158) dX8_enterDay_114 (by decide) (fun c114 => ?_) (fun c114 => ?_)
            · have hjN : j = N := by have := geN hi hYs c114 (by omega); omega
              refine x_aload_n C (pc := 158) dX8_enterDay_158 0 rfl rfl ?_
              refine xG_tourney C fl_X8_33 dX8_enterDay_159 ?_
              refine x_dup C (pc := 162) dX8_enterDay_162 rfl ?_
              refine xG_drawn C fl_X8_184 dX8_enterDay_163 ?_
              refine x_top (y := (Y 106 0)) rfl ?_
              refine x_iconst C (pc := 166) (v := 1) dX8_enterDay_166 (by decide) ?_
              refine x_iadd C (pc := 167) dX8_enterDay_167 ?_
              refine xP_drawn C fl_X8_184 (v := (Y 106 0) + 1) dX8_enterDay_168 ?_
              refine x_iload_n C (pc := 171) dX8_enterDay_171 1 rfl rfl ?_
              exact ret b (ux (sr Y 15 (lsL (X 19) (X 20) (X 15) j)) 106 0 ((Y 106 0) + 1)) 172 _ dX8_enterDay_172 ⟨hb, by rw [hjN, hYd, hY]; rfl⟩
            · have hlt : j < N := ltN hi hYs c114 (by omega)
              have hin : vp_in i 16 := by rw [hi]; exact vp_in_nI (by omega) (by decide)
              have hix : ix i = j := by rw [hi]; exact ix_nI (by omega)
              have hin2 : vp_in ((Y 20) (ix i)) 16 := by rw [hYb, hix]; exact hB j hlt
              refine x_aload_n C (pc := 117) dX8_enterDay_117 0 rfl rfl ?_
              refine xG_roster C fl_X8_19 dX8_enterDay_118 ?_
              refine xG_board C fl_X8_115 dX8_enterDay_121 ?_
              refine x_iload_n C (pc := 124) dX8_enterDay_124 2 rfl rfl ?_
              refine xL_board C dX8_enterDay_125 (by assumption) ?_
              refine x_top (y := (Y 20 (ix i))) rfl ?_
              refine x_istore_n C (pc := 126) dX8_enterDay_126 [(0, .ref (G.1 0)), (1, .int b), (2, .int i), (3, .int (Y 20 (ix i)))] [1, 2, 3, 0] rfl (by decide) rfl ?_
              refine x_aload_n C (pc := 127) dX8_enterDay_127 0 rfl rfl ?_
              refine xG_roster C fl_X8_19 dX8_enterDay_128 ?_
              refine xG_away C fl_X8_175 dX8_enterDay_131 ?_
              refine x_iload_n C (pc := 134) dX8_enterDay_134 3 rfl rfl ?_
              refine xL_away C dX8_enterDay_135 (by assumption) ?_
              refine x_top (y := (Y 19 (ix (Y 20 (ix i))))) rfl ?_
              refine x_if_eq C (pc := 136) (tgt := 152) dX8_enterDay_136 (by decide) (fun c136 => ?_) (fun c136 => ?_)
              · refine x_iinc C (pc := 152) (v := i + 1) dX8_enterDay_152 2 [(0, .ref (G.1 0)), (1, .int b), (2, .int (i + 1)), (3, .int (Y 20 (ix i)))] [1, 2, 0, 3] rfl (by rfl) (by decide) rfl ?_
                refine x_goto C (pc := 155) (tgt := 106) dX8_enterDay_155 (by decide) ?_
                refine x_sub [(0, .ref (G.1 0)), (1, .int b), (2, .int (i + 1))] [0, 1, 2] rfl ?_
                refine x_eqX (X' := (sr Y 15 (lsL (X 19) (X 20) (X 15) (j + 1)))) (by rw [hYb, hYa, hix] at c136; first | (rw [lsL, if_pos c136]) | (rw [lsL, if_neg c136, hYb, hix, ux_srs])) ?_
                exact ih106 (i + 1) (j + 1) (by omega) (by rw [hi]; exact nI_1 j) (by omega)
              · refine x_aload_n C (pc := 139) dX8_enterDay_139 0 rfl rfl ?_
                refine xG_roster C fl_X8_19 dX8_enterDay_140 ?_
                refine xG_losses C fl_X8_216 dX8_enterDay_143 ?_
                refine x_iload_n C (pc := 146) dX8_enterDay_146 3 rfl rfl ?_
                refine x_dup2 C (pc := 147) dX8_enterDay_147 rfl rfl ?_
                refine xL_losses C dX8_enterDay_148 (by assumption) ?_
                refine x_top (y := ((lsL (X 19) (X 20) (X 15) j) (ix (Y 20 (ix i))))) rfl ?_
                refine x_iconst C (pc := 149) (v := 1) dX8_enterDay_149 (by decide) ?_
                refine x_iadd C (pc := 150) dX8_enterDay_150 ?_
                refine xS_losses C dX8_enterDay_151 (by assumption) ?_
                refine x_iinc C (pc := 152) (v := i + 1) dX8_enterDay_152 2 [(0, .ref (G.1 0)), (1, .int b), (2, .int (i + 1)), (3, .int (Y 20 (ix i)))] [1, 2, 0, 3] rfl (by rfl) (by decide) rfl ?_
                refine x_goto C (pc := 155) (tgt := 106) dX8_enterDay_155 (by decide) ?_
                refine x_sub [(0, .ref (G.1 0)), (1, .int b), (2, .int (i + 1))] [0, 1, 2] rfl ?_
                refine x_eqX (X' := (sr Y 15 (lsL (X 19) (X 20) (X 15) (j + 1)))) (by rw [hYb, hYa, hix] at c136; first | (rw [lsL, if_pos c136]) | (rw [lsL, if_neg c136, hYb, hix, ux_srs])) ?_
                exact ih106 (i + 1) (j + 1) (by omega) (by rw [hi]; exact nI_1 j) (by omega)
        refine x_eqX (X' := (sr Y 15 (lsL (X 19) (X 20) (X 15) 0))) (by rw [lsL, ← hYl, sr_self]) ?_
        exact L106 _ 0 0 (Nat.zero_le _) rfl (Nat.lt_succ_self _)
      · have hYf : (Y 111 0) = nI n := by rw [hY, XE_r1 _ _ _ _ _ (by decide)]; exact hf
        have hpn : p < n := ltN hi hYf c20 (by omega)
        have hix : ix i = p := by rw [hi]; exact ix_nI (by omega)
        have hin : vp_in i 16 := by rw [hi]; exact vp_in_nI (by omega) (by decide)
        have hYm : (Y 29) = (X 29) := by rw [hY, XE_r1 _ _ _ _ _ (by decide)]
        have hYw : (Y 28) = (X 28) := by rw [hY, XE_r1 _ _ _ _ _ (by decide)]
        have hmp : (Y 29) (ix i) = (X 29) p := by rw [hYm, hix]
        have hwp : (Y 28) (ix i) = (X 28) p := by rw [hYw, hix]
        have hM1 := hM p hpn
        have hwin : vp_in ((Y 28) (ix i)) 16 := by rw [hwp]; exact hW p hpn
        have J98 : ∀ (Y2 : St) (b2 : Int32), (Y2 = XE c n (X 28) X (p + 1) ∧ b2 = nI (cE c n (p + 1))) → WX K (xw G) 4 Y2 98 [(0, .ref (G.1 0)), (1, .int b2), (2, .int i)] [] := by
          intro Y2 b2 hj98
          refine x_iinc C (pc := 98) (v := i + 1) dX8_enterDay_98 2 [(0, .ref (G.1 0)), (1, .int b2), (2, .int (i + 1))] [1, 2, 0] rfl (by rfl) (by decide) rfl ?_
          refine x_goto C (pc := 101) (tgt := 12) dX8_enterDay_101 (by decide) ?_
          exact ih12 Y2 b2 (i + 1) (p + 1) (by omega) (by rw [hi]; exact nI_1 p) hj98.1 hj98.2 (by omega)
        refine x_aload_n C (pc := 23) dX8_enterDay_23 0 rfl rfl ?_
        refine xG_fitting C fl_X8_40 dX8_enterDay_24 ?_
        refine xG_mate C fl_X8_368 dX8_enterDay_27 ?_
        refine x_iload_n C (pc := 30) dX8_enterDay_30 2 rfl rfl ?_
        refine xL_mate C dX8_enterDay_31 (by exact hin) ?_
        refine x_istore_n C (pc := 32) dX8_enterDay_32 [(0, .ref (G.1 0)), (1, .int b), (2, .int i), (3, .int (Y 29 (ix i)))] [1, 2, 3, 0] rfl (by decide) rfl ?_
        refine x_iload_n C (pc := 33) dX8_enterDay_33 3 rfl rfl ?_
        refine x_bipush C (pc := 34) (v := (-9)) dX8_enterDay_34 (by decide) ?_
        refine x_icmp_ne C (pc := 36) (tgt := 65) dX8_enterDay_36 (by decide) (fun c36 => ?_) (fun c36 => ?_)
        · refine x_iload_n C (pc := 65) dX8_enterDay_65 3 rfl rfl ?_
          refine x_iload_n C (pc := 66) dX8_enterDay_66 2 rfl rfl ?_
          refine x_icmp_le C (pc := 67) (tgt := 98) dX8_enterDay_67 (by decide) (fun c67 => ?_) (fun c67 => ?_)
          · refine x_sub [(0, .ref (G.1 0)), (1, .int b), (2, .int i)] [0, 1, 2] rfl ?_
            exact J98 Y b (⟨by rw [XE, if_neg (by rw [(mt_off hM hpn hn16 (by rw [← hmp]; exact c36) (by rw [← hmp, ← hi]; exact c67))]; decide)]; exact hY, by rw [cE, if_neg (by rw [(mt_off hM hpn hn16 (by rw [← hmp]; exact c36) (by rw [← hmp, ← hi]; exact c67))]; decide)]; exact hb⟩)
          · have hon : fT c n p p = true := by
              cases h : fT c n p p with
              | true => rfl
              | false =>
                obtain ⟨r, h1, h2⟩ := hM1.2 h
                exact absurd (by rw [hmp, h2, hi]; exact nI_le (by omega) (by omega)) c67
            obtain ⟨q, hsb⟩ : ∃ q, sel c n p (fT c n p) = some q := by
              cases h : sel c n p (fT c n p) with
              | none => exact absurd (by rw [hmp]; exact (hM1.1 hon).1 h) c36
              | some q => exact ⟨q, rfl⟩
            have hqs := sel_some hpn hsb
            have hmq : (X 29) p = nI q := (hM1.1 hon).2 q hsb
            have hmb : (Y 29) (ix i) = nI q := by rw [hmp, hmq]
            have hqx2 : ix (nI q) = q := ix_nI (by omega)
            have hqin : vp_in ((Y 29) (ix i)) 16 := by rw [hmb]; exact vp_in_nI (by omega) (by decide)
            have hwq : (X 28) q = (X 28) q := rfl
            have hwin2 : vp_in ((Y 28) (ix ((Y 29) (ix i)))) 16 := by rw [hmb, hqx2, hYw]; exact hW q hqs.2.1
            have hcb := cE_bound c n (p + 1) (by omega)
            have hce : cE c n (p + 1) = cE c n p + 1 := by rw [cE, if_pos hon, hsb]
            have hbin : vp_in (Y 107 0) 120 := by
              have h1 : (Y 107 0) = nI (B + cE c n p) := by rw [hY]; exact XE_bouts c n (X 28) X B hBt p
              rw [h1]
              exact vp_in_nI (by omega) (by decide)
            refine x_aload_n C (pc := 70) dX8_enterDay_70 0 rfl rfl ?_
            refine xG_tourney C fl_X8_33 dX8_enterDay_71 ?_
            refine x_aload_n C (pc := 74) dX8_enterDay_74 0 rfl rfl ?_
            refine xG_fitting C fl_X8_40 dX8_enterDay_75 ?_
            refine xG_who C fl_X8_350 dX8_enterDay_78 ?_
            refine x_iload_n C (pc := 81) dX8_enterDay_81 2 rfl rfl ?_
            refine xL_who C dX8_enterDay_82 (by exact hin) ?_
            refine x_aload_n C (pc := 83) dX8_enterDay_83 0 rfl rfl ?_
            refine xG_fitting C fl_X8_40 dX8_enterDay_84 ?_
            refine xG_who C fl_X8_350 dX8_enterDay_87 ?_
            refine x_iload_n C (pc := 90) dX8_enterDay_90 3 rfl rfl ?_
            refine xL_who C dX8_enterDay_91 (by exact hqin) ?_
            refine x_callVv C (pc := 92) [.int (Y 28 (ix i)), .int (Y 28 (ix (Y 29 (ix i))))] (fun l D => c_X6_addBout l D G Y (Y 28 (ix i)) (Y 28 (ix (Y 29 (ix i)))) hbin hwin hwin2) (xe_4 G _) rfl ml_X8_371 co_X6_addBout im_X6_addBout se_X6_addBout in_X6 hy_X6_addBout (by decide) (by decide) (Nat.le_of_ble_eq_true rfl) dX8_enterDay_92 rfl (kxv ?_)
            refine x_iinc C (pc := 95) (v := b + 1) dX8_enterDay_95 1 [(0, .ref (G.1 0)), (1, .int (b + 1)), (2, .int i), (3, .int (Y 29 (ix i)))] [1, 0, 2, 3] rfl (by rfl) (by decide) rfl ?_
            refine x_sub [(0, .ref (G.1 0)), (1, .int (b + 1)), (2, .int i)] [0, 1, 2] rfl ?_
            exact J98 (s_X6_addBout Y (Y 28 (ix i)) (Y 28 (ix (Y 29 (ix i))))) (b + 1) (⟨by rw [XE, if_pos hon, hsb]; simp only; rw [hmb, hqx2, hwp, hYw, hY], by rw [cE, if_pos hon, hsb]; simp only; rw [hb, nI_1]⟩)
        · have hm9 : (X 29) p = (-9) := by rw [← hmp]; exact c36
          have hon : fT c n p p = true := by
            cases h : fT c n p p with
            | true => rfl
            | false =>
              obtain ⟨r, h1, h2⟩ := hM1.2 h
              rw [h2] at hm9
              exact absurd hm9 (nI_m9 (by omega))
          have hsn : sel c n p (fT c n p) = none := by
            cases h : sel c n p (fT c n p) with
            | none => rfl
            | some q =>
              have h2 := (hM1.1 hon).2 q h
              rw [h2] at hm9
              exact absurd hm9 (nI_m9 (by have := (sel_some hpn h).2.1; omega))
          refine x_aload_n C (pc := 39) dX8_enterDay_39 0 rfl rfl ?_
          refine xG_tourney C fl_X8_33 dX8_enterDay_40 ?_
          refine x_dup C (pc := 43) dX8_enterDay_43 rfl ?_
          refine xG_satOut C fl_X8_223 dX8_enterDay_44 ?_
          refine x_iconst C (pc := 47) (v := 1) dX8_enterDay_47 (by decide) ?_
          refine x_aload_n C (pc := 48) dX8_enterDay_48 0 rfl rfl ?_
          refine xG_fitting C fl_X8_40 dX8_enterDay_49 ?_
          refine xG_who C fl_X8_350 dX8_enterDay_52 ?_
          refine x_iload_n C (pc := 55) dX8_enterDay_55 2 rfl rfl ?_
          refine xL_who C dX8_enterDay_56 (by exact hin) ?_
          refine x_ishl C (pc := 57) dX8_enterDay_57 ?_
          refine x_ior C (pc := 58) dX8_enterDay_58 ?_
          refine xP_satOut C fl_X8_223 (v := (Y 110 0) ||| (1 <<< ((Y 28 (ix i)) &&& 31))) dX8_enterDay_59 ?_
          refine x_goto C (pc := 62) (tgt := 98) dX8_enterDay_62 (by decide) ?_
          refine x_sub [(0, .ref (G.1 0)), (1, .int b), (2, .int i)] [0, 1, 2] rfl ?_
          exact J98 (ux Y 110 0 ((Y 110 0) ||| (1 <<< ((Y 28 (ix i)) &&& 31)))) b (⟨by rw [XE, if_pos hon, hsn]; simp only; rw [hwp, hY], by rw [cE, if_pos hon, hsn]; exact hb⟩)
  exact L12 _ (ux X 110 0 0) 0 0 0 (Nat.zero_le _) rfl rfl rfl (Nat.lt_succ_self _)
