
def mnS (st wi bd : Nat → Int32) (s : Int32) : Nat → Int32
  | 0 => 0
  | n + 1 => if st (ix (bd n)) = s then mnS st wi bd s n + wi (ix (bd n)) else mnS st wi bd s n
def mnC (st bd : Nat → Int32) (s : Int32) : Nat → Int32
  | 0 => 0
  | n + 1 => if st (ix (bd n)) = s then mnC st bd s n + 1 else mnC st bd s n
def v_mean (X : St) (s : Int32) (N : Nat) : Int32 := if v_isGroup s = 0 then (-1) else if mnC (X 11) (X 20) s N = 0 then (-3) else mnS (X 11) (X 14) (X 20) s N / mnC (X 11) (X 20) s N
def s_mean (X : St) (s : Int32) (N : Nat) : St := if v_isGroup s = 0 then X else if mnC (X 11) (X 20) s N = 0 then s_X2_found X 4 else X
def ldB (wi bd : Nat → Int32) (m : Int32) : Nat → Int32
  | 0 => 0
  | n + 1 => if wi (ix (bd n)) = m then ldB wi bd m n ||| (1 <<< (bd n &&& 31)) else ldB wi bd m n
def v_leaders (X : St) (N : Nat) : Int32 := if (X 104 0) = 0 then (-4) else ldB (X 14) (X 20) (mostW (X 14) (X 20) N) N
def plC (wi bd : Nat → Int32) (m : Int32) : Nat → Nat
  | 0 => 0
  | n + 1 => if wi (ix (bd n)) = m then plC wi bd m n + 1 else plC wi bd m n
def plR (wi bd : Nat → Int32) (m : Int32) (row : Nat → Int32) : Nat → Nat → Int32
  | 0 => row
  | n + 1 => if wi (ix (bd n)) = m then upd (plR wi bd m row n) (plC wi bd m n) (bd n) else plR wi bd m row n
theorem plC_le (wi bd : Nat → Int32) (m : Int32) : ∀ n, plC wi bd m n ≤ n
  | 0 => Nat.le_refl _
  | n + 1 => by
    have := plC_le wi bd m n
    unfold plC
    by_cases h : wi (ix (bd n)) = m
    · rw [if_pos h]; omega
    · rw [if_neg h]; omega
theorem plR_in {wi bd : Nat → Int32} {m : Int32} {row : Nat → Int32} : ∀ n, (∀ r, r < n → vp_in (bd r) 16) → ∀ k, k < plC wi bd m n → vp_in (plR wi bd m row n k) 16
  | 0, _, k, hk => absurd hk (Nat.not_lt_zero _)
  | n + 1, hb, k, hk => by
    unfold plC at hk
    unfold plR
    by_cases h : wi (ix (bd n)) = m
    · rw [if_pos h] at hk ⊢
      simp only [upd]
      by_cases e : k = plC wi bd m n
      · rw [if_pos e]; exact hb n (by omega)
      · rw [if_neg e]; exact plR_in n (fun r hr => hb r (by omega)) k (by omega)
    · rw [if_neg h] at hk ⊢
      exact plR_in n (fun r hr => hb r (by omega)) k hk
def po1 (X : St) (m : Int32) (j : Nat) : St := ux (sr (ux X 118 0 1) 42 (plR (X 14) (X 20) m (X 42) j)) 117 0 (nI (plC (X 14) (X 20) m j))
def v_playOff (X : St) (N : Nat) : Int32 := if v_X6_isComplete X = 0 then (-4) else if (X 118 0) = 0 then (if (X 102 0) = 0 then (-4) else nI (plC (X 14) (X 20) (mostW (X 14) (X 20) N) N)) else (-4)
def s_playOff (X : St) (N : Nat) : St := if v_X6_isComplete X = 0 then X else if (X 118 0) = 0 then (if (X 102 0) = 0 then X else s_crown (po1 X (mostW (X 14) (X 20) N) N)) else X
theorem ux_self {X : St} {a k : Nat} {v : Int32} (h : X a k = v) : ux X a k v = X := by
  have : upd (X a) k v = X a := by
    funext j
    simp only [upd]
    by_cases e : j = k
    · rw [if_pos e, e, h]
    · rw [if_neg e]
  rw [ux, this, sr_self]
theorem ux_ux (X : St) (a k : Nat) (v w : Int32) : ux (ux X a k v) a k w = ux X a k w := by
  rw [ux, ux, ux, sr_s, sr_sr]
  congr 1
  funext j
  simp only [upd]
  by_cases e : j = k <;> simp [e]
theorem ux_com (X : St) {a b : Nat} (k l : Nat) (v w : Int32) (h : a ≠ b) : ux (ux X a k v) b l w = ux (ux X b l w) a k v := by
  rw [ux, ux_ne X k v (Ne.symm h), ux, sr_comm _ _ _ h, ← ux, ux, ux, sr_n _ _ h]
theorem po1_0 {X : St} {m : Int32} (h : (X 117 0) = 0) : po1 X m 0 = ux X 118 0 1 := by
  unfold po1 plR plC
  rw [show sr (ux X 118 0 1) 42 (X 42) = ux X 118 0 1 from sr_self (ux X 118 0 1) 42]
  exact ux_self h
theorem po1_step {X : St} {m : Int32} {j : Nat} (h : (X 14) (ix ((X 20) j)) = m) : ux (ux (po1 X m j) 42 (plC (X 14) (X 20) m j) ((X 20) j)) 117 0 (nI (plC (X 14) (X 20) m j) + 1) = po1 X m (j + 1) := by
  unfold po1
  rw [plR, plC, if_pos h, if_pos h, ux_com _ _ _ _ _ (by decide : 117 ≠ 42), ux_srs, ux_ux, nI_1]
theorem po1_skip {X : St} {m : Int32} {j : Nat} (h : ¬ (X 14) (ix ((X 20) j)) = m) : po1 X m j = po1 X m (j + 1) := by
  unfold po1
  rw [plR, plC, if_neg h, if_neg h]
-- digest
def fld (f : Nat → Int32) (h : Int64) : Nat → Int64
  | 0 => h
  | k + 1 => 31 * fld f h k + (f k).toInt64
def v_withW (X : St) (h : Int64) (w : Int32) : Int64 := if (X 18) (ix w) = 0 then fld (fun k => v_X3_fact X w (nI k)) h 7 else 31 * h - 1
def v_withS (X : St) (h : Int64) (s : Int32) : Int64 := fld (X (43 + ix s)) (31 * h + ((X 22) (ix s)).toInt64) (ix ((X 22) (ix s)))
def dgW (X : St) : Nat → Int64
  | 0 => 17
  | w + 1 => v_withW X (dgW X w) (nI w)
def dgB (X : St) (h : Int64) : Nat → Int64
  | 0 => h
  | b + 1 => fld (fun k => v_X6_fact X (nI b) (nI k)) (dgB X h b) 4
def dgS (X : St) (h : Int64) : Nat → Int64
  | 0 => h
  | s + 1 => v_withS X (dgS X h s) (nI s)
def v_digest (X : St) (E N B : Nat) : Int64 := dgS X (31 * fld (fun k => v_tally X (nI (k + 2))) (dgB X (fld (X 20) (dgW X E) N) B) 6 + (X 119 0).toInt64) 4
-- anew
theorem lfr_in (lo hi : Nat → Int32) (s : Int32) : ∀ n i, lfr lo hi s n i = (-9) ∨ ∃ j, j < n + i ∧ lfr lo hi s n i = nI j
  | 0, i => Or.inl rfl
  | n + 1, i => by
    unfold lfr
    by_cases h1 : s < lo i
    · rw [if_pos h1]
      rcases lfr_in lo hi s n (i + 1) with h | ⟨j, hj, h⟩
      · exact Or.inl h
      · exact Or.inr ⟨j, by omega, h⟩
    · rw [if_neg h1]
      by_cases h2 : hi i < s
      · rw [if_pos h2]
        rcases lfr_in lo hi s n (i + 1) with h | ⟨j, hj, h⟩
        · exact Or.inl h
        · exact Or.inr ⟨j, by omega, h⟩
      · rw [if_neg h2]
        exact Or.inr ⟨i, by omega, rfl⟩
theorem lfr_vin {lo hi : Nat → Int32} {s : Int32} {n : Nat} (hn : n ≤ 12) : lfr lo hi s n 0 ≠ (-9) → vp_in (lfr lo hi s n 0) 12 := by
  intro h
  rcases lfr_in lo hi s n 0 with h1 | ⟨j, hj, h1⟩
  · exact absurd h1 h
  · rw [h1]; exact vp_in_nI (by omega) (by decide)
def v_BL (X : St) (w : Int32) (L : Nat) : Int32 := lfr (X 32) (X 33) ((X 14) (ix w) - (X 15) (ix w)) L 0
def v_stp (X : St) (w : Int32) (L : Nat) : Int32 := v_X0_steps X (v_BL X w L) ((X 10) (ix w))
def v_more (X : St) (w : Int32) (L : Nat) : Int32 := v_stp X w L - v_X0_steps X (v_BL X w L) 0
def s_mv1 (X : St) (w : Int32) (L : Nat) : St := ux (ux X 38 (ix w) (v_BL X w L)) 41 (ix w) (2 * ((X 36) (ix w) - v_stp X w L) - v_half (v_stp X w L))
def s_move (X : St) (w : Int32) (L : Nat) : St := if (X 10) (ix w) = 1 then (if v_more X w L ≤ 0 then s_mv1 X w L else ux (s_mv1 X w L) 17 (ix w) ((X 17) (ix w) + 1)) else if (X 10) (ix w) = 2 then ux (s_mv1 X w L) 17 (ix w) ((X 17) (ix w) + v_more X w L) else s_mv1 X w L
theorem move_row (X : St) (w : Int32) (L : Nat) {a : Nat} (h1 : a ≠ 38) (h2 : a ≠ 41) (h3 : a ≠ 17) : s_move X w L a = X a := by
  unfold s_move s_mv1
  repeat' split
  all_goals simp only [ux_ne _ _ _ h1, ux_ne _ _ _ h2, ux_ne _ _ _ h3]
def mvL (X : St) (fm : Nat → Int32) (L : Nat) : Nat → St
  | 0 => X
  | n + 1 => s_move (mvL X fm L n) (fm n) L
theorem mvL_row (X : St) (fm : Nat → Int32) (L : Nat) {a : Nat} (h1 : a ≠ 38) (h2 : a ≠ 41) (h3 : a ≠ 17) : ∀ n, mvL X fm L n a = X a
  | 0 => rfl
  | n + 1 => by rw [mvL, move_row _ _ _ h1 h2 h3, mvL_row X fm L h1 h2 h3 n]
theorem insL_in {ai : Nat → Int32} {w : Int32} (hw : vp_in w 16) : ∀ (k n : Nat) (o : Nat → Int32), k ≤ n → (∀ r, r < n + 1 → r ≠ k → vp_in (o r) 16) → ∀ r, r < n + 1 → vp_in (insL ai w k o r) 16
  | 0, n, o, _, ho, r, hr => by
    unfold insL
    simp only [upd]
    by_cases e : r = 0
    · rw [if_pos e]; exact hw
    · rw [if_neg e]; exact ho r hr e
  | k + 1, n, o, hk, ho, r, hr => by
    unfold insL
    by_cases h : ai (ix (o k)) ≤ ai (ix w)
    · rw [if_pos h]
      simp only [upd]
      by_cases e : r = k + 1
      · rw [if_pos e]; exact hw
      · rw [if_neg e]; exact ho r hr e
    · rw [if_neg h]
      refine insL_in hw k n _ (by omega) (fun q hq hqk => ?_) r hr
      simp only [upd]
      by_cases e : q = k + 1
      · rw [if_pos e]; exact ho k (by omega) (by omega)
      · rw [if_neg e]; exact ho q hq e
theorem arrL_in {ai fm o : Nat → Int32} : ∀ n, (∀ r, r < n → vp_in (fm r) 16) → ∀ r, r < n → vp_in (arrL ai fm o n r) 16
  | 0, _, r, hr => absurd hr (Nat.not_lt_zero _)
  | n + 1, h, r, hr => by
    unfold arrL
    exact insL_in (h n (by omega)) n n _ (Nat.le_refl _) (fun q hq hqn => arrL_in n (fun r hr => h r (by omega)) q (by omega)) r hr
def an1 (X : St) (N L : Nat) : St := mvL (s_X7_recall X (X 112 0)) (X 20) L N
def an2 (X : St) (N L : Nat) : St := sr (an1 X N L) 40 (arrL (an1 X N L 41) (recF (X 20) (X 35) N) (X 40) N)
def an3 (X : St) (N L j : Nat) : St := sr (sr (sr (an2 X N L) 37 (recB (an2 X N L 40) (X 37) j)) 20 (recF (an2 X N L 40) (X 20) j)) 13 (recB (an2 X N L 40) (X 13) j)
def v_anew (X : St) (N L : Nat) : Int32 := if v_X6_isComplete X = 0 then (-4) else if v_X5_goesOn X = 0 then difL (recF (X 20) (X 35) N) (recB (X 20) (X 36) N) (recB (an2 X N L 40) (X 37) N) N else (-4)
def s_anew (X : St) (N L : Nat) : St := if v_X6_isComplete X = 0 then X else if v_X5_goesOn X = 0 then ux (an3 X N L N) 104 0 0 else X
-- beside
def v_sw (X : St) (w b : Int32) : Int32 := if w = (X 26) (ix b) then (X 14) (ix w) - (X 15) (ix w) - 1 else if w = v_X6_loserOf X b then (X 14) (ix w) - (X 15) (ix w) + 1 else (X 14) (ix w) - (X 15) (ix w)
def v_bst (X : St) (w b : Int32) (L : Nat) : Int32 := v_X0_steps X (lfr (X 32) (X 33) (v_sw X w b) L 0) ((X 10) (ix w))
def bsA (X : St) (b : Int32) (L : Nat) : Nat → Nat → Int32
  | 0 => (X 41)
  | j + 1 => upd (bsA X b L j) (ix ((X 35) j)) (2 * ((X 36) (ix ((X 35) j)) - v_bst X ((X 35) j) b L) - v_half (v_bst X ((X 35) j) b L))
def bs1 (X : St) (b : Int32) (N L : Nat) : St := sr (sr X 41 (bsA X b L N)) 40 (arrL (bsA X b L N) (X 35) (X 40) N)
def v_beside (X : St) (b : Int32) (N L : Nat) : Int32 := if v_X6_knows X b = 0 then (-1) else if (X 116 0) = 0 then (-4) else difL (X 35) (recB (bs1 X b N L 40) (X 39) N) (X 37) N
def s_beside (X : St) (b : Int32) (N L : Nat) : St := if v_X6_knows X b = 0 then X else if (X 116 0) = 0 then X else sr (bs1 X b N L) 39 (recB (bs1 X b N L 40) (X 39) N)
set_option maxHeartbeats 4000000 in
set_option maxRecDepth 100000 in
theorem c_X8_mean (l : Launch) (D : va_G) (G : Gx) (N : Nat) (X : St) (s : Int32) (hS : (X 102 0) = nI N) (hN16 : N ≤ 16) (hB : ∀ r, r < N → vp_in ((X 20) r) 16) : Ci l yX8_mean cX8_mean 6 (some .int) 1 (xw G) D (tyG G) [.ref (G.1 0), .int s] X (fun r X1 => r = (v_mean X s N) ∧ X1 = (s_mean X s N)) := by
  refine m_i (nL := 6) (lv := [(0, .ref (G.1 0)), (1, .int s)]) [.ref (G.1 0), .int s] RX8 rfl (xw_adr G) (by decide +kernel) (Nat.le_of_ble_eq_true rfl) rfl (fun K C ret => ?_)
  refine x_iload_n C (pc := 0) dX8_mean_0 1 rfl rfl ?_
  refine x_callSi C (pc := 1) [.int s] (fun l D => c_X8_isGroup l D G X s ) ml_X8_69 co_X8_isGroup st_X8_isGroup in_X8 hy_X8_isGroup.2 (by decide) (by decide) (Nat.le_of_ble_eq_true rfl) dX8_mean_1 rfl (kx ?_)
  refine x_if_ne C (pc := 4) (tgt := 9) dX8_mean_4 (by decide) (fun c4 => ?_) (fun c4 => ?_)
  · refine x_iconst C (pc := 9) (v := 0) dX8_mean_9 (by decide) ?_
    refine x_istore_n C (pc := 10) dX8_mean_10 [(0, .ref (G.1 0)), (1, .int s), (2, .int 0)] [1, 2, 0] rfl (by decide) rfl ?_
    refine x_iconst C (pc := 11) (v := 0) dX8_mean_11 (by decide) ?_
    refine x_istore_n C (pc := 12) dX8_mean_12 [(0, .ref (G.1 0)), (1, .int s), (2, .int 0), (3, .int 0)] [1, 2, 3, 0] rfl (by decide) rfl ?_
    refine x_iconst C (pc := 13) (v := 0) dX8_mean_13 (by decide) ?_
    refine x_istore C (pc := 14) dX8_mean_14 [(0, .ref (G.1 0)), (1, .int s), (2, .int 0), (3, .int 0), (4, .int 0)] [1, 2, 3, 4, 0] (by decide) rfl ?_
    have L16 : ∀ (n : Nat) (a : Int32) (b : Int32) (i : Int32) (j : Nat), (j ≤ N) → (i = nI j) → (a = mnS (X 11) (X 14) (X 20) s j) → (b = mnC (X 11) (X 20) s j) → (N - j) < n → WX K (xw G) 6 X 16 [(0, .ref (G.1 0)), (1, .int s), (2, .int a), (3, .int b), (4, .int i)] [] := by
      intro n
      induction n with
      | zero => intro a b i j hj hi ha hb hmu16; exact absurd hmu16 (Nat.not_lt_zero _)
      | succ n16 ih16 =>
        intro a b i j hj hi ha hb hmu16
        refine x_iload C (pc := 16) dX8_mean_16 4 rfl ?_
        refine x_aload_n C (pc := 18) dX8_mean_18 0 rfl rfl ?_
        refine xG_roster C fl_X8_19 dX8_mean_19 ?_
        refine xG_standing C fl_X8_112 dX8_mean_22 ?_
        refine x_icmp_ge C (pc := 25) (tgt := 76) dX8_mean_25 (by decide) (fun c25 => ?_) (fun c25 => ?_)
        · have hge : N ≤ j := geN hi hS c25 (by omega)
          have hjN : j = N := by omega
          rw [hjN] at ha hb
          refine x_iload_n C (pc := 76) dX8_mean_76 3 rfl rfl ?_
          refine x_if_ne C (pc := 77) (tgt := 91) dX8_mean_77 (by decide) (fun c77 => ?_) (fun c77 => ?_)
          · refine x_iload_n C (pc := 91) dX8_mean_91 2 rfl rfl ?_
            refine x_iload_n C (pc := 92) dX8_mean_92 3 rfl rfl ?_
            refine x_idiv C (pc := 93) dX8_mean_93 (by assumption) ?_
            exact ret (a / b) X 94 _ dX8_mean_94 ⟨by rw [hb] at c77; unfold v_mean; rw [if_neg c4, if_neg c77, ha, hb], by rw [hb] at c77; unfold s_mean; rw [if_neg c4, if_neg c77]⟩
          · refine x_aload_n C (pc := 80) dX8_mean_80 0 rfl rfl ?_
            refine xG_log C fl_X8_12 dX8_mean_81 ?_
            refine x_iconst C (pc := 84) (v := 4) dX8_mean_84 (by decide) ?_
            refine x_callVi C (pc := 85) [.int 4] (fun l D => c_X2_found l D G X 4 in4_6) (xe_1 G _) rfl ml_X8_94 co_X2_found im_X2_found se_X2_found in_X2 hy_X2_found (by decide) (by decide) (Nat.le_of_ble_eq_true rfl) dX8_mean_85 rfl (kx ?_)
            refine x_eqX (X' := (ux (ux X 100 0 4) 9 (ix 4) ((X 9 (ix 4)) + 1))) rfl ?_
            refine x_goto C (pc := 88) (tgt := 94) dX8_mean_88 (by decide) ?_
            exact ret (-3) (ux (ux X 100 0 4) 9 (ix 4) ((X 9 (ix 4)) + 1)) 94 _ dX8_mean_94 ⟨by rw [hb] at c77; unfold v_mean; rw [if_neg c4, if_pos c77], by rw [hb] at c77; unfold s_mean; rw [if_neg c4, if_pos c77]; rfl⟩
        · have hlt : j < N := ltN hi hS c25 (by omega)
          have hin : vp_in i 16 := by rw [hi]; exact vp_in_nI (by omega) (by decide)
          have hix : ix i = j := by rw [hi]; exact ix_nI (by omega)
          have hin2 : vp_in ((X 20) (ix i)) 16 := by rw [hix]; exact hB j hlt
          refine x_aload_n C (pc := 28) dX8_mean_28 0 rfl rfl ?_
          refine xG_roster C fl_X8_19 dX8_mean_29 ?_
          refine xG_board C fl_X8_115 dX8_mean_32 ?_
          refine x_iload C (pc := 35) dX8_mean_35 4 rfl ?_
          refine xL_board C dX8_mean_37 (by assumption) ?_
          refine x_istore C (pc := 38) dX8_mean_38 [(0, .ref (G.1 0)), (1, .int s), (2, .int a), (3, .int b), (4, .int i), (5, .int (X 20 (ix i)))] [1, 2, 3, 4, 5, 0] (by decide) rfl ?_
          refine x_aload_n C (pc := 40) dX8_mean_40 0 rfl rfl ?_
          refine xG_roster C fl_X8_19 dX8_mean_41 ?_
          refine xG_stable C fl_X8_122 dX8_mean_44 ?_
          refine x_iload C (pc := 47) dX8_mean_47 5 rfl ?_
          refine xL_stable C dX8_mean_49 (by assumption) ?_
          refine x_iload_n C (pc := 50) dX8_mean_50 1 rfl rfl ?_
          refine x_icmp_ne C (pc := 51) (tgt := 70) dX8_mean_51 (by decide) (fun c51 => ?_) (fun c51 => ?_)
          · refine x_iinc C (pc := 70) (v := i + 1) dX8_mean_70 4 [(0, .ref (G.1 0)), (1, .int s), (2, .int a), (3, .int b), (4, .int (i + 1)), (5, .int (X 20 (ix i)))] [1, 2, 3, 4, 0, 5] rfl (by rfl) (by decide) rfl ?_
            refine x_goto C (pc := 73) (tgt := 16) dX8_mean_73 (by decide) ?_
            refine x_sub [(0, .ref (G.1 0)), (1, .int s), (2, .int a), (3, .int b), (4, .int (i + 1))] [0, 1, 2, 3, 4] rfl ?_
            exact ih16 a b (i + 1) (j + 1) (by omega) (by rw [hi]; exact nI_1 j) (by rw [hix] at c51; first | rw [mnS, if_pos c51, ha, hix] | rw [mnS, if_neg c51, ha]) (by rw [hix] at c51; first | rw [mnC, if_pos c51, hb] | rw [mnC, if_neg c51, hb]) (by omega)
          · refine x_iload_n C (pc := 54) dX8_mean_54 2 rfl rfl ?_
            refine x_aload_n C (pc := 55) dX8_mean_55 0 rfl rfl ?_
            refine xG_roster C fl_X8_19 dX8_mean_56 ?_
            refine xG_wins C fl_X8_125 dX8_mean_59 ?_
            refine x_iload C (pc := 62) dX8_mean_62 5 rfl ?_
            refine xL_wins C dX8_mean_64 (by assumption) ?_
            refine x_iadd C (pc := 65) dX8_mean_65 ?_
            refine x_istore_n C (pc := 66) dX8_mean_66 [(0, .ref (G.1 0)), (1, .int s), (2, .int (a + (X 14 (ix (X 20 (ix i)))))), (3, .int b), (4, .int i), (5, .int (X 20 (ix i)))] [1, 2, 0, 3, 4, 5] rfl (by decide) rfl ?_
            refine x_iinc C (pc := 67) (v := b + 1) dX8_mean_67 3 [(0, .ref (G.1 0)), (1, .int s), (2, .int (a + (X 14 (ix (X 20 (ix i)))))), (3, .int (b + 1)), (4, .int i), (5, .int (X 20 (ix i)))] [1, 2, 3, 0, 4, 5] rfl (by rfl) (by decide) rfl ?_
            refine x_iinc C (pc := 70) (v := i + 1) dX8_mean_70 4 [(0, .ref (G.1 0)), (1, .int s), (2, .int (a + (X 14 (ix (X 20 (ix i)))))), (3, .int (b + 1)), (4, .int (i + 1)), (5, .int (X 20 (ix i)))] [1, 2, 3, 4, 0, 5] rfl (by rfl) (by decide) rfl ?_
            refine x_goto C (pc := 73) (tgt := 16) dX8_mean_73 (by decide) ?_
            refine x_sub [(0, .ref (G.1 0)), (1, .int s), (2, .int (a + (X 14 (ix (X 20 (ix i)))))), (3, .int (b + 1)), (4, .int (i + 1))] [0, 1, 2, 3, 4] rfl ?_
            exact ih16 (a + (X 14 (ix (X 20 (ix i))))) (b + 1) (i + 1) (j + 1) (by omega) (by rw [hi]; exact nI_1 j) (by rw [hix] at c51; first | rw [mnS, if_pos c51, ha, hix] | rw [mnS, if_neg c51, ha]) (by rw [hix] at c51; first | rw [mnC, if_pos c51, hb] | rw [mnC, if_neg c51, hb]) (by omega)
    exact L16 _ 0 0 0 0 (Nat.zero_le _) rfl rfl rfl (Nat.lt_succ_self _)
  · refine x_iconst C (pc := 7) (v := (-1)) dX8_mean_7 (by decide) ?_
    exact ret (-1) X 8 _ dX8_mean_8 ⟨by unfold v_mean; (repeat (first | rw [if_pos (by assumption)] | rw [if_neg (by assumption)])) <;> first | rfl , by unfold s_mean; (repeat (first | rw [if_pos (by assumption)] | rw [if_neg (by assumption)])) <;> first | rfl ⟩
set_option maxHeartbeats 4000000 in
set_option maxRecDepth 100000 in
theorem c_X8_leaders (l : Launch) (D : va_G) (G : Gx) (N : Nat) (X : St)  (hS : (X 102 0) = nI N) (hN16 : N ≤ 16) (hB : ∀ r, r < N → vp_in ((X 20) r) 16) : Ci l yX8_leaders cX8_leaders 5 (some .int) 2 (xw G) D (tyG G) [.ref (G.1 0)] X (fun r X1 => r = (v_leaders X N) ∧ X1 = X) := by
  refine m_i (nL := 5) (lv := [(0, .ref (G.1 0))]) [.ref (G.1 0)] RX8 rfl (xw_adr G) (by decide +kernel) (Nat.le_of_ble_eq_true rfl) rfl (fun K C ret => ?_)
  refine x_aload_n C (pc := 0) dX8_leaders_0 0 rfl rfl ?_
  refine xG_tourney C fl_X8_33 dX8_leaders_1 ?_
  refine xG_going C fl_X8_76 dX8_leaders_4 ?_
  refine x_if_ne C (pc := 7) (tgt := 13) dX8_leaders_7 (by decide) (fun c7 => ?_) (fun c7 => ?_)
  · refine x_aload_n C (pc := 13) dX8_leaders_13 0 rfl rfl ?_
    refine xG_roster C fl_X8_19 dX8_leaders_14 ?_
    refine x_callVi C (pc := 17) [] (fun l D => c_X3_mostWins l D G N X hN16 hS hB) (xe_2 G _) rfl ml_X8_294 co_X3_mostWins im_X3_mostWins se_X3_mostWins in_X3 hy_X3_mostWins (by decide) (by decide) (Nat.le_of_ble_eq_true rfl) dX8_leaders_17 rfl (kx ?_)
    refine x_istore_n C (pc := 20) dX8_leaders_20 [(0, .ref (G.1 0)), (1, .int (mostW (X 14) (X 20) N))] [1, 0] rfl (by decide) rfl ?_
    refine x_iconst C (pc := 21) (v := 0) dX8_leaders_21 (by decide) ?_
    refine x_istore_n C (pc := 22) dX8_leaders_22 [(0, .ref (G.1 0)), (1, .int (mostW (X 14) (X 20) N)), (2, .int 0)] [1, 2, 0] rfl (by decide) rfl ?_
    refine x_iconst C (pc := 23) (v := 0) dX8_leaders_23 (by decide) ?_
    refine x_istore_n C (pc := 24) dX8_leaders_24 [(0, .ref (G.1 0)), (1, .int (mostW (X 14) (X 20) N)), (2, .int 0), (3, .int 0)] [1, 2, 3, 0] rfl (by decide) rfl ?_
    have L25 : ∀ (n : Nat) (a : Int32) (i : Int32) (j : Nat), (j ≤ N) → (i = nI j) → (a = ldB (X 14) (X 20) (mostW (X 14) (X 20) N) j) → (N - j) < n → WX K (xw G) 5 X 25 [(0, .ref (G.1 0)), (1, .int (mostW (X 14) (X 20) N)), (2, .int a), (3, .int i)] [] := by
      intro n
      induction n with
      | zero => intro a i j hj hi ha hmu25; exact absurd hmu25 (Nat.not_lt_zero _)
      | succ n25 ih25 =>
        intro a i j hj hi ha hmu25
        refine x_iload_n C (pc := 25) dX8_leaders_25 3 rfl rfl ?_
        refine x_aload_n C (pc := 26) dX8_leaders_26 0 rfl rfl ?_
        refine xG_roster C fl_X8_19 dX8_leaders_27 ?_
        refine xG_standing C fl_X8_112 dX8_leaders_30 ?_
        refine x_icmp_ge C (pc := 33) (tgt := 74) dX8_leaders_33 (by decide) (fun c33 => ?_) (fun c33 => ?_)
        · have hge : N ≤ j := geN hi hS c33 (by omega)
          have hjN : j = N := by omega
          refine x_iload_n C (pc := 74) dX8_leaders_74 2 rfl rfl ?_
          exact ret a X 75 _ dX8_leaders_75 ⟨by rw [ha, hjN]; unfold v_leaders; rw [if_neg c7], rfl⟩
        · have hlt : j < N := ltN hi hS c33 (by omega)
          have hin : vp_in i 16 := by rw [hi]; exact vp_in_nI (by omega) (by decide)
          have hix : ix i = j := by rw [hi]; exact ix_nI (by omega)
          have hin2 : vp_in ((X 20) (ix i)) 16 := by rw [hix]; exact hB j hlt
          refine x_aload_n C (pc := 36) dX8_leaders_36 0 rfl rfl ?_
          refine xG_roster C fl_X8_19 dX8_leaders_37 ?_
          refine xG_board C fl_X8_115 dX8_leaders_40 ?_
          refine x_iload_n C (pc := 43) dX8_leaders_43 3 rfl rfl ?_
          refine xL_board C dX8_leaders_44 (by assumption) ?_
          refine x_istore C (pc := 45) dX8_leaders_45 [(0, .ref (G.1 0)), (1, .int (mostW (X 14) (X 20) N)), (2, .int a), (3, .int i), (4, .int (X 20 (ix i)))] [1, 2, 3, 4, 0] (by decide) rfl ?_
          refine x_aload_n C (pc := 47) dX8_leaders_47 0 rfl rfl ?_
          refine xG_roster C fl_X8_19 dX8_leaders_48 ?_
          refine xG_wins C fl_X8_125 dX8_leaders_51 ?_
          refine x_iload C (pc := 54) dX8_leaders_54 4 rfl ?_
          refine xL_wins C dX8_leaders_56 (by assumption) ?_
          refine x_iload_n C (pc := 57) dX8_leaders_57 1 rfl rfl ?_
          refine x_icmp_ne C (pc := 58) (tgt := 68) dX8_leaders_58 (by decide) (fun c58 => ?_) (fun c58 => ?_)
          · refine x_iinc C (pc := 68) (v := i + 1) dX8_leaders_68 3 [(0, .ref (G.1 0)), (1, .int (mostW (X 14) (X 20) N)), (2, .int a), (3, .int (i + 1)), (4, .int (X 20 (ix i)))] [1, 2, 3, 0, 4] rfl (by rfl) (by decide) rfl ?_
            refine x_goto C (pc := 71) (tgt := 25) dX8_leaders_71 (by decide) ?_
            refine x_sub [(0, .ref (G.1 0)), (1, .int (mostW (X 14) (X 20) N)), (2, .int a), (3, .int (i + 1))] [0, 1, 2, 3] rfl ?_
            exact ih25 a (i + 1) (j + 1) (by omega) (by rw [hi]; exact nI_1 j) (by rw [hix] at c58; first | rw [ldB, if_pos c58, ha, hix] | rw [ldB, if_neg c58, ha]) (by omega)
          · refine x_iload_n C (pc := 61) dX8_leaders_61 2 rfl rfl ?_
            refine x_iconst C (pc := 62) (v := 1) dX8_leaders_62 (by decide) ?_
            refine x_iload C (pc := 63) dX8_leaders_63 4 rfl ?_
            refine x_ishl C (pc := 65) dX8_leaders_65 ?_
            refine x_ior C (pc := 66) dX8_leaders_66 ?_
            refine x_istore_n C (pc := 67) dX8_leaders_67 [(0, .ref (G.1 0)), (1, .int (mostW (X 14) (X 20) N)), (2, .int (a ||| (1 <<< ((X 20 (ix i)) &&& 31)))), (3, .int i), (4, .int (X 20 (ix i)))] [1, 2, 0, 3, 4] rfl (by decide) rfl ?_
            refine x_iinc C (pc := 68) (v := i + 1) dX8_leaders_68 3 [(0, .ref (G.1 0)), (1, .int (mostW (X 14) (X 20) N)), (2, .int (a ||| (1 <<< ((X 20 (ix i)) &&& 31)))), (3, .int (i + 1)), (4, .int (X 20 (ix i)))] [1, 2, 3, 0, 4] rfl (by rfl) (by decide) rfl ?_
            refine x_goto C (pc := 71) (tgt := 25) dX8_leaders_71 (by decide) ?_
            refine x_sub [(0, .ref (G.1 0)), (1, .int (mostW (X 14) (X 20) N)), (2, .int (a ||| (1 <<< ((X 20 (ix i)) &&& 31)))), (3, .int (i + 1))] [0, 1, 2, 3] rfl ?_
            exact ih25 (a ||| (1 <<< ((X 20 (ix i)) &&& 31))) (i + 1) (j + 1) (by omega) (by rw [hi]; exact nI_1 j) (by rw [hix] at c58; first | rw [ldB, if_pos c58, ha, hix] | rw [ldB, if_neg c58, ha]) (by omega)
    exact L25 _ 0 0 0 (Nat.zero_le _) rfl rfl (Nat.lt_succ_self _)
  · refine x_bipush C (pc := 10) (v := (-4)) dX8_leaders_10 (by decide) ?_
    exact ret (-4) X 12 _ dX8_leaders_12 ⟨by unfold v_leaders; rw [if_pos c7], rfl⟩
set_option maxHeartbeats 4000000 in
set_option maxRecDepth 100000 in
theorem c_X8_playOff (l : Launch) (D : va_G) (G : Gx) (N : Nat) (X : St)  (hS : (X 102 0) = nI N) (hN16 : N ≤ 16) (hB : ∀ r, r < N → vp_in ((X 20) r) 16) (hL0 : (X 118 0) = 0 → (X 117 0) = 0) : Ci l yX8_playOff cX8_playOff 4 (some .int) 2 (xw G) D (tyG G) [.ref (G.1 0)] X (fun r X1 => r = (v_playOff X N) ∧ X1 = (s_playOff X N)) := by
  refine m_i (nL := 4) (lv := [(0, .ref (G.1 0))]) [.ref (G.1 0)] RX8 rfl (xw_adr G) (by decide +kernel) (Nat.le_of_ble_eq_true rfl) rfl (fun K C ret => ?_)
  refine x_aload_n C (pc := 0) dX8_playOff_0 0 rfl rfl ?_
  refine xG_tourney C fl_X8_33 dX8_playOff_1 ?_
  refine x_callVi C (pc := 4) [] (fun l D => c_X6_isComplete l D G X ) (xe_4 G _) rfl ml_X8_230 co_X6_isComplete im_X6_isComplete se_X6_isComplete in_X6 hy_X6_isComplete (by decide) (by decide) (Nat.le_of_ble_eq_true rfl) dX8_playOff_4 rfl (kx ?_)
  refine x_if_eq C (pc := 7) (tgt := 30) dX8_playOff_7 (by decide) (fun c7 => ?_) (fun c7 => ?_)
  · refine x_bipush C (pc := 30) (v := (-4)) dX8_playOff_30 (by decide) ?_
    exact ret (-4) X 32 _ dX8_playOff_32 ⟨by unfold v_playOff; (repeat (first | rw [if_pos (by assumption)] | rw [if_neg (by assumption)])) <;> first | rfl , by unfold s_playOff; (repeat (first | rw [if_pos (by assumption)] | rw [if_neg (by assumption)])) <;> first | rfl ⟩
  · refine x_aload_n C (pc := 10) dX8_playOff_10 0 rfl rfl ?_
    refine xG_titleRow C fl_X8_61 dX8_playOff_11 ?_
    refine xG_begun C fl_X8_297 dX8_playOff_14 ?_
    refine x_if_ne C (pc := 17) (tgt := 30) dX8_playOff_17 (by decide) (fun c17 => ?_) (fun c17 => ?_)
    · refine x_bipush C (pc := 30) (v := (-4)) dX8_playOff_30 (by decide) ?_
      exact ret (-4) X 32 _ dX8_playOff_32 ⟨by unfold v_playOff; (repeat (first | rw [if_pos (by assumption)] | rw [if_neg (by assumption)])) <;> first | rfl , by unfold s_playOff; (repeat (first | rw [if_pos (by assumption)] | rw [if_neg (by assumption)])) <;> first | rfl ⟩
    · refine x_aload_n C (pc := 20) dX8_playOff_20 0 rfl rfl ?_
      refine xG_roster C fl_X8_19 dX8_playOff_21 ?_
      refine xG_standing C fl_X8_112 dX8_playOff_24 ?_
      refine x_if_ne C (pc := 27) (tgt := 33) dX8_playOff_27 (by decide) (fun c27 => ?_) (fun c27 => ?_)
      · refine x_aload_n C (pc := 33) dX8_playOff_33 0 rfl rfl ?_
        refine xG_titleRow C fl_X8_61 dX8_playOff_34 ?_
        refine x_iconst C (pc := 37) (v := 1) dX8_playOff_37 (by decide) ?_
        refine xP_begun C fl_X8_297 (v := 1) (by decide) (by decide) dX8_playOff_38 ?_
        refine x_aload_n C (pc := 41) dX8_playOff_41 0 rfl rfl ?_
        refine xG_roster C fl_X8_19 dX8_playOff_42 ?_
        refine x_callVi C (pc := 45) [] (fun l D => c_X3_mostWins l D G N (ux X 118 0 1) hN16 hS hB) (xe_2 G _) rfl ml_X8_294 co_X3_mostWins im_X3_mostWins se_X3_mostWins in_X3 hy_X3_mostWins (by decide) (by decide) (Nat.le_of_ble_eq_true rfl) dX8_playOff_45 rfl (kx ?_)
        refine x_top (y := mostW (X 14) (X 20) N) rfl ?_
        refine x_istore_n C (pc := 48) dX8_playOff_48 [(0, .ref (G.1 0)), (1, .int (mostW (X 14) (X 20) N))] [1, 0] rfl (by decide) rfl ?_
        refine x_iconst C (pc := 49) (v := 0) dX8_playOff_49 (by decide) ?_
        refine x_istore_n C (pc := 50) dX8_playOff_50 [(0, .ref (G.1 0)), (1, .int (mostW (X 14) (X 20) N)), (2, .int 0)] [1, 2, 0] rfl (by decide) rfl ?_
        have L51 : ∀ (n : Nat) (Y : St) (i : Int32) (j : Nat), (j ≤ N) → (i = nI j) → (Y = po1 X (mostW (X 14) (X 20) N) j) → (N - j) < n → WX K (xw G) 4 Y 51 [(0, .ref (G.1 0)), (1, .int (mostW (X 14) (X 20) N)), (2, .int i)] [] := by
          intro n
          induction n with
          | zero => intro Y i j hj hi hY hmu51; exact absurd hmu51 (Nat.not_lt_zero _)
          | succ n51 ih51 =>
            intro Y i j hj hi hY hmu51
            refine x_iload_n C (pc := 51) dX8_playOff_51 2 rfl rfl ?_
            refine x_aload_n C (pc := 52) dX8_playOff_52 0 rfl rfl ?_
            refine xG_roster C fl_X8_19 dX8_playOff_53 ?_
            refine xG_standing C fl_X8_112 dX8_playOff_56 ?_
            refine x_icmp_ge C (pc := 59) (tgt := 99) dX8_playOff_59 (by decide) (fun c59 => ?_) (fun c59 => ?_)
            · have hYs : (Y 102 0) = nI N := by rw [hY]; exact hS
              have hge : N ≤ j := geN hi hYs c59 (by omega)
              have hjN : j = N := by omega
              rw [hjN] at hY
              have h1 : (Y 117 0) = 1 → vp_in ((Y 42) 0) 16 := fun h => by
                have hYl : (Y 117 0) = nI (plC (X 14) (X 20) (mostW (X 14) (X 20) N) N) := by rw [hY]; rfl
                have hcl : plC (X 14) (X 20) (mostW (X 14) (X 20) N) N ≤ N := plC_le _ _ _ _
                rw [hYl] at h
                have h2 : plC (X 14) (X 20) (mostW (X 14) (X 20) N) N = 1 := (nI_eq (by omega) (by decide : 1 < 2 ^ 31)).mp h
                rw [hY]
                exact plR_in N hB 0 (by omega)
              refine x_aload_n C (pc := 99) dX8_playOff_99 0 rfl rfl ?_
              refine x_callVv C (pc := 100) [] (fun l D => c_X8_crownIfAlone l D G Y h1) (xe_0 G _) rfl ml_X8_303 co_X8_crownIfAlone im_X8_crownIfAlone se_X8_crownIfAlone in_X8 hy_X8_crownIfAlone (by decide) (by decide) (Nat.le_of_ble_eq_true rfl) dX8_playOff_100 rfl (kxv ?_)
              refine x_aload_n C (pc := 103) dX8_playOff_103 0 rfl rfl ?_
              refine xG_titleRow C fl_X8_61 dX8_playOff_104 ?_
              refine xG_left C fl_X8_306 dX8_playOff_107 ?_
              exact ret ((s_crown Y) 117 0) (s_crown Y) 110 _ dX8_playOff_110 ⟨by rw [crown_left, hY]; unfold v_playOff; rw [if_neg c7, if_pos c17, if_neg c27]; rfl, by rw [hY]; unfold s_playOff; rw [if_neg c7, if_pos c17, if_neg c27]⟩
            · have hYs : (Y 102 0) = nI N := by rw [hY]; exact hS
              have hlt : j < N := ltN hi hYs c59 (by omega)
              have hin : vp_in i 16 := by rw [hi]; exact vp_in_nI (by omega) (by decide)
              have hix : ix i = j := by rw [hi]; exact ix_nI (by omega)
              have hYb : (Y 20) = (X 20) := by rw [hY]; rfl
              have hYw : (Y 14) = (X 14) := by rw [hY]; rfl
              have hin2 : vp_in ((Y 20) (ix i)) 16 := by rw [hYb, hix]; exact hB j hlt
              refine x_aload_n C (pc := 62) dX8_playOff_62 0 rfl rfl ?_
              refine xG_roster C fl_X8_19 dX8_playOff_63 ?_
              refine xG_board C fl_X8_115 dX8_playOff_66 ?_
              refine x_iload_n C (pc := 69) dX8_playOff_69 2 rfl rfl ?_
              refine xL_board C dX8_playOff_70 (by assumption) ?_
              refine x_istore_n C (pc := 71) dX8_playOff_71 [(0, .ref (G.1 0)), (1, .int (mostW (X 14) (X 20) N)), (2, .int i), (3, .int (Y 20 (ix i)))] [1, 2, 3, 0] rfl (by decide) rfl ?_
              refine x_aload_n C (pc := 72) dX8_playOff_72 0 rfl rfl ?_
              refine xG_roster C fl_X8_19 dX8_playOff_73 ?_
              refine xG_wins C fl_X8_125 dX8_playOff_76 ?_
              refine x_iload_n C (pc := 79) dX8_playOff_79 3 rfl rfl ?_
              refine xL_wins C dX8_playOff_80 (by assumption) ?_
              refine x_iload_n C (pc := 81) dX8_playOff_81 1 rfl rfl ?_
              refine x_icmp_ne C (pc := 82) (tgt := 93) dX8_playOff_82 (by decide) (fun c82 => ?_) (fun c82 => ?_)
              · refine x_iinc C (pc := 93) (v := i + 1) dX8_playOff_93 2 [(0, .ref (G.1 0)), (1, .int (mostW (X 14) (X 20) N)), (2, .int (i + 1)), (3, .int (Y 20 (ix i)))] [1, 2, 0, 3] rfl (by rfl) (by decide) rfl ?_
                refine x_goto C (pc := 96) (tgt := 51) dX8_playOff_96 (by decide) ?_
                refine x_sub [(0, .ref (G.1 0)), (1, .int (mostW (X 14) (X 20) N)), (2, .int (i + 1))] [0, 1, 2] rfl ?_
                exact ih51 Y (i + 1) (j + 1) (by omega) (by rw [hi]; exact nI_1 j) (by rw [hYw, hYb] at c82; rw [hix] at c82; first | (rw [hY2, hix, hYb]; exact po1_step c82) | (rw [hY]; exact po1_skip c82)) (by omega)
              · have hYl : (Y 117 0) = nI (plC (X 14) (X 20) (mostW (X 14) (X 20) N) j) := by rw [hY]; rfl
                have hcl : plC (X 14) (X 20) (mostW (X 14) (X 20) N) j ≤ j := plC_le _ _ _ _
                have hinl : vp_in (Y 117 0) 16 := by rw [hYl]; exact vp_in_nI (by omega) (by decide)
                have hY2 : ∀ w, ux (ux Y 42 (ix (Y 117 0)) w) 117 0 ((Y 117 0) + 1) = ux (ux (po1 X (mostW (X 14) (X 20) N) j) 42 (plC (X 14) (X 20) (mostW (X 14) (X 20) N) j) w) 117 0 (nI (plC (X 14) (X 20) (mostW (X 14) (X 20) N) j) + 1) := fun w => by rw [hYl, ix_nI (by omega), hY]
                refine x_aload_n C (pc := 85) dX8_playOff_85 0 rfl rfl ?_
                refine xG_titleRow C fl_X8_61 dX8_playOff_86 ?_
                refine x_iload_n C (pc := 89) dX8_playOff_89 3 rfl rfl ?_
                refine x_callVv C (pc := 90) [.int (Y 20 (ix i))] (fun l D => c_X5_append l D G Y (Y 20 (ix i)) hinl) (xe_8 G _) rfl ml_X8_300 co_X5_append im_X5_append se_X5_append in_X5 hy_X5_append (by decide) (by decide) (Nat.le_of_ble_eq_true rfl) dX8_playOff_90 rfl (kxv ?_)
                refine x_eqX (X' := (ux (ux Y 42 (ix (Y 117 0)) (Y 20 (ix i))) 117 0 ((Y 117 0) + 1))) rfl ?_
                refine x_iinc C (pc := 93) (v := i + 1) dX8_playOff_93 2 [(0, .ref (G.1 0)), (1, .int (mostW (X 14) (X 20) N)), (2, .int (i + 1)), (3, .int (Y 20 (ix i)))] [1, 2, 0, 3] rfl (by rfl) (by decide) rfl ?_
                refine x_goto C (pc := 96) (tgt := 51) dX8_playOff_96 (by decide) ?_
                refine x_sub [(0, .ref (G.1 0)), (1, .int (mostW (X 14) (X 20) N)), (2, .int (i + 1))] [0, 1, 2] rfl ?_
                exact ih51 (ux (ux Y 42 (ix (Y 117 0)) (Y 20 (ix i))) 117 0 ((Y 117 0) + 1)) (i + 1) (j + 1) (by omega) (by rw [hi]; exact nI_1 j) (by rw [hYw, hYb] at c82; rw [hix] at c82; first | (rw [hY2, hix, hYb]; exact po1_step c82) | (rw [hY]; exact po1_skip c82)) (by omega)
        exact L51 _ (ux X 118 0 1) 0 0 (Nat.zero_le _) rfl ((po1_0 (hL0 (by assumption))).symm) (Nat.lt_succ_self _)
      · refine x_bipush C (pc := 30) (v := (-4)) dX8_playOff_30 (by decide) ?_
        exact ret (-4) X 32 _ dX8_playOff_32 ⟨by unfold v_playOff; (repeat (first | rw [if_pos (by assumption)] | rw [if_neg (by assumption)])) <;> first | rfl , by unfold s_playOff; (repeat (first | rw [if_pos (by assumption)] | rw [if_neg (by assumption)])) <;> first | rfl ⟩
set_option maxHeartbeats 4000000 in
set_option maxRecDepth 100000 in
theorem c_X8_withWrestler (l : Launch) (D : va_G) (G : Gx) (X : St) (h : Int64) (w : Int32) (hw : vp_in w 16) : Cl l yX8_withWrestler cX8_withWrestler 7 (some .long) 1 (xw G) D (tyG G) [.ref (G.1 0), .long h, .int w] X (fun r X1 => r = (v_withW X h w) ∧ X1 = X) := by
  refine m_l (nL := 7) (lv := [(0, .ref (G.1 0)), (1, .long h), (3, .int w)]) [.ref (G.1 0), .long h, .int w] RX8 rfl (xw_adr G) (by decide +kernel) (Nat.le_of_ble_eq_true rfl) rfl (fun K C ret => ?_)
  refine x_aload_n C (pc := 0) dX8_withWrestler_0 0 rfl rfl ?_
  refine xG_roster C fl_X8_19 dX8_withWrestler_1 ?_
  refine xG_gone C fl_X8_90 dX8_withWrestler_4 ?_
  refine x_iload_n C (pc := 7) dX8_withWrestler_7 2 rfl rfl ?_
  refine xL_gone C dX8_withWrestler_8 (by assumption) ?_
  refine x_if_eq C (pc := 9) (tgt := 20) dX8_withWrestler_9 (by decide) (fun c9 => ?_) (fun c9 => ?_)
  · refine x_lload_n C (pc := 20) dX8_withWrestler_20 1 rfl rfl ?_
    refine x_lstore C (pc := 21) dX8_withWrestler_21 [(0, .ref (G.1 0)), (1, .long h), (3, .int w), (4, .long h)] [1, 2, 3, 0] (by decide) rfl ?_
    refine x_iconst C (pc := 23) (v := 0) dX8_withWrestler_23 (by decide) ?_
    refine x_istore C (pc := 24) dX8_withWrestler_24 [(0, .ref (G.1 0)), (1, .long h), (3, .int w), (4, .long h), (6, .int 0)] [1, 2, 3, 4, 0] (by decide) rfl ?_
    have L26 : ∀ (n : Nat) (a : Int64) (i : Int32) (j : Nat), (j ≤ 7) → (i = nI j) → (a = fld (fun k => v_X3_fact X w (nI k)) h j) → (7 - j) < n → WX K (xw G) 7 X 26 [(0, .ref (G.1 0)), (1, .long h), (3, .int w), (4, .long a), (6, .int i)] [] := by
      intro n
      induction n with
      | zero => intro a i j hj hi ha hmu26; exact absurd hmu26 (Nat.not_lt_zero _)
      | succ n26 ih26 =>
        intro a i j hj hi ha hmu26
        refine x_iload C (pc := 26) dX8_withWrestler_26 4 rfl ?_
        refine x_bipush C (pc := 28) (v := 7) dX8_withWrestler_28 (by decide) ?_
        refine x_icmp_ge C (pc := 30) (tgt := 59) dX8_withWrestler_30 (by decide) (fun c30 => ?_) (fun c30 => ?_)
        · have hge : 7 ≤ j := geN hi (rfl : (7 : Int32) = nI 7) c30 (by omega)
          have hjN : j = 7 := by omega
          refine x_lload C (pc := 59) dX8_withWrestler_59 3 rfl ?_
          exact ret a X 61 _ dX8_withWrestler_61 ⟨by rw [ha, hjN]; unfold v_withW; rw [if_pos c9], rfl⟩
        · have hlt : j < 7 := ltN hi (rfl : (7 : Int32) = nI 7) c30 (by omega)
          refine x_ldc2 C (pc := 33) dX8_withWrestler_33 k_X8_334 ?_
          refine x_lload C (pc := 36) dX8_withWrestler_36 3 rfl ?_
          refine x_lmul C (pc := 38) dX8_withWrestler_38 ?_
          refine x_aload_n C (pc := 39) dX8_withWrestler_39 0 rfl rfl ?_
          refine xG_roster C fl_X8_19 dX8_withWrestler_40 ?_
          refine x_iload_n C (pc := 43) dX8_withWrestler_43 2 rfl rfl ?_
          refine x_iload C (pc := 44) dX8_withWrestler_44 4 rfl ?_
          refine x_callVi C (pc := 46) [.int w, .int i] (fun l D => c_X3_fact l D G X w i (by assumption)) (xe_2 G _) rfl ml_X8_104 co_X3_fact im_X3_fact se_X3_fact in_X3 hy_X3_fact (by decide) (by decide) (Nat.le_of_ble_eq_true rfl) dX8_withWrestler_46 rfl (kx ?_)
          refine x_i2l C (pc := 49) dX8_withWrestler_49 ?_
          refine x_ladd C (pc := 50) dX8_withWrestler_50 ?_
          refine x_lstore C (pc := 51) dX8_withWrestler_51 [(0, .ref (G.1 0)), (1, .long h), (3, .int w), (4, .long ((31 * a) + (Int32.toInt64 (v_X3_fact X w i)))), (6, .int i)] [1, 2, 3, 0, 4] (by decide) rfl ?_
          refine x_iinc C (pc := 53) (v := i + 1) dX8_withWrestler_53 4 [(0, .ref (G.1 0)), (1, .long h), (3, .int w), (4, .long ((31 * a) + (Int32.toInt64 (v_X3_fact X w i)))), (6, .int (i + 1))] [1, 2, 3, 4, 0] rfl (by rfl) (by decide) rfl ?_
          refine x_goto C (pc := 56) (tgt := 26) dX8_withWrestler_56 (by decide) ?_
          exact ih26 ((31 * a) + (Int32.toInt64 (v_X3_fact X w i))) (i + 1) (j + 1) (by omega) (by rw [hi]; exact nI_1 j) (by rw [fld, ha, hi]) (by omega)
    exact L26 _ h 0 0 (Nat.zero_le _) rfl rfl (Nat.lt_succ_self _)
  · refine x_ldc2 C (pc := 12) dX8_withWrestler_12 k_X8_334 ?_
    refine x_lload_n C (pc := 15) dX8_withWrestler_15 1 rfl rfl ?_
    refine x_lmul C (pc := 16) dX8_withWrestler_16 ?_
    refine x_lconst C (pc := 17) (v := 1) dX8_withWrestler_17 (by decide) ?_
    refine x_lsub C (pc := 18) dX8_withWrestler_18 ?_
    exact ret ((31 * h) - 1) X 19 _ dX8_withWrestler_19 ⟨by unfold v_withW; rw [if_neg c9], rfl⟩
set_option maxHeartbeats 4000000 in
set_option maxRecDepth 100000 in
theorem c_X8_withSheet (l : Launch) (D : va_G) (G : Gx) (X : St) (h : Int64) (s : Int32) (hs : vp_in s 4) (hz : (X 22) (ix s) = (-1) ∨ ∃ z, z ≤ 16 ∧ (X 22) (ix s) = nI z) : Cl l yX8_withSheet cX8_withSheet 7 (some .long) 0 (xw G) D (tyG G) [.ref (G.1 0), .long h, .int s] X (fun r X1 => r = (v_withS X h s) ∧ X1 = X) := by
  refine m_l (nL := 7) (lv := [(0, .ref (G.1 0)), (1, .long h), (3, .int s)]) [.ref (G.1 0), .long h, .int s] RX8 rfl (xw_adr G) (by decide +kernel) (Nat.le_of_ble_eq_true rfl) rfl (fun K C ret => ?_)
  refine x_ldc2 C (pc := 0) dX8_withSheet_0 k_X8_334 ?_
  refine x_lload_n C (pc := 3) dX8_withSheet_3 1 rfl rfl ?_
  refine x_lmul C (pc := 4) dX8_withSheet_4 ?_
  refine x_aload_n C (pc := 5) dX8_withSheet_5 0 rfl rfl ?_
  refine xG_sheets C fl_X8_26 dX8_withSheet_6 ?_
  refine xG_ssize C fl_X8_138 dX8_withSheet_9 ?_
  refine x_iload_n C (pc := 12) dX8_withSheet_12 2 rfl rfl ?_
  refine xL_ssize C dX8_withSheet_13 (by assumption) ?_
  refine x_i2l C (pc := 14) dX8_withSheet_14 ?_
  refine x_ladd C (pc := 15) dX8_withSheet_15 ?_
  refine x_lstore C (pc := 16) dX8_withSheet_16 [(0, .ref (G.1 0)), (1, .long h), (3, .int s), (4, .long ((31 * h) + (Int32.toInt64 (X 22 (ix s)))))] [1, 2, 3, 0] (by decide) rfl ?_
  refine x_iconst C (pc := 18) (v := 0) dX8_withSheet_18 (by decide) ?_
  refine x_istore C (pc := 19) dX8_withSheet_19 [(0, .ref (G.1 0)), (1, .long h), (3, .int s), (4, .long ((31 * h) + (Int32.toInt64 (X 22 (ix s))))), (6, .int 0)] [1, 2, 3, 4, 0] (by decide) rfl ?_
  have L21 : ∀ (n : Nat) (a : Int64) (i : Int32) (j : Nat), (j ≤ ix ((X 22) (ix s))) → (i = nI j) → (a = fld (X (43 + ix s)) (31 * h + ((X 22) (ix s)).toInt64) j) → (ix ((X 22) (ix s)) - j) < n → WX K (xw G) 7 X 21 [(0, .ref (G.1 0)), (1, .long h), (3, .int s), (4, .long a), (6, .int i)] [] := by
    intro n
    induction n with
    | zero => intro a i j hj hi ha hmu21; exact absurd hmu21 (Nat.not_lt_zero _)
    | succ n21 ih21 =>
      intro a i j hj hi ha hmu21
      refine x_iload C (pc := 21) dX8_withSheet_21 4 rfl ?_
      refine x_aload_n C (pc := 23) dX8_withSheet_23 0 rfl rfl ?_
      refine xG_sheets C fl_X8_26 dX8_withSheet_24 ?_
      refine xG_ssize C fl_X8_138 dX8_withSheet_27 ?_
      refine x_iload_n C (pc := 30) dX8_withSheet_30 2 rfl rfl ?_
      refine xL_ssize C dX8_withSheet_31 (by assumption) ?_
      refine x_icmp_ge C (pc := 32) (tgt := 63) dX8_withSheet_32 (by decide) (fun c32 => ?_) (fun c32 => ?_)
      · have hjz : j = ix ((X 22) (ix s)) := by
          rcases hz with e | ⟨z, hz16, hz2⟩
          · rw [e] at hj ⊢; have : ix (-1) = 0 := rfl; omega
          · have hxz : ix ((X 22) (ix s)) = z := by rw [hz2]; exact ix_nI (by omega)
            have hge : z ≤ j := geN hi hz2 c32 (by omega)
            omega
        refine x_lload C (pc := 63) dX8_withSheet_63 3 rfl ?_
        exact ret a X 65 _ dX8_withSheet_65 ⟨by rw [ha, hjz]; rfl, rfl⟩
      · have hzz : ∃ z, z ≤ 16 ∧ (X 22) (ix s) = nI z := hz.resolve_left (fun e => c32 (by rw [e, hi]; exact Int32.le_trans (by decide : (-1 : Int32) ≤ 0) (nI_pos' (by rw [e] at hj; have : ix (-1) = 0 := rfl; omega))))
        obtain ⟨z, hz16, hz2⟩ := hzz
        have hxz : ix ((X 22) (ix s)) = z := by rw [hz2]; exact ix_nI (by omega)
        have hlt : j < z := ltN hi hz2 c32 (by omega)
        have hin : vp_in i 16 := by rw [hi]; exact vp_in_nI (by omega) (by decide)
        have hix : ix i = j := by rw [hi]; exact ix_nI (by omega)
        refine x_ldc2 C (pc := 35) dX8_withSheet_35 k_X8_334 ?_
        refine x_lload C (pc := 38) dX8_withSheet_38 3 rfl ?_
        refine x_lmul C (pc := 40) dX8_withSheet_40 ?_
        refine x_aload_n C (pc := 41) dX8_withSheet_41 0 rfl rfl ?_
        refine xG_sheets C fl_X8_26 dX8_withSheet_42 ?_
        refine xG_bytes C fl_X8_149 dX8_withSheet_45 ?_
        refine x_iload_n C (pc := 48) dX8_withSheet_48 2 rfl rfl ?_
        refine xL_bytes C dX8_withSheet_49 (by assumption) ?_
        refine x_iload C (pc := 50) dX8_withSheet_50 4 rfl ?_
        refine xLL_bytes C dX8_withSheet_52 (in_ix hs) (by assumption) ?_
        refine x_i2l C (pc := 53) dX8_withSheet_53 ?_
        refine x_ladd C (pc := 54) dX8_withSheet_54 ?_
        refine x_lstore C (pc := 55) dX8_withSheet_55 [(0, .ref (G.1 0)), (1, .long h), (3, .int s), (4, .long ((31 * a) + (Int32.toInt64 (X (43 + ix s) (ix i))))), (6, .int i)] [1, 2, 3, 0, 4] (by decide) rfl ?_
        refine x_iinc C (pc := 57) (v := i + 1) dX8_withSheet_57 4 [(0, .ref (G.1 0)), (1, .long h), (3, .int s), (4, .long ((31 * a) + (Int32.toInt64 (X (43 + ix s) (ix i))))), (6, .int (i + 1))] [1, 2, 3, 4, 0] rfl (by rfl) (by decide) rfl ?_
        refine x_goto C (pc := 60) (tgt := 21) dX8_withSheet_60 (by decide) ?_
        exact ih21 ((31 * a) + (Int32.toInt64 (X (43 + ix s) (ix i)))) (i + 1) (j + 1) (by omega) (by rw [hi]; exact nI_1 j) (by rw [fld, ha, hix]) (by omega)
  exact L21 _ ((31 * h) + (Int32.toInt64 (X 22 (ix s)))) 0 0 (Nat.zero_le _) rfl rfl (Nat.lt_succ_self _)
theorem dig_w {X : St} {E N B : Nat} {h1 h2 h3 h4 : Int64} (e1 : h1 = dgW X E) (e2 : h2 = fld (X 20) h1 N) (e3 : h3 = dgB X h2 B) (e4 : h4 = fld (fun k => v_tally X (nI (k + 2))) h3 6) : dgS X (31 * h4 + (X 119 0).toInt64) 4 = v_digest X E N B := by
  rw [e4, e3, e2, e1]; rfl

set_option maxHeartbeats 4000000 in
set_option maxRecDepth 100000 in
theorem c_X8_digest (l : Launch) (D : va_G) (G : Gx) (E N B : Nat) (X : St)  (hE : (X 101 0) = nI E) (hE16 : E ≤ 16) (hS : (X 102 0) = nI N) (hN16 : N ≤ 16) (hB : ∀ r, r < N → vp_in ((X 20) r) 16) (hBt : (X 107 0) = nI B) (hB120 : B ≤ 120) (hZ : ∀ j, j < 4 → (X 22) j = (-1) ∨ ∃ z, z ≤ 16 ∧ (X 22) j = nI z) : Cl l yX8_digest cX8_digest 5 (some .long) 2 (xw G) D (tyG G) [.ref (G.1 0)] X (fun r X1 => r = (v_digest X E N B) ∧ X1 = X) := by
  refine m_l (nL := 5) (lv := [(0, .ref (G.1 0))]) [.ref (G.1 0)] RX8 rfl (xw_adr G) (by decide +kernel) (Nat.le_of_ble_eq_true rfl) rfl (fun K C ret => ?_)
  refine x_ldc2 C (pc := 0) dX8_digest_0 k_X8_328 ?_
  refine x_lstore_n C (pc := 3) dX8_digest_3 [(0, .ref (G.1 0)), (1, .long 17)] [1, 0] rfl (by decide) rfl ?_
  refine x_iconst C (pc := 4) (v := 0) dX8_digest_4 (by decide) ?_
  refine x_istore_n C (pc := 5) dX8_digest_5 [(0, .ref (G.1 0)), (1, .long 17), (3, .int 0)] [1, 2, 0] rfl (by decide) rfl ?_
  have L6 : ∀ (n : Nat) (a : Int64) (i : Int32) (j : Nat), (j ≤ E) → (i = nI j) → (a = dgW X j) → (E - j) < n → WX K (xw G) 5 X 6 [(0, .ref (G.1 0)), (1, .long a), (3, .int i)] [] := by
    intro n
    induction n with
    | zero => intro a i j hj hi ha hmu6; exact absurd hmu6 (Nat.not_lt_zero _)
    | succ n6 ih6 =>
      intro a i j hj hi ha hmu6
      refine x_iload_n C (pc := 6) dX8_digest_6 2 rfl rfl ?_
      refine x_aload_n C (pc := 7) dX8_digest_7 0 rfl rfl ?_
      refine xG_roster C fl_X8_19 dX8_digest_8 ?_
      refine xG_ever C fl_X8_72 dX8_digest_11 ?_
      refine x_icmp_ge C (pc := 14) (tgt := 30) dX8_digest_14 (by decide) (fun c14 => ?_) (fun c14 => ?_)
      · have hge : E ≤ j := geN hi hE c14 (by omega)
        have hjN : j = E := by omega
        rw [hjN] at ha
        refine x_iconst C (pc := 30) (v := 0) dX8_digest_30 (by decide) ?_
        refine x_istore_n C (pc := 31) dX8_digest_31 [(0, .ref (G.1 0)), (1, .long a), (3, .int 0)] [1, 2, 0] rfl (by decide) rfl ?_
        have L32 : ∀ (n : Nat) (b : Int64) (i : Int32) (j : Nat), (j ≤ N) → (i = nI j) → (b = fld (X 20) a j) → (N - j) < n → WX K (xw G) 5 X 32 [(0, .ref (G.1 0)), (1, .long b), (3, .int i)] [] := by
          intro n
          induction n with
          | zero => intro b i j hj hi hb hmu32; exact absurd hmu32 (Nat.not_lt_zero _)
          | succ n32 ih32 =>
            intro b i j hj hi hb hmu32
            refine x_iload_n C (pc := 32) dX8_digest_32 2 rfl rfl ?_
            refine x_aload_n C (pc := 33) dX8_digest_33 0 rfl rfl ?_
            refine xG_roster C fl_X8_19 dX8_digest_34 ?_
            refine xG_standing C fl_X8_112 dX8_digest_37 ?_
            refine x_icmp_ge C (pc := 40) (tgt := 66) dX8_digest_40 (by decide) (fun c40 => ?_) (fun c40 => ?_)
            · have hge : N ≤ j := geN hi hS c40 (by omega)
              have hjN : j = N := by omega
              rw [hjN] at hb
              refine x_iconst C (pc := 66) (v := 0) dX8_digest_66 (by decide) ?_
              refine x_istore_n C (pc := 67) dX8_digest_67 [(0, .ref (G.1 0)), (1, .long b), (3, .int 0)] [1, 2, 0] rfl (by decide) rfl ?_
              have L68 : ∀ (n : Nat) (c : Int64) (i : Int32) (j : Nat), (j ≤ B) → (i = nI j) → (c = dgB X b j) → (B - j) < n → WX K (xw G) 5 X 68 [(0, .ref (G.1 0)), (1, .long c), (3, .int i)] [] := by
                intro n
                induction n with
                | zero => intro c i j hj hi hc hmu68; exact absurd hmu68 (Nat.not_lt_zero _)
                | succ n68 ih68 =>
                  intro c i j hj hi hc hmu68
                  refine x_iload_n C (pc := 68) dX8_digest_68 2 rfl rfl ?_
                  refine x_aload_n C (pc := 69) dX8_digest_69 0 rfl rfl ?_
                  refine xG_tourney C fl_X8_33 dX8_digest_70 ?_
                  refine xG_bouts C fl_X8_336 dX8_digest_73 ?_
                  refine x_icmp_ge C (pc := 76) (tgt := 118) dX8_digest_76 (by decide) (fun c76 => ?_) (fun c76 => ?_)
                  · have hge : B ≤ j := geN hi hBt c76 (by omega)
                    have hjN : j = B := by omega
                    rw [hjN] at hc
                    refine x_iconst C (pc := 118) (v := 2) dX8_digest_118 (by decide) ?_
                    refine x_istore_n C (pc := 119) dX8_digest_119 [(0, .ref (G.1 0)), (1, .long c), (3, .int 2)] [1, 2, 0] rfl (by decide) rfl ?_
                    have L120 : ∀ (n : Nat) (e : Int64) (i : Int32) (j : Nat), (j ≤ 6) → (i = nI (j + 2)) → (e = fld (fun k => v_tally X (nI (k + 2))) c j) → (6 - j) < n → WX K (xw G) 5 X 120 [(0, .ref (G.1 0)), (1, .long e), (3, .int i)] [] := by
                      intro n
                      induction n with
                      | zero => intro e i j hj hi he hmu120; exact absurd hmu120 (Nat.not_lt_zero _)
                      | succ n120 ih120 =>
                        intro e i j hj hi he hmu120
                        refine x_iload_n C (pc := 120) dX8_digest_120 2 rfl rfl ?_
                        refine x_bipush C (pc := 121) (v := 7) dX8_digest_121 (by decide) ?_
                        refine x_icmp_gt C (pc := 123) (tgt := 145) dX8_digest_123 (by decide) (fun c123 => ?_) (fun c123 => ?_)
                        · have hj6 : j = 6 := by
                            rcases Nat.lt_or_ge j 6 with q | q
                            · rw [hi] at c123; exact absurd c123 (nI_nlt (by omega : j + 2 ≤ 7) (by decide))
                            · omega
                          rw [hj6] at he
                          refine x_ldc2 C (pc := 145) dX8_digest_145 k_X8_334 ?_
                          refine x_lload_n C (pc := 148) dX8_digest_148 1 rfl rfl ?_
                          refine x_lmul C (pc := 149) dX8_digest_149 ?_
                          refine x_aload_n C (pc := 150) dX8_digest_150 0 rfl rfl ?_
                          refine xG_titleRow C fl_X8_61 dX8_digest_151 ?_
                          refine xG_holder C fl_X8_316 dX8_digest_154 ?_
                          refine x_i2l C (pc := 157) dX8_digest_157 ?_
                          refine x_ladd C (pc := 158) dX8_digest_158 ?_
                          refine x_lstore_n C (pc := 159) dX8_digest_159 [(0, .ref (G.1 0)), (1, .long ((31 * e) + (Int32.toInt64 (X 119 0)))), (3, .int i)] [1, 0, 2] rfl (by decide) rfl ?_
                          refine x_iconst C (pc := 160) (v := 0) dX8_digest_160 (by decide) ?_
                          refine x_istore_n C (pc := 161) dX8_digest_161 [(0, .ref (G.1 0)), (1, .long ((31 * e) + (Int32.toInt64 (X 119 0)))), (3, .int 0)] [1, 2, 0] rfl (by decide) rfl ?_
                          have L162 : ∀ (n : Nat) (g : Int64) (i : Int32) (j : Nat), (j ≤ 4) → (i = nI j) → (g = dgS X (31 * e + (X 119 0).toInt64) j) → (4 - j) < n → WX K (xw G) 5 X 162 [(0, .ref (G.1 0)), (1, .long g), (3, .int i)] [] := by
                            intro n
                            induction n with
                            | zero => intro g i j hj hi hg hmu162; exact absurd hmu162 (Nat.not_lt_zero _)
                            | succ n162 ih162 =>
                              intro g i j hj hi hg hmu162
                              refine x_iload_n C (pc := 162) dX8_digest_162 2 rfl rfl ?_
                              refine x_iconst C (pc := 163) (v := 4) dX8_digest_163 (by decide) ?_
                              refine x_icmp_ge C (pc := 164) (tgt := 180) dX8_digest_164 (by decide) (fun c164 => ?_) (fun c164 => ?_)
                              · have hge : 4 ≤ j := geN hi (rfl : (4 : Int32) = nI 4) c164 (by omega)
                                have hj4 : j = 4 := by omega
                                refine x_lload_n C (pc := 180) dX8_digest_180 1 rfl rfl ?_
                                exact ret g X 181 _ dX8_digest_181 ⟨by rw [hg, hj4]; exact dig_w ha hb hc he, rfl⟩
                              · have hlt : j < 4 := ltN hi (rfl : (4 : Int32) = nI 4) c164 (by omega)
                                have hin : vp_in i 4 := by rw [hi]; exact vp_in_nI (by omega) (by decide)
                                have hix : ix i = j := by rw [hi]; exact ix_nI (by omega)
                                refine x_aload_n C (pc := 167) dX8_digest_167 0 rfl rfl ?_
                                refine x_lload_n C (pc := 168) dX8_digest_168 1 rfl rfl ?_
                                refine x_iload_n C (pc := 169) dX8_digest_169 2 rfl rfl ?_
                                refine x_callVl C (pc := 170) [.long g, .int i] (fun l D => c_X8_withSheet l D G X g i hin (by rw [hix]; exact hZ j hlt)) (xe_0 G _) rfl ml_X8_339 co_X8_withSheet im_X8_withSheet se_X8_withSheet in_X8 hy_X8_withSheet (by decide) (by decide) (Nat.le_of_ble_eq_true rfl) dX8_digest_170 rfl (kxl ?_)
                                refine x_lstore_n C (pc := 173) dX8_digest_173 [(0, .ref (G.1 0)), (1, .long (v_withS X g i)), (3, .int i)] [1, 0, 2] rfl (by decide) rfl ?_
                                refine x_iinc C (pc := 174) (v := i + 1) dX8_digest_174 2 [(0, .ref (G.1 0)), (1, .long (v_withS X g i)), (3, .int (i + 1))] [1, 2, 0] rfl (by rfl) (by decide) rfl ?_
                                refine x_goto C (pc := 177) (tgt := 162) dX8_digest_177 (by decide) ?_
                                exact ih162 (v_withS X g i) (i + 1) (j + 1) (by omega) (by rw [hi]; exact nI_1 j) (by rw [dgS, hg, hi]) (by omega)
                          exact L162 _ ((31 * e) + (Int32.toInt64 (X 119 0))) 0 0 (Nat.zero_le _) rfl rfl (Nat.lt_succ_self _)
                        · have hlt : j < 6 := Nat.lt_of_le_of_ne hj (fun e => c123 (by rw [hi, e]; decide))
                          refine x_ldc2 C (pc := 126) dX8_digest_126 k_X8_334 ?_
                          refine x_lload_n C (pc := 129) dX8_digest_129 1 rfl rfl ?_
                          refine x_lmul C (pc := 130) dX8_digest_130 ?_
                          refine x_aload_n C (pc := 131) dX8_digest_131 0 rfl rfl ?_
                          refine x_iload_n C (pc := 132) dX8_digest_132 2 rfl rfl ?_
                          refine x_callVi C (pc := 133) [.int i] (fun l D => c_X8_tally l D G X i ) (xe_0 G _) rfl ml_X8_319 co_X8_tally im_X8_tally se_X8_tally in_X8 hy_X8_tally (by decide) (by decide) (Nat.le_of_ble_eq_true rfl) dX8_digest_133 rfl (kx ?_)
                          refine x_i2l C (pc := 136) dX8_digest_136 ?_
                          refine x_ladd C (pc := 137) dX8_digest_137 ?_
                          refine x_lstore_n C (pc := 138) dX8_digest_138 [(0, .ref (G.1 0)), (1, .long ((31 * e) + (Int32.toInt64 (v_tally X i)))), (3, .int i)] [1, 0, 2] rfl (by decide) rfl ?_
                          refine x_iinc C (pc := 139) (v := i + 1) dX8_digest_139 2 [(0, .ref (G.1 0)), (1, .long ((31 * e) + (Int32.toInt64 (v_tally X i)))), (3, .int (i + 1))] [1, 2, 0] rfl (by rfl) (by decide) rfl ?_
                          refine x_goto C (pc := 142) (tgt := 120) dX8_digest_142 (by decide) ?_
                          exact ih120 ((31 * e) + (Int32.toInt64 (v_tally X i))) (i + 1) (j + 1) (by omega) (by rw [hi]; exact nI_1 (j + 2)) (by rw [fld, he, hi]) (by omega)
                    exact L120 _ c 2 0 (Nat.zero_le _) rfl rfl (Nat.lt_succ_self _)
                  · have hlt : j < B := ltN hi hBt c76 (by omega)
                    have hin : vp_in i 120 := by rw [hi]; exact vp_in_nI (by omega) (by decide)
                    refine x_iconst C (pc := 79) (v := 0) dX8_digest_79 (by decide) ?_
                    refine x_istore C (pc := 80) dX8_digest_80 [(0, .ref (G.1 0)), (1, .long c), (3, .int i), (4, .int 0)] [1, 2, 3, 0] (by decide) rfl ?_
                    have L82 : ∀ (n : Nat) (d : Int64) (x : Int32) (k : Nat), (k ≤ 4) → (x = nI k) → (d = fld (fun k => v_X6_fact X (nI j) (nI k)) c k) → (4 - k) < n → WX K (xw G) 5 X 82 [(0, .ref (G.1 0)), (1, .long d), (3, .int i), (4, .int x)] [] := by
                      intro n
                      induction n with
                      | zero => intro d x k hk hx hd hmu82; exact absurd hmu82 (Nat.not_lt_zero _)
                      | succ n82 ih82 =>
                        intro d x k hk hx hd hmu82
                        refine x_iload C (pc := 82) dX8_digest_82 3 rfl ?_
                        refine x_iconst C (pc := 84) (v := 4) dX8_digest_84 (by decide) ?_
                        refine x_icmp_ge C (pc := 85) (tgt := 112) dX8_digest_85 (by decide) (fun c85 => ?_) (fun c85 => ?_)
                        · have hge : 4 ≤ k := geN hx (rfl : (4 : Int32) = nI 4) c85 (by omega)
                          have hk4 : k = 4 := by omega
                          have hd2 : d = fld (fun k => v_X6_fact X (nI j) (nI k)) c 4 := by rw [hd, hk4]
                          refine x_iinc C (pc := 112) (v := i + 1) dX8_digest_112 2 [(0, .ref (G.1 0)), (1, .long d), (3, .int (i + 1)), (4, .int x)] [1, 2, 0, 3] rfl (by rfl) (by decide) rfl ?_
                          refine x_goto C (pc := 115) (tgt := 68) dX8_digest_115 (by decide) ?_
                          refine x_sub [(0, .ref (G.1 0)), (1, .long d), (3, .int (i + 1))] [0, 1, 2] rfl ?_
                          exact ih68 d (i + 1) (j + 1) (by omega) (by rw [hi]; exact nI_1 j) (by rw [dgB, hd2, hc]) (by omega)
                        · have hkl : k < 4 := ltN hx (rfl : (4 : Int32) = nI 4) c85 (by omega)
                          refine x_ldc2 C (pc := 88) dX8_digest_88 k_X8_334 ?_
                          refine x_lload_n C (pc := 91) dX8_digest_91 1 rfl rfl ?_
                          refine x_lmul C (pc := 92) dX8_digest_92 ?_
                          refine x_aload_n C (pc := 93) dX8_digest_93 0 rfl rfl ?_
                          refine xG_tourney C fl_X8_33 dX8_digest_94 ?_
                          refine x_iload_n C (pc := 97) dX8_digest_97 2 rfl rfl ?_
                          refine x_iload C (pc := 98) dX8_digest_98 3 rfl ?_
                          refine x_callVi C (pc := 100) [.int i, .int x] (fun l D => c_X6_fact l D G X i x hin) (xe_4 G _) rfl ml_X8_222 co_X6_fact im_X6_fact se_X6_fact in_X6 hy_X6_fact (by decide) (by decide) (Nat.le_of_ble_eq_true rfl) dX8_digest_100 rfl (kx ?_)
                          refine x_i2l C (pc := 103) dX8_digest_103 ?_
                          refine x_ladd C (pc := 104) dX8_digest_104 ?_
                          refine x_lstore_n C (pc := 105) dX8_digest_105 [(0, .ref (G.1 0)), (1, .long ((31 * d) + (Int32.toInt64 (v_X6_fact X i x)))), (3, .int i), (4, .int x)] [1, 0, 2, 3] rfl (by decide) rfl ?_
                          refine x_iinc C (pc := 106) (v := x + 1) dX8_digest_106 3 [(0, .ref (G.1 0)), (1, .long ((31 * d) + (Int32.toInt64 (v_X6_fact X i x)))), (3, .int i), (4, .int (x + 1))] [1, 2, 3, 0] rfl (by rfl) (by decide) rfl ?_
                          refine x_goto C (pc := 109) (tgt := 82) dX8_digest_109 (by decide) ?_
                          exact ih82 ((31 * d) + (Int32.toInt64 (v_X6_fact X i x))) (x + 1) (k + 1) (by omega) (by rw [hx]; exact nI_1 k) (by rw [fld, hd, hi, hx]) (by omega)
                    exact L82 _ c 0 0 (Nat.zero_le _) rfl rfl (Nat.lt_succ_self _)
              exact L68 _ b 0 0 (Nat.zero_le _) rfl rfl (Nat.lt_succ_self _)
            · have hlt : j < N := ltN hi hS c40 (by omega)
              have hin : vp_in i 16 := by rw [hi]; exact vp_in_nI (by omega) (by decide)
              have hix : ix i = j := by rw [hi]; exact ix_nI (by omega)
              refine x_ldc2 C (pc := 43) dX8_digest_43 k_X8_334 ?_
              refine x_lload_n C (pc := 46) dX8_digest_46 1 rfl rfl ?_
              refine x_lmul C (pc := 47) dX8_digest_47 ?_
              refine x_aload_n C (pc := 48) dX8_digest_48 0 rfl rfl ?_
              refine xG_roster C fl_X8_19 dX8_digest_49 ?_
              refine xG_board C fl_X8_115 dX8_digest_52 ?_
              refine x_iload_n C (pc := 55) dX8_digest_55 2 rfl rfl ?_
              refine xL_board C dX8_digest_56 (by assumption) ?_
              refine x_i2l C (pc := 57) dX8_digest_57 ?_
              refine x_ladd C (pc := 58) dX8_digest_58 ?_
              refine x_lstore_n C (pc := 59) dX8_digest_59 [(0, .ref (G.1 0)), (1, .long ((31 * b) + (Int32.toInt64 (X 20 (ix i))))), (3, .int i)] [1, 0, 2] rfl (by decide) rfl ?_
              refine x_iinc C (pc := 60) (v := i + 1) dX8_digest_60 2 [(0, .ref (G.1 0)), (1, .long ((31 * b) + (Int32.toInt64 (X 20 (ix i))))), (3, .int (i + 1))] [1, 2, 0] rfl (by rfl) (by decide) rfl ?_
              refine x_goto C (pc := 63) (tgt := 32) dX8_digest_63 (by decide) ?_
              exact ih32 ((31 * b) + (Int32.toInt64 (X 20 (ix i)))) (i + 1) (j + 1) (by omega) (by rw [hi]; exact nI_1 j) (by rw [fld, hb, hix]) (by omega)
        exact L32 _ a 0 0 (Nat.zero_le _) rfl rfl (Nat.lt_succ_self _)
      · have hlt : j < E := ltN hi hE c14 (by omega)
        have hin : vp_in i 16 := by rw [hi]; exact vp_in_nI (by omega) (by decide)
        refine x_aload_n C (pc := 17) dX8_digest_17 0 rfl rfl ?_
        refine x_lload_n C (pc := 18) dX8_digest_18 1 rfl rfl ?_
        refine x_iload_n C (pc := 19) dX8_digest_19 2 rfl rfl ?_
        refine x_callVl C (pc := 20) [.long a, .int i] (fun l D => c_X8_withWrestler l D G X a i (by assumption)) (xe_0 G _) rfl ml_X8_330 co_X8_withWrestler im_X8_withWrestler se_X8_withWrestler in_X8 hy_X8_withWrestler (by decide) (by decide) (Nat.le_of_ble_eq_true rfl) dX8_digest_20 rfl (kxl ?_)
        refine x_lstore_n C (pc := 23) dX8_digest_23 [(0, .ref (G.1 0)), (1, .long (v_withW X a i)), (3, .int i)] [1, 0, 2] rfl (by decide) rfl ?_
        refine x_iinc C (pc := 24) (v := i + 1) dX8_digest_24 2 [(0, .ref (G.1 0)), (1, .long (v_withW X a i)), (3, .int (i + 1))] [1, 2, 0] rfl (by rfl) (by decide) rfl ?_
        refine x_goto C (pc := 27) (tgt := 6) dX8_digest_27 (by decide) ?_
        exact ih6 (v_withW X a i) (i + 1) (j + 1) (by omega) (by rw [hi]; exact nI_1 j) (by rw [dgW, ha, hi]) (by omega)
  exact L6 _ 17 0 0 (Nat.zero_le _) rfl rfl (Nat.lt_succ_self _)
