
theorem ux_ne (X : St) {a b : Nat} (k : Nat) (v : Int32) (h : b ≠ a) : ux X a k v b = X b := sr_n X _ h
theorem ux_s (X : St) (a k : Nat) (v : Int32) : ux X a k v a = upd (X a) k v := sr_s X a _
theorem ux_srn (X : St) {a b : Nat} (g : Nat → Int32) (k : Nat) (v : Int32) (h : a ≠ b) : ux (sr X b g) a k v = sr (ux X a k v) b g := by
  rw [ux, ux, sr_n _ _ h, sr_comm _ _ _ (Ne.symm h)]
theorem ux_srs (X : St) (a : Nat) (g : Nat → Int32) (k : Nat) (v : Int32) : ux (sr X a g) a k v = sr X a (upd g k v) := by
  rw [ux, sr_s, sr_sr]
theorem ix_nI {n : Nat} (h : n < 2 ^ 31) : ix (nI n) = n := nI_clamp h
theorem in_ix {x : Int32} {n : Nat} (h : vp_in x n) : ix x < n := Nat.not_le.mp fun q => h (Or.inr q)
theorem in_nI {x : Int32} {n : Nat} (h : vp_in x n) (hn : n < 2 ^ 31) : x = nI (ix x) := by
  obtain ⟨j, hj, rfl⟩ := vp_in_of h hn
  rw [ix_nI (by omega)]
theorem ltN {i n : Nat} {x y : Int32} (hx : x = nI i) (hy : y = nI n) (c : ¬ y ≤ x) (hi : i < 2 ^ 31) : i < n := by
  rcases Nat.lt_or_ge i n with q | q
  · exact q
  · exact absurd (by rw [hx, hy]; exact nI_le q hi) c
theorem geN {i n : Nat} {x y : Int32} (hx : x = nI i) (hy : y = nI n) (c : y ≤ x) (hn : n < 2 ^ 31) : n ≤ i := by
  rcases Nat.lt_or_ge i n with q | q
  · exact absurd c (by rw [hx, hy]; exact nI_ge q hn)
  · exact q
-- Sheets
def v_X4_isMissing (X : St) (s : Int32) : Int32 := if (X 22) (ix s) = (-1) then 1 else 0
def s_X4_blank (X : St) (s n : Int32) : St := ux (sr X (43 + ix s) (fun i => if i < 16 then vp_nar .byte 0 else X (43 + ix s) i)) 22 (ix s) n
def s_X4_replace (X : St) (s i value : Int32) : St := ux X (43 + ix s) (ix i) (vp_nar .byte value)
def v_X4_holds (X : St) (s frm n : Int32) : Int32 := if frm < 0 then 0 else if n < 0 then 0 else if (X 22) (ix s) < n then 0 else if (X 22) (ix s) - n < frm then 0 else 1
def v_X4_priceOf (X : St) (apart : Int32) : Int32 := if (X 103 0) = (-9) then apart * apart * 4 else if (X 22) (ix (X 103 0)) = (-1) then apart * apart * 4 else if (X 22) (ix (X 103 0)) = 0 then 0 else if 0 < X (43 + ix (X 103 0)) (ix (if (X 22) (ix (X 103 0)) - 1 < apart then (X 22) (ix (X 103 0)) - 1 else apart)) then X (43 + ix (X 103 0)) (ix (if (X 22) (ix (X 103 0)) - 1 < apart then (X 22) (ix (X 103 0)) - 1 else apart)) else 0
-- Tourney
def s_X6_begin (X : St) (newDays : Int32) : St := sr (ux (ux (ux (ux (ux X 104 0 1) 105 0 newDays) 106 0 0) 107 0 0) 108 0 0) 27 (fun i => if i < 16 then 0 else (X 27) i)
def v_X6_isComplete (X : St) : Int32 := if (X 104 0) = 0 then 0 else if (X 106 0) = (X 105 0) then (if (X 108 0) = 0 then 1 else 0) else 0
def v_X6_knows (X : St) (n : Int32) : Int32 := if n < 0 then 0 else if (X 107 0) ≤ n then 0 else 1
def v_X6_haveMet (X : St) (a b : Int32) : Int32 := if (X 27) (ix a) &&& (1 <<< (b &&& 31)) = 0 then 0 else 1
def s_X6_addBout (X : St) (a b : Int32) : St :=
  let Y := ux (ux (ux (ux (ux (ux X 23 (ix (X 107 0)) (X 106 0)) 24 (ix (X 107 0)) a) 25 (ix (X 107 0)) b) 26 (ix (X 107 0)) (-9)) 107 0 ((X 107 0) + 1)) 108 0 ((X 108 0) + 1)
  let Z := ux Y 27 (ix a) ((X 27) (ix a) ||| (1 <<< (b &&& 31)))
  ux Z 27 (ix b) (Z 27 (ix b) ||| (1 <<< (a &&& 31)))
def v_X6_loserOf (X : St) (n : Int32) : Int32 := if (X 26) (ix n) = (X 24) (ix n) then (X 25) (ix n) else (X 24) (ix n)
def v_X6_fact (X : St) (n what : Int32) : Int32 := if what = 0 then (X 23) (ix n) else if what = 1 then (X 24) (ix n) else if what = 2 then (X 25) (ix n) else (X 26) (ix n)
-- Custom
def s_X0_add (X : St) (a b c : Int32) : St := ux (ux (ux (ux X 32 (ix (X 112 0)) a) 33 (ix (X 112 0)) b) 34 (ix (X 112 0)) c) 112 0 ((X 112 0) + 1)
def lfr (lo hi : Nat → Int32) (s : Int32) : Nat → Nat → Int32
  | 0, _ => -9
  | n + 1, i => if s < lo i then lfr lo hi s n (i + 1) else if hi i < s then lfr lo hi s n (i + 1) else nI i
def v_X0_steps (X : St) (byLine kind : Int32) : Int32 := if byLine = (-9) then 0 else if kind = 1 then (if (X 34) (ix byLine) < (-1) then (-1) else (X 34) (ix byLine)) else if kind = 2 then (if (X 34) (ix byLine) ≤ 0 then (X 34) (ix byLine) else 2 * (X 34) (ix byLine)) else (X 34) (ix byLine)
-- Writing
def v_half (steps : Int32) : Int32 := if steps ≤ 0 then (if 0 ≤ steps then 0 else (-1)) else 1
def s_X7_aimAt (X : St) (w steps : Int32) : St := ux X 41 (ix w) (2 * ((X 36) (ix w) - steps) - v_half steps)
def v_X7_overtook (X : St) (a b : Int32) : Int32 := if (X 36) (ix a) = (-9) then 0 else if (X 36) (ix b) = (-9) then 0 else if (X 36) (ix a) ≤ (X 36) (ix b) then 0 else if (X 37) (ix b) ≤ (X 37) (ix a) then 0 else 1
-- TitleRow
def s_X5_clear (X : St) : St := ux (ux X 117 0 0) 118 0 0
def v_X5_goesOn (X : St) : Int32 := if (X 117 0) ≤ 1 then 0 else 1
def s_X5_append (X : St) (w : Int32) : St := ux (ux X 42 (ix (X 117 0)) w) 117 0 ((X 117 0) + 1)
def shf (f : Nat → Int32) (n : Nat) : Nat → Int32 := fun j => if j + 2 < n then f (j + 2) else f j
def v_won (X : St) (first : Int32) : Int32 := if first = 0 then (X 42) 1 else (X 42) 0
def s_X5_settle (X : St) (first : Int32) : St := ux (ux (sr X 42 (shf (X 42) (ix (X 117 0)))) 42 (ix ((X 117 0) - 2)) (v_won X first)) 117 0 ((X 117 0) - 1)
theorem shf_2 (f : Nat → Int32) : shf f 2 = f := by
  funext j
  simp only [shf]
  rw [if_neg (by omega)]
theorem shf_step (f : Nat → Int32) {n : Nat} (h : 2 ≤ n) : upd (shf f n) (n - 2) (shf f n n) = shf f (n + 1) := by
  funext j
  simp only [shf, upd]
  by_cases e : j = n - 2
  · subst e
    rw [if_pos rfl, if_neg (by omega), if_pos (by omega)]
    congr 1; omega
  · rw [if_neg e]
    by_cases h2 : j + 2 < n
    · rw [if_pos h2, if_pos (by omega)]
    · rw [if_neg h2, if_neg (by omega)]
set_option maxHeartbeats 4000000 in
set_option maxRecDepth 100000 in
theorem c_X4_isMissing (l : Launch) (D : va_G) (G : Gx) (X : St) (s : Int32) (hs : vp_in s 4) : Ci l yX4_isMissing cX4_isMissing 2 (some .boolean) 0 (xw G) D (tyG G) [.ref (G.1 3), .int s] X (fun r X1 => r = (v_X4_isMissing X s) ∧ X1 = X) := by
  refine m_z (nL := 2) (lv := [(0, .ref (G.1 3)), (1, .int s)]) [.ref (G.1 3), .int s] RX4 rfl (xw_adr G) (by decide +kernel) (Nat.le_of_ble_eq_true rfl) rfl (fun K C ret => ?_)
  refine x_aload_n C (pc := 0) dX4_isMissing_0 0 rfl rfl ?_
  refine xG_ssize C fl_X4_16 dX4_isMissing_1 ?_
  refine x_iload_n C (pc := 4) dX4_isMissing_4 1 rfl rfl ?_
  refine xL_ssize C dX4_isMissing_5 (by assumption) ?_
  refine x_iconst C (pc := 6) (v := (-1)) dX4_isMissing_6 (by decide) ?_
  refine x_icmp_ne C (pc := 7) (tgt := 14) dX4_isMissing_7 (by decide) (fun c7 => ?_) (fun c7 => ?_)
  · refine x_iconst C (pc := 14) (v := 0) dX4_isMissing_14 (by decide) ?_
    exact ret 0 X 15 _ dX4_isMissing_15 rfl ⟨by simp [v_X4_isMissing, *], rfl⟩
  · refine x_iconst C (pc := 10) (v := 1) dX4_isMissing_10 (by decide) ?_
    refine x_goto C (pc := 11) (tgt := 15) dX4_isMissing_11 (by decide) ?_
    exact ret 1 X 15 _ dX4_isMissing_15 rfl ⟨by simp [v_X4_isMissing, *], rfl⟩
set_option maxHeartbeats 4000000 in
set_option maxRecDepth 100000 in
theorem c_X4_blank (l : Launch) (D : va_G) (G : Gx) (X : St) (s : Int32) (n : Int32) (hs : vp_in s 4) : Cv l yX4_blank cX4_blank 3 none 1 (xw G) D (tyG G) [.ref (G.1 3), .int s, .int n] X (fun X1 => X1 = (s_X4_blank X s n)) := by
  refine m_v (nL := 3) (lv := [(0, .ref (G.1 3)), (1, .int s), (2, .int n)]) [.ref (G.1 3), .int s, .int n] RX4 rfl (xw_adr G) (by decide +kernel) (Nat.le_of_ble_eq_true rfl) rfl (fun K C ret => ?_)
  refine x_aload_n C (pc := 0) dX4_blank_0 0 rfl rfl ?_
  refine xG_bytes C fl_X4_11 dX4_blank_1 ?_
  refine x_iload_n C (pc := 4) dX4_blank_4 1 rfl rfl ?_
  refine xL_bytes C dX4_blank_5 (by assumption) ?_
  refine x_iconst C (pc := 6) (v := 0) dX4_blank_6 (by decide) ?_
  refine x_callSv C (pc := 7) [.ref (G.1 (43 + ix s)), .int 0] (fun l D => c_fillB l D (xw_adr G) (xi_bytes G (by exact in_ix (by assumption))) 2 rfl (by decide) X 0) ml_X4_30 co_J7_fill_031fb st_J7_fill_031fb in_J7 hy_J7_fill_031fb (by decide) (by decide) (Nat.le_of_ble_eq_true rfl) dX4_blank_7 rfl (kxv ?_)
  refine x_aload_n C (pc := 10) dX4_blank_10 0 rfl rfl ?_
  refine xG_ssize C fl_X4_16 dX4_blank_11 ?_
  refine x_iload_n C (pc := 14) dX4_blank_14 1 rfl rfl ?_
  refine x_iload_n C (pc := 15) dX4_blank_15 2 rfl rfl ?_
  refine xS_ssize C dX4_blank_16 (by assumption) ?_
  exact ret (ux (sr X (43 + ix s) (fun i => if i < 16 then vp_nar .byte 0 else X (43 + ix s) i)) 22 (ix s) n) 17 _ dX4_blank_17 rfl
set_option maxHeartbeats 4000000 in
set_option maxRecDepth 100000 in
theorem c_X4_replace (l : Launch) (D : va_G) (G : Gx) (X : St) (s : Int32) (i : Int32) (value : Int32) (hs : vp_in s 4) (hi : vp_in i 16) : Ci l yX4_replace cX4_replace 5 (some .int) 0 (xw G) D (tyG G) [.ref (G.1 3), .int s, .int i, .int value] X (fun r X1 => r = (X (43 + ix s) (ix i)) ∧ X1 = (s_X4_replace X s i value)) := by
  refine m_i (nL := 5) (lv := [(0, .ref (G.1 3)), (1, .int s), (2, .int i), (3, .int value)]) [.ref (G.1 3), .int s, .int i, .int value] RX4 rfl (xw_adr G) (by decide +kernel) (Nat.le_of_ble_eq_true rfl) rfl (fun K C ret => ?_)
  refine x_aload_n C (pc := 0) dX4_replace_0 0 rfl rfl ?_
  refine xG_bytes C fl_X4_11 dX4_replace_1 ?_
  refine x_iload_n C (pc := 4) dX4_replace_4 1 rfl rfl ?_
  refine xL_bytes C dX4_replace_5 (by assumption) ?_
  refine x_iload_n C (pc := 6) dX4_replace_6 2 rfl rfl ?_
  refine xLL_bytes C dX4_replace_7 (in_ix hs) (by assumption) ?_
  refine x_istore C (pc := 8) dX4_replace_8 [(0, .ref (G.1 3)), (1, .int s), (2, .int i), (3, .int value), (4, .int (X (43 + ix s) (ix i)))] [1, 2, 3, 4, 0] (by decide) rfl ?_
  refine x_aload_n C (pc := 10) dX4_replace_10 0 rfl rfl ?_
  refine xG_bytes C fl_X4_11 dX4_replace_11 ?_
  refine x_iload_n C (pc := 14) dX4_replace_14 1 rfl rfl ?_
  refine xL_bytes C dX4_replace_15 (by assumption) ?_
  refine x_iload_n C (pc := 16) dX4_replace_16 2 rfl rfl ?_
  refine x_iload_n C (pc := 17) dX4_replace_17 3 rfl rfl ?_
  refine xSS_bytes C dX4_replace_18 (in_ix hs) (by assumption) ?_
  refine x_iload C (pc := 19) dX4_replace_19 4 rfl ?_
  exact ret (X (43 + ix s) (ix i)) (ux X (43 + ix s) (ix i) (vp_nar .byte value)) 21 _ dX4_replace_21 ⟨rfl, rfl⟩
set_option maxHeartbeats 4000000 in
set_option maxRecDepth 100000 in
theorem c_X4_holds (l : Launch) (D : va_G) (G : Gx) (X : St) (s : Int32) (frm : Int32) (n : Int32) (hs : vp_in s 4) : Ci l yX4_holds cX4_holds 4 (some .boolean) 0 (xw G) D (tyG G) [.ref (G.1 3), .int s, .int frm, .int n] X (fun r X1 => r = (v_X4_holds X s frm n) ∧ X1 = X) := by
  refine m_z (nL := 4) (lv := [(0, .ref (G.1 3)), (1, .int s), (2, .int frm), (3, .int n)]) [.ref (G.1 3), .int s, .int frm, .int n] RX4 rfl (xw_adr G) (by decide +kernel) (Nat.le_of_ble_eq_true rfl) rfl (fun K C ret => ?_)
  refine x_iload_n C (pc := 0) dX4_holds_0 2 rfl rfl ?_
  refine x_if_lt C (pc := 1) (tgt := 34) dX4_holds_1 (by decide) (fun c1 => ?_) (fun c1 => ?_)
  · refine x_iconst C (pc := 34) (v := 0) dX4_holds_34 (by decide) ?_
    exact ret 0 X 35 _ dX4_holds_35 rfl ⟨by simp [v_X4_holds, *], rfl⟩
  · refine x_iload_n C (pc := 4) dX4_holds_4 3 rfl rfl ?_
    refine x_if_lt C (pc := 5) (tgt := 34) dX4_holds_5 (by decide) (fun c5 => ?_) (fun c5 => ?_)
    · refine x_iconst C (pc := 34) (v := 0) dX4_holds_34 (by decide) ?_
      exact ret 0 X 35 _ dX4_holds_35 rfl ⟨by simp [v_X4_holds, *], rfl⟩
    · refine x_iload_n C (pc := 8) dX4_holds_8 3 rfl rfl ?_
      refine x_aload_n C (pc := 9) dX4_holds_9 0 rfl rfl ?_
      refine xG_ssize C fl_X4_16 dX4_holds_10 ?_
      refine x_iload_n C (pc := 13) dX4_holds_13 1 rfl rfl ?_
      refine xL_ssize C dX4_holds_14 (by assumption) ?_
      refine x_icmp_gt C (pc := 15) (tgt := 34) dX4_holds_15 (by decide) (fun c15 => ?_) (fun c15 => ?_)
      · refine x_iconst C (pc := 34) (v := 0) dX4_holds_34 (by decide) ?_
        exact ret 0 X 35 _ dX4_holds_35 rfl ⟨by simp [v_X4_holds, *], rfl⟩
      · refine x_iload_n C (pc := 18) dX4_holds_18 2 rfl rfl ?_
        refine x_aload_n C (pc := 19) dX4_holds_19 0 rfl rfl ?_
        refine xG_ssize C fl_X4_16 dX4_holds_20 ?_
        refine x_iload_n C (pc := 23) dX4_holds_23 1 rfl rfl ?_
        refine xL_ssize C dX4_holds_24 (by assumption) ?_
        refine x_iload_n C (pc := 25) dX4_holds_25 3 rfl rfl ?_
        refine x_isub C (pc := 26) dX4_holds_26 ?_
        refine x_icmp_gt C (pc := 27) (tgt := 34) dX4_holds_27 (by decide) (fun c27 => ?_) (fun c27 => ?_)
        · refine x_iconst C (pc := 34) (v := 0) dX4_holds_34 (by decide) ?_
          exact ret 0 X 35 _ dX4_holds_35 rfl ⟨by simp [v_X4_holds, *], rfl⟩
        · refine x_iconst C (pc := 30) (v := 1) dX4_holds_30 (by decide) ?_
          refine x_goto C (pc := 31) (tgt := 35) dX4_holds_31 (by decide) ?_
          exact ret 1 X 35 _ dX4_holds_35 rfl ⟨by simp [v_X4_holds, *], rfl⟩
set_option maxHeartbeats 4000000 in
set_option maxRecDepth 100000 in
theorem c_X4_priceOf (l : Launch) (D : va_G) (G : Gx) (X : St) (apart : Int32) (ht : (X 103 0) ≠ (-9) → vp_in (X 103 0) 4) (hi : (X 103 0) ≠ (-9) → (X 22) (ix (X 103 0)) ≠ (-1) → (X 22) (ix (X 103 0)) ≠ 0 → vp_in (if (X 22) (ix (X 103 0)) - 1 < apart then (X 22) (ix (X 103 0)) - 1 else apart) 16) : Ci l yX4_priceOf cX4_priceOf 2 (some .int) 1 (xw G) D (tyG G) [.ref (G.1 3), .int apart] X (fun r X1 => r = (v_X4_priceOf X apart) ∧ X1 = X) := by
  refine m_i (nL := 2) (lv := [(0, .ref (G.1 3)), (1, .int apart)]) [.ref (G.1 3), .int apart] RX4 rfl (xw_adr G) (by decide +kernel) (Nat.le_of_ble_eq_true rfl) rfl (fun K C ret => ?_)
  refine x_aload_n C (pc := 0) dX4_priceOf_0 0 rfl rfl ?_
  refine xG_teller C fl_X4_20 dX4_priceOf_1 ?_
  refine x_bipush C (pc := 4) (v := (-9)) dX4_priceOf_4 (by decide) ?_
  refine x_icmp_eq C (pc := 6) (tgt := 20) dX4_priceOf_6 (by decide) (fun c6 => ?_) (fun c6 => ?_)
  · have hm : (X 103 0) = (-9) ∨ (X 22) (ix (X 103 0)) = (-1) := by first | exact Or.inl c6 | (refine Or.inr ?_; by_cases h : (X 22) (ix (X 103 0)) = (-1); exact h; exact absurd (by simp [v_X4_isMissing, h]) c17)
    refine x_iload_n C (pc := 20) dX4_priceOf_20 1 rfl rfl ?_
    refine x_iload_n C (pc := 21) dX4_priceOf_21 1 rfl rfl ?_
    refine x_imul C (pc := 22) dX4_priceOf_22 ?_
    refine x_iconst C (pc := 23) (v := 4) dX4_priceOf_23 (by decide) ?_
    refine x_imul C (pc := 24) dX4_priceOf_24 ?_
    exact ret ((apart * apart) * 4) X 25 _ dX4_priceOf_25 ⟨by rcases hm with h | h <;> simp [v_X4_priceOf, h], rfl⟩
  · have hT := ht c6
    refine x_aload_n C (pc := 9) dX4_priceOf_9 0 rfl rfl ?_
    refine x_aload_n C (pc := 10) dX4_priceOf_10 0 rfl rfl ?_
    refine xG_teller C fl_X4_20 dX4_priceOf_11 ?_
    refine x_callVi C (pc := 14) [.int (X 103 0)] (fun l D => c_X4_isMissing l D G X (X 103 0) (by assumption)) (xe_3 G _) rfl ml_X4_33 co_X4_isMissing im_X4_isMissing se_X4_isMissing in_X4 hy_X4_isMissing (by decide) (by decide) (Nat.le_of_ble_eq_true rfl) dX4_priceOf_14 rfl (kx ?_)
    refine x_if_eq C (pc := 17) (tgt := 26) dX4_priceOf_17 (by decide) (fun c17 => ?_) (fun c17 => ?_)
    · have hm : (X 22) (ix (X 103 0)) ≠ (-1) := fun h => by simp [v_X4_isMissing, h] at c17
      refine x_aload_n C (pc := 26) dX4_priceOf_26 0 rfl rfl ?_
      refine xG_ssize C fl_X4_16 dX4_priceOf_27 ?_
      refine x_aload_n C (pc := 30) dX4_priceOf_30 0 rfl rfl ?_
      refine xG_teller C fl_X4_20 dX4_priceOf_31 ?_
      refine xL_ssize C dX4_priceOf_34 (by assumption) ?_
      refine x_if_ne C (pc := 35) (tgt := 40) dX4_priceOf_35 (by decide) (fun c35 => ?_) (fun c35 => ?_)
      · refine x_iconst C (pc := 40) (v := 0) dX4_priceOf_40 (by decide) ?_
        refine x_aload_n C (pc := 41) dX4_priceOf_41 0 rfl rfl ?_
        refine xG_bytes C fl_X4_11 dX4_priceOf_42 ?_
        refine x_aload_n C (pc := 45) dX4_priceOf_45 0 rfl rfl ?_
        refine xG_teller C fl_X4_20 dX4_priceOf_46 ?_
        refine xL_bytes C dX4_priceOf_49 (by assumption) ?_
        refine x_iload_n C (pc := 50) dX4_priceOf_50 1 rfl rfl ?_
        refine x_aload_n C (pc := 51) dX4_priceOf_51 0 rfl rfl ?_
        refine xG_ssize C fl_X4_16 dX4_priceOf_52 ?_
        refine x_aload_n C (pc := 55) dX4_priceOf_55 0 rfl rfl ?_
        refine xG_teller C fl_X4_20 dX4_priceOf_56 ?_
        refine xL_ssize C dX4_priceOf_59 (by assumption) ?_
        refine x_iconst C (pc := 60) (v := 1) dX4_priceOf_60 (by decide) ?_
        refine x_isub C (pc := 61) dX4_priceOf_61 ?_
        refine x_min C (pc := 62) ml_X4_37 (by decide) (Nat.le_of_ble_eq_true rfl) dX4_priceOf_62 ?_
        refine xLL_bytes C dX4_priceOf_65 (in_ix hT) (hi c6 hm c35) ?_
        refine x_max C (pc := 66) ml_X4_43 (by decide) (Nat.le_of_ble_eq_true rfl) dX4_priceOf_66 ?_
        exact ret (if 0 < (X (43 + ix (X 103 0)) (ix (if ((X 22 (ix (X 103 0))) - 1) < apart then ((X 22 (ix (X 103 0))) - 1) else apart))) then (X (43 + ix (X 103 0)) (ix (if ((X 22 (ix (X 103 0))) - 1) < apart then ((X 22 (ix (X 103 0))) - 1) else apart))) else 0) X 69 _ dX4_priceOf_69 ⟨by simp [v_X4_priceOf, *], rfl⟩
      · refine x_iconst C (pc := 38) (v := 0) dX4_priceOf_38 (by decide) ?_
        exact ret 0 X 39 _ dX4_priceOf_39 ⟨by simp [v_X4_priceOf, *], rfl⟩
    · have hm : (X 103 0) = (-9) ∨ (X 22) (ix (X 103 0)) = (-1) := by first | exact Or.inl c6 | (refine Or.inr ?_; by_cases h : (X 22) (ix (X 103 0)) = (-1); exact h; exact absurd (by simp [v_X4_isMissing, h]) c17)
      refine x_iload_n C (pc := 20) dX4_priceOf_20 1 rfl rfl ?_
      refine x_iload_n C (pc := 21) dX4_priceOf_21 1 rfl rfl ?_
      refine x_imul C (pc := 22) dX4_priceOf_22 ?_
      refine x_iconst C (pc := 23) (v := 4) dX4_priceOf_23 (by decide) ?_
      refine x_imul C (pc := 24) dX4_priceOf_24 ?_
      exact ret ((apart * apart) * 4) X 25 _ dX4_priceOf_25 ⟨by rcases hm with h | h <;> simp [v_X4_priceOf, h], rfl⟩
set_option maxHeartbeats 4000000 in
set_option maxRecDepth 100000 in
theorem c_X6_begin (l : Launch) (D : va_G) (G : Gx) (X : St) (newDays : Int32) : Cv l yX6_begin cX6_begin 2 none 1 (xw G) D (tyG G) [.ref (G.1 4), .int newDays] X (fun X1 => X1 = (s_X6_begin X newDays)) := by
  refine m_v (nL := 2) (lv := [(0, .ref (G.1 4)), (1, .int newDays)]) [.ref (G.1 4), .int newDays] RX6 rfl (xw_adr G) (by decide +kernel) (Nat.le_of_ble_eq_true rfl) rfl (fun K C ret => ?_)
  refine x_aload_n C (pc := 0) dX6_begin_0 0 rfl rfl ?_
  refine x_iconst C (pc := 1) (v := 1) dX6_begin_1 (by decide) ?_
  refine xP_going C fl_X6_27 (v := 1) (by decide) (by decide) dX6_begin_2 ?_
  refine x_aload_n C (pc := 5) dX6_begin_5 0 rfl rfl ?_
  refine x_iload_n C (pc := 6) dX6_begin_6 1 rfl rfl ?_
  refine xP_days C fl_X6_31 (v := newDays) dX6_begin_7 ?_
  refine x_aload_n C (pc := 10) dX6_begin_10 0 rfl rfl ?_
  refine x_iconst C (pc := 11) (v := 0) dX6_begin_11 (by decide) ?_
  refine xP_drawn C fl_X6_35 (v := 0) dX6_begin_12 ?_
  refine x_aload_n C (pc := 15) dX6_begin_15 0 rfl rfl ?_
  refine x_iconst C (pc := 16) (v := 0) dX6_begin_16 (by decide) ?_
  refine xP_bouts C fl_X6_38 (v := 0) dX6_begin_17 ?_
  refine x_aload_n C (pc := 20) dX6_begin_20 0 rfl rfl ?_
  refine x_iconst C (pc := 21) (v := 0) dX6_begin_21 (by decide) ?_
  refine xP_lacking C fl_X6_41 (v := 0) dX6_begin_22 ?_
  refine x_aload_n C (pc := 25) dX6_begin_25 0 rfl rfl ?_
  refine xG_metBits C fl_X6_24 dX6_begin_26 ?_
  refine x_iconst C (pc := 29) (v := 0) dX6_begin_29 (by decide) ?_
  refine x_callSv C (pc := 30) [.ref (G.1 27), .int 0] (fun l D => c_fillI l D (xw_adr G) (xa_metBits G) 0 rfl (by decide) (ux (ux (ux (ux (ux X 104 0 1) 105 0 newDays) 106 0 0) 107 0 0) 108 0 0) 0) ml_X6_44 co_J7_fill_53178 st_J7_fill_53178 in_J7 hy_J7_fill_53178 (by decide) (by decide) (Nat.le_of_ble_eq_true rfl) dX6_begin_30 rfl (kxv ?_)
  refine x_eqX (X' := sr (ux (ux (ux (ux (ux X 104 0 1) 105 0 newDays) 106 0 0) 107 0 0) 108 0 0) 27 (fun i => if i < 16 then 0 else X 27 i)) rfl ?_
  exact ret (sr (ux (ux (ux (ux (ux X 104 0 1) 105 0 newDays) 106 0 0) 107 0 0) 108 0 0) 27 (fun i => if i < 16 then 0 else X 27 i)) 33 _ dX6_begin_33 rfl
set_option maxHeartbeats 4000000 in
set_option maxRecDepth 100000 in
theorem c_X6_isComplete (l : Launch) (D : va_G) (G : Gx) (X : St)  : Ci l yX6_isComplete cX6_isComplete 1 (some .boolean) 0 (xw G) D (tyG G) [.ref (G.1 4)] X (fun r X1 => r = (v_X6_isComplete X) ∧ X1 = X) := by
  refine m_z (nL := 1) (lv := [(0, .ref (G.1 4))]) [.ref (G.1 4)] RX6 rfl (xw_adr G) (by decide +kernel) (Nat.le_of_ble_eq_true rfl) rfl (fun K C ret => ?_)
  refine x_aload_n C (pc := 0) dX6_isComplete_0 0 rfl rfl ?_
  refine xG_going C fl_X6_27 dX6_isComplete_1 ?_
  refine x_if_eq C (pc := 4) (tgt := 29) dX6_isComplete_4 (by decide) (fun c4 => ?_) (fun c4 => ?_)
  · refine x_iconst C (pc := 29) (v := 0) dX6_isComplete_29 (by decide) ?_
    exact ret 0 X 30 _ dX6_isComplete_30 rfl ⟨by simp [v_X6_isComplete, *], rfl⟩
  · refine x_aload_n C (pc := 7) dX6_isComplete_7 0 rfl rfl ?_
    refine xG_drawn C fl_X6_35 dX6_isComplete_8 ?_
    refine x_aload_n C (pc := 11) dX6_isComplete_11 0 rfl rfl ?_
    refine xG_days C fl_X6_31 dX6_isComplete_12 ?_
    refine x_icmp_ne C (pc := 15) (tgt := 29) dX6_isComplete_15 (by decide) (fun c15 => ?_) (fun c15 => ?_)
    · refine x_iconst C (pc := 29) (v := 0) dX6_isComplete_29 (by decide) ?_
      exact ret 0 X 30 _ dX6_isComplete_30 rfl ⟨by simp [v_X6_isComplete, *], rfl⟩
    · refine x_aload_n C (pc := 18) dX6_isComplete_18 0 rfl rfl ?_
      refine xG_lacking C fl_X6_41 dX6_isComplete_19 ?_
      refine x_if_ne C (pc := 22) (tgt := 29) dX6_isComplete_22 (by decide) (fun c22 => ?_) (fun c22 => ?_)
      · refine x_iconst C (pc := 29) (v := 0) dX6_isComplete_29 (by decide) ?_
        exact ret 0 X 30 _ dX6_isComplete_30 rfl ⟨by simp [v_X6_isComplete, *], rfl⟩
      · refine x_iconst C (pc := 25) (v := 1) dX6_isComplete_25 (by decide) ?_
        refine x_goto C (pc := 26) (tgt := 30) dX6_isComplete_26 (by decide) ?_
        exact ret 1 X 30 _ dX6_isComplete_30 rfl ⟨by simp [v_X6_isComplete, *], rfl⟩
set_option maxHeartbeats 4000000 in
set_option maxRecDepth 100000 in
theorem c_X6_knows (l : Launch) (D : va_G) (G : Gx) (X : St) (n : Int32) : Ci l yX6_knows cX6_knows 2 (some .boolean) 0 (xw G) D (tyG G) [.ref (G.1 4), .int n] X (fun r X1 => r = (v_X6_knows X n) ∧ X1 = X) := by
  refine m_z (nL := 2) (lv := [(0, .ref (G.1 4)), (1, .int n)]) [.ref (G.1 4), .int n] RX6 rfl (xw_adr G) (by decide +kernel) (Nat.le_of_ble_eq_true rfl) rfl (fun K C ret => ?_)
  refine x_iload_n C (pc := 0) dX6_knows_0 1 rfl rfl ?_
  refine x_if_lt C (pc := 1) (tgt := 16) dX6_knows_1 (by decide) (fun c1 => ?_) (fun c1 => ?_)
  · refine x_iconst C (pc := 16) (v := 0) dX6_knows_16 (by decide) ?_
    exact ret 0 X 17 _ dX6_knows_17 rfl ⟨by simp [v_X6_knows, *], rfl⟩
  · refine x_iload_n C (pc := 4) dX6_knows_4 1 rfl rfl ?_
    refine x_aload_n C (pc := 5) dX6_knows_5 0 rfl rfl ?_
    refine xG_bouts C fl_X6_38 dX6_knows_6 ?_
    refine x_icmp_ge C (pc := 9) (tgt := 16) dX6_knows_9 (by decide) (fun c9 => ?_) (fun c9 => ?_)
    · refine x_iconst C (pc := 16) (v := 0) dX6_knows_16 (by decide) ?_
      exact ret 0 X 17 _ dX6_knows_17 rfl ⟨by simp [v_X6_knows, *], rfl⟩
    · refine x_iconst C (pc := 12) (v := 1) dX6_knows_12 (by decide) ?_
      refine x_goto C (pc := 13) (tgt := 17) dX6_knows_13 (by decide) ?_
      exact ret 1 X 17 _ dX6_knows_17 rfl ⟨by simp [v_X6_knows, *], rfl⟩
set_option maxHeartbeats 4000000 in
set_option maxRecDepth 100000 in
theorem c_X6_haveMet (l : Launch) (D : va_G) (G : Gx) (X : St) (a : Int32) (b : Int32) (ha : vp_in a 16) : Ci l yX6_haveMet cX6_haveMet 3 (some .boolean) 0 (xw G) D (tyG G) [.ref (G.1 4), .int a, .int b] X (fun r X1 => r = (v_X6_haveMet X a b) ∧ X1 = X) := by
  refine m_z (nL := 3) (lv := [(0, .ref (G.1 4)), (1, .int a), (2, .int b)]) [.ref (G.1 4), .int a, .int b] RX6 rfl (xw_adr G) (by decide +kernel) (Nat.le_of_ble_eq_true rfl) rfl (fun K C ret => ?_)
  refine x_aload_n C (pc := 0) dX6_haveMet_0 0 rfl rfl ?_
  refine xG_metBits C fl_X6_24 dX6_haveMet_1 ?_
  refine x_iload_n C (pc := 4) dX6_haveMet_4 1 rfl rfl ?_
  refine xL_metBits C dX6_haveMet_5 (by assumption) ?_
  refine x_iconst C (pc := 6) (v := 1) dX6_haveMet_6 (by decide) ?_
  refine x_iload_n C (pc := 7) dX6_haveMet_7 2 rfl rfl ?_
  refine x_ishl C (pc := 8) dX6_haveMet_8 ?_
  refine x_iand C (pc := 9) dX6_haveMet_9 ?_
  refine x_if_eq C (pc := 10) (tgt := 17) dX6_haveMet_10 (by decide) (fun c10 => ?_) (fun c10 => ?_)
  · refine x_iconst C (pc := 17) (v := 0) dX6_haveMet_17 (by decide) ?_
    exact ret 0 X 18 _ dX6_haveMet_18 rfl ⟨by simp [v_X6_haveMet, *], rfl⟩
  · refine x_iconst C (pc := 13) (v := 1) dX6_haveMet_13 (by decide) ?_
    refine x_goto C (pc := 14) (tgt := 18) dX6_haveMet_14 (by decide) ?_
    exact ret 1 X 18 _ dX6_haveMet_18 rfl ⟨by simp [v_X6_haveMet, *], rfl⟩
set_option maxHeartbeats 4000000 in
set_option maxRecDepth 100000 in
theorem c_X6_addBout (l : Launch) (D : va_G) (G : Gx) (X : St) (a : Int32) (b : Int32) (hb : vp_in (X 107 0) 120) (ha : vp_in a 16) (hb2 : vp_in b 16) : Cv l yX6_addBout cX6_addBout 3 none 0 (xw G) D (tyG G) [.ref (G.1 4), .int a, .int b] X (fun X1 => X1 = (s_X6_addBout X a b)) := by
  refine m_v (nL := 3) (lv := [(0, .ref (G.1 4)), (1, .int a), (2, .int b)]) [.ref (G.1 4), .int a, .int b] RX6 rfl (xw_adr G) (by decide +kernel) (Nat.le_of_ble_eq_true rfl) rfl (fun K C ret => ?_)
  refine x_aload_n C (pc := 0) dX6_addBout_0 0 rfl rfl ?_
  refine xG_day C fl_X6_9 dX6_addBout_1 ?_
  refine x_aload_n C (pc := 4) dX6_addBout_4 0 rfl rfl ?_
  refine xG_bouts C fl_X6_38 dX6_addBout_5 ?_
  refine x_aload_n C (pc := 8) dX6_addBout_8 0 rfl rfl ?_
  refine xG_drawn C fl_X6_35 dX6_addBout_9 ?_
  refine xS_day C dX6_addBout_12 (by assumption) ?_
  refine x_aload_n C (pc := 13) dX6_addBout_13 0 rfl rfl ?_
  refine xG_upper C fl_X6_15 dX6_addBout_14 ?_
  refine x_aload_n C (pc := 17) dX6_addBout_17 0 rfl rfl ?_
  refine xG_bouts C fl_X6_38 dX6_addBout_18 ?_
  refine x_top (y := (X 107 0)) rfl ?_
  refine x_iload_n C (pc := 21) dX6_addBout_21 1 rfl rfl ?_
  refine xS_upper C dX6_addBout_22 (by assumption) ?_
  refine x_aload_n C (pc := 23) dX6_addBout_23 0 rfl rfl ?_
  refine xG_lower C fl_X6_18 dX6_addBout_24 ?_
  refine x_aload_n C (pc := 27) dX6_addBout_27 0 rfl rfl ?_
  refine xG_bouts C fl_X6_38 dX6_addBout_28 ?_
  refine x_top (y := (X 107 0)) rfl ?_
  refine x_iload_n C (pc := 31) dX6_addBout_31 2 rfl rfl ?_
  refine xS_lower C dX6_addBout_32 (by assumption) ?_
  refine x_aload_n C (pc := 33) dX6_addBout_33 0 rfl rfl ?_
  refine xG_winner C fl_X6_21 dX6_addBout_34 ?_
  refine x_aload_n C (pc := 37) dX6_addBout_37 0 rfl rfl ?_
  refine xG_bouts C fl_X6_38 dX6_addBout_38 ?_
  refine x_top (y := (X 107 0)) rfl ?_
  refine x_bipush C (pc := 41) (v := (-9)) dX6_addBout_41 (by decide) ?_
  refine xS_winner C dX6_addBout_43 (by assumption) ?_
  refine x_aload_n C (pc := 44) dX6_addBout_44 0 rfl rfl ?_
  refine x_dup C (pc := 45) dX6_addBout_45 rfl ?_
  refine xG_bouts C fl_X6_38 dX6_addBout_46 ?_
  refine x_top (y := (X 107 0)) rfl ?_
  refine x_iconst C (pc := 49) (v := 1) dX6_addBout_49 (by decide) ?_
  refine x_iadd C (pc := 50) dX6_addBout_50 ?_
  refine xP_bouts C fl_X6_38 (v := (X 107 0) + 1) dX6_addBout_51 ?_
  refine x_aload_n C (pc := 54) dX6_addBout_54 0 rfl rfl ?_
  refine x_dup C (pc := 55) dX6_addBout_55 rfl ?_
  refine xG_lacking C fl_X6_41 dX6_addBout_56 ?_
  refine x_top (y := (X 108 0)) rfl ?_
  refine x_iconst C (pc := 59) (v := 1) dX6_addBout_59 (by decide) ?_
  refine x_iadd C (pc := 60) dX6_addBout_60 ?_
  refine xP_lacking C fl_X6_41 (v := (X 108 0) + 1) dX6_addBout_61 ?_
  refine x_aload_n C (pc := 64) dX6_addBout_64 0 rfl rfl ?_
  refine xG_metBits C fl_X6_24 dX6_addBout_65 ?_
  refine x_iload_n C (pc := 68) dX6_addBout_68 1 rfl rfl ?_
  refine x_dup2 C (pc := 69) dX6_addBout_69 rfl rfl ?_
  refine xL_metBits C dX6_addBout_70 (by assumption) ?_
  refine x_top (y := (X 27 (ix a))) rfl ?_
  refine x_iconst C (pc := 71) (v := 1) dX6_addBout_71 (by decide) ?_
  refine x_iload_n C (pc := 72) dX6_addBout_72 2 rfl rfl ?_
  refine x_ishl C (pc := 73) dX6_addBout_73 ?_
  refine x_ior C (pc := 74) dX6_addBout_74 ?_
  refine xS_metBits C dX6_addBout_75 (by assumption) ?_
  refine x_aload_n C (pc := 76) dX6_addBout_76 0 rfl rfl ?_
  refine xG_metBits C fl_X6_24 dX6_addBout_77 ?_
  refine x_iload_n C (pc := 80) dX6_addBout_80 2 rfl rfl ?_
  refine x_dup2 C (pc := 81) dX6_addBout_81 rfl rfl ?_
  refine xL_metBits C dX6_addBout_82 (by assumption) ?_
  refine x_iconst C (pc := 83) (v := 1) dX6_addBout_83 (by decide) ?_
  refine x_iload_n C (pc := 84) dX6_addBout_84 1 rfl rfl ?_
  refine x_ishl C (pc := 85) dX6_addBout_85 ?_
  refine x_ior C (pc := 86) dX6_addBout_86 ?_
  refine xS_metBits C dX6_addBout_87 (by assumption) ?_
  exact ret (ux (ux (ux (ux (ux (ux (ux (ux X 23 (ix (X 107 0)) (X 106 0)) 24 (ix (X 107 0)) a) 25 (ix (X 107 0)) b) 26 (ix (X 107 0)) (-9)) 107 0 ((X 107 0) + 1)) 108 0 ((X 108 0) + 1)) 27 (ix a) ((X 27 (ix a)) ||| (1 <<< (b &&& 31)))) 27 (ix b) (((ux (ux (ux (ux (ux (ux (ux X 23 (ix (X 107 0)) (X 106 0)) 24 (ix (X 107 0)) a) 25 (ix (X 107 0)) b) 26 (ix (X 107 0)) (-9)) 107 0 ((X 107 0) + 1)) 108 0 ((X 108 0) + 1)) 27 (ix a) ((X 27 (ix a)) ||| (1 <<< (b &&& 31)))) 27 (ix b)) ||| (1 <<< (a &&& 31)))) 88 _ dX6_addBout_88 rfl
set_option maxHeartbeats 4000000 in
set_option maxRecDepth 100000 in
theorem c_X6_loserOf (l : Launch) (D : va_G) (G : Gx) (X : St) (n : Int32) (hn : vp_in n 120) : Ci l yX6_loserOf cX6_loserOf 2 (some .int) 0 (xw G) D (tyG G) [.ref (G.1 4), .int n] X (fun r X1 => r = (v_X6_loserOf X n) ∧ X1 = X) := by
  refine m_i (nL := 2) (lv := [(0, .ref (G.1 4)), (1, .int n)]) [.ref (G.1 4), .int n] RX6 rfl (xw_adr G) (by decide +kernel) (Nat.le_of_ble_eq_true rfl) rfl (fun K C ret => ?_)
  refine x_aload_n C (pc := 0) dX6_loserOf_0 0 rfl rfl ?_
  refine xG_winner C fl_X6_21 dX6_loserOf_1 ?_
  refine x_iload_n C (pc := 4) dX6_loserOf_4 1 rfl rfl ?_
  refine xL_winner C dX6_loserOf_5 (by assumption) ?_
  refine x_aload_n C (pc := 6) dX6_loserOf_6 0 rfl rfl ?_
  refine xG_upper C fl_X6_15 dX6_loserOf_7 ?_
  refine x_iload_n C (pc := 10) dX6_loserOf_10 1 rfl rfl ?_
  refine xL_upper C dX6_loserOf_11 (by assumption) ?_
  refine x_icmp_ne C (pc := 12) (tgt := 24) dX6_loserOf_12 (by decide) (fun c12 => ?_) (fun c12 => ?_)
  · refine x_aload_n C (pc := 24) dX6_loserOf_24 0 rfl rfl ?_
    refine xG_upper C fl_X6_15 dX6_loserOf_25 ?_
    refine x_iload_n C (pc := 28) dX6_loserOf_28 1 rfl rfl ?_
    refine xL_upper C dX6_loserOf_29 (by assumption) ?_
    exact ret (X 24 (ix n)) X 30 _ dX6_loserOf_30 ⟨by simp [v_X6_loserOf, *], rfl⟩
  · refine x_aload_n C (pc := 15) dX6_loserOf_15 0 rfl rfl ?_
    refine xG_lower C fl_X6_18 dX6_loserOf_16 ?_
    refine x_iload_n C (pc := 19) dX6_loserOf_19 1 rfl rfl ?_
    refine xL_lower C dX6_loserOf_20 (by assumption) ?_
    refine x_goto C (pc := 21) (tgt := 30) dX6_loserOf_21 (by decide) ?_
    exact ret (X 25 (ix n)) X 30 _ dX6_loserOf_30 ⟨by simp [v_X6_loserOf, *], rfl⟩
set_option maxHeartbeats 4000000 in
set_option maxRecDepth 100000 in
theorem c_X6_fact (l : Launch) (D : va_G) (G : Gx) (X : St) (n : Int32) (what : Int32) (hn : vp_in n 120) : Ci l yX6_fact cX6_fact 3 (some .int) 0 (xw G) D (tyG G) [.ref (G.1 4), .int n, .int what] X (fun r X1 => r = (v_X6_fact X n what) ∧ X1 = X) := by
  refine m_i (nL := 3) (lv := [(0, .ref (G.1 4)), (1, .int n), (2, .int what)]) [.ref (G.1 4), .int n, .int what] RX6 rfl (xw_adr G) (by decide +kernel) (Nat.le_of_ble_eq_true rfl) rfl (fun K C ret => ?_)
  refine x_iload_n C (pc := 0) dX6_fact_0 2 rfl rfl ?_
  rcases tsw what 2 (by decide) with h1 | ⟨j1, hj1, h1⟩
  · refine x_tout C (pc := 1) (tgt := 49) dX6_fact_1 h1 (by decide) ?_
    have q1_0 : what ≠ 0 := sw_ne h1 0 (by decide) (by decide)
    have q1_1 : what ≠ 1 := sw_ne h1 1 (by decide) (by decide)
    have q1_2 : what ≠ 2 := sw_ne h1 2 (by decide) (by decide)
    refine x_aload_n C (pc := 49) dX6_fact_49 0 rfl rfl ?_
    refine xG_winner C fl_X6_21 dX6_fact_50 ?_
    refine x_iload_n C (pc := 53) dX6_fact_53 1 rfl rfl ?_
    refine xL_winner C dX6_fact_54 (by assumption) ?_
    exact ret (X 26 (ix n)) X 55 _ dX6_fact_55 ⟨by simp [v_X6_fact, *], rfl⟩
  · rcases (show j1 = 0 ∨ j1 = 1 ∨ j1 = 2 by omega) with e1 | e1 | e1
    · subst e1
      have q1 : what = 0 := sw_eq h1 (by decide)
      refine x_tin C (pc := 1) (off := 27) (tgt := 28) dX6_fact_1 (by rw [h1]; decide) (by rw [h1]; decide) (by rw [h1]; rfl) (by decide) ?_
      refine x_aload_n C (pc := 28) dX6_fact_28 0 rfl rfl ?_
      refine xG_day C fl_X6_9 dX6_fact_29 ?_
      refine x_iload_n C (pc := 32) dX6_fact_32 1 rfl rfl ?_
      refine xL_day C dX6_fact_33 (by assumption) ?_
      exact ret (X 23 (ix n)) X 34 _ dX6_fact_34 ⟨by simp [v_X6_fact, *], rfl⟩
    · subst e1
      have q1 : what = 1 := sw_eq h1 (by decide)
      refine x_tin C (pc := 1) (off := 34) (tgt := 35) dX6_fact_1 (by rw [h1]; decide) (by rw [h1]; decide) (by rw [h1]; rfl) (by decide) ?_
      refine x_aload_n C (pc := 35) dX6_fact_35 0 rfl rfl ?_
      refine xG_upper C fl_X6_15 dX6_fact_36 ?_
      refine x_iload_n C (pc := 39) dX6_fact_39 1 rfl rfl ?_
      refine xL_upper C dX6_fact_40 (by assumption) ?_
      exact ret (X 24 (ix n)) X 41 _ dX6_fact_41 ⟨by simp [v_X6_fact, *], rfl⟩
    · subst e1
      have q1 : what = 2 := sw_eq h1 (by decide)
      refine x_tin C (pc := 1) (off := 41) (tgt := 42) dX6_fact_1 (by rw [h1]; decide) (by rw [h1]; decide) (by rw [h1]; rfl) (by decide) ?_
      refine x_aload_n C (pc := 42) dX6_fact_42 0 rfl rfl ?_
      refine xG_lower C fl_X6_18 dX6_fact_43 ?_
      refine x_iload_n C (pc := 46) dX6_fact_46 1 rfl rfl ?_
      refine xL_lower C dX6_fact_47 (by assumption) ?_
      exact ret (X 25 (ix n)) X 48 _ dX6_fact_48 ⟨by simp [v_X6_fact, *], rfl⟩
set_option maxHeartbeats 4000000 in
set_option maxRecDepth 100000 in
theorem c_X0_add (l : Launch) (D : va_G) (G : Gx) (X : St) (a : Int32) (b : Int32) (c : Int32) (hl : vp_in (X 112 0) 12) : Ci l yX0_add cX0_add 4 (some .int) 0 (xw G) D (tyG G) [.ref (G.1 6), .int a, .int b, .int c] X (fun r X1 => r = ((X 112 0) + 1 - 1) ∧ X1 = (s_X0_add X a b c)) := by
  refine m_i (nL := 4) (lv := [(0, .ref (G.1 6)), (1, .int a), (2, .int b), (3, .int c)]) [.ref (G.1 6), .int a, .int b, .int c] RX0 rfl (xw_adr G) (by decide +kernel) (Nat.le_of_ble_eq_true rfl) rfl (fun K C ret => ?_)
  refine x_aload_n C (pc := 0) dX0_add_0 0 rfl rfl ?_
  refine xG_low C fl_X0_9 dX0_add_1 ?_
  refine x_aload_n C (pc := 4) dX0_add_4 0 rfl rfl ?_
  refine xG_lines C fl_X0_21 dX0_add_5 ?_
  refine x_iload_n C (pc := 8) dX0_add_8 1 rfl rfl ?_
  refine xS_low C dX0_add_9 (by assumption) ?_
  refine x_aload_n C (pc := 10) dX0_add_10 0 rfl rfl ?_
  refine xG_high C fl_X0_15 dX0_add_11 ?_
  refine x_aload_n C (pc := 14) dX0_add_14 0 rfl rfl ?_
  refine xG_lines C fl_X0_21 dX0_add_15 ?_
  refine x_top (y := (X 112 0)) rfl ?_
  refine x_iload_n C (pc := 18) dX0_add_18 2 rfl rfl ?_
  refine xS_high C dX0_add_19 (by assumption) ?_
  refine x_aload_n C (pc := 20) dX0_add_20 0 rfl rfl ?_
  refine xG_up C fl_X0_18 dX0_add_21 ?_
  refine x_aload_n C (pc := 24) dX0_add_24 0 rfl rfl ?_
  refine xG_lines C fl_X0_21 dX0_add_25 ?_
  refine x_top (y := (X 112 0)) rfl ?_
  refine x_iload_n C (pc := 28) dX0_add_28 3 rfl rfl ?_
  refine xS_up C dX0_add_29 (by assumption) ?_
  refine x_aload_n C (pc := 30) dX0_add_30 0 rfl rfl ?_
  refine x_dup C (pc := 31) dX0_add_31 rfl ?_
  refine xG_lines C fl_X0_21 dX0_add_32 ?_
  refine x_top (y := (X 112 0)) rfl ?_
  refine x_iconst C (pc := 35) (v := 1) dX0_add_35 (by decide) ?_
  refine x_iadd C (pc := 36) dX0_add_36 ?_
  refine xP_lines C fl_X0_21 (v := (X 112 0) + 1) dX0_add_37 ?_
  refine x_aload_n C (pc := 40) dX0_add_40 0 rfl rfl ?_
  refine xG_lines C fl_X0_21 dX0_add_41 ?_
  refine x_top (y := (X 112 0) + 1) rfl ?_
  refine x_iconst C (pc := 44) (v := 1) dX0_add_44 (by decide) ?_
  refine x_isub C (pc := 45) dX0_add_45 ?_
  exact ret (((X 112 0) + 1) - 1) (ux (ux (ux (ux X 32 (ix (X 112 0)) a) 33 (ix (X 112 0)) b) 34 (ix (X 112 0)) c) 112 0 ((X 112 0) + 1)) 46 _ dX0_add_46 ⟨rfl, rfl⟩
set_option maxHeartbeats 4000000 in
set_option maxRecDepth 100000 in
theorem c_X0_lineFor (l : Launch) (D : va_G) (G : Gx) (N : Nat) (X : St) (score : Int32) (many : Int32) (hN : N ≤ 12) (hm : many = nI N) : Ci l yX0_lineFor cX0_lineFor 4 (some .int) 0 (xw G) D (tyG G) [.ref (G.1 6), .int score, .int many] X (fun r X1 => r = (lfr (X 32) (X 33) score N 0) ∧ X1 = X) := by
  refine m_i (nL := 4) (lv := [(0, .ref (G.1 6)), (1, .int score), (2, .int many)]) [.ref (G.1 6), .int score, .int many] RX0 rfl (xw_adr G) (by decide +kernel) (Nat.le_of_ble_eq_true rfl) rfl (fun K C ret => ?_)
  refine x_iconst C (pc := 0) (v := 0) dX0_lineFor_0 (by decide) ?_
  refine x_istore_n C (pc := 1) dX0_lineFor_1 [(0, .ref (G.1 6)), (1, .int score), (2, .int many), (3, .int 0)] [1, 2, 3, 0] rfl (by decide) rfl ?_
  have L2 : ∀ (n : Nat) (i : Int32) (j : Nat), (j ≤ N) → (i = nI j) → (lfr (X 32) (X 33) score N 0 = lfr (X 32) (X 33) score (N - j) j) → (N - j) < n → WX K (xw G) 4 X 2 [(0, .ref (G.1 6)), (1, .int score), (2, .int many), (3, .int i)] [] := by
    intro n
    induction n with
    | zero => intro i j hj hi he hmu2; exact absurd hmu2 (Nat.not_lt_zero _)
    | succ n2 ih2 =>
      intro i j hj hi he hmu2
      refine x_iload_n C (pc := 2) dX0_lineFor_2 3 rfl rfl ?_
      refine x_iload_n C (pc := 3) dX0_lineFor_3 2 rfl rfl ?_
      refine x_icmp_ge C (pc := 4) (tgt := 35) dX0_lineFor_4 (by decide) (fun c4 => ?_) (fun c4 => ?_)
      · have hge : N ≤ j := geN hi hm c4 (by omega)
        refine x_bipush C (pc := 35) (v := (-9)) dX0_lineFor_35 (by decide) ?_
        exact ret (-9) X 37 _ dX0_lineFor_37 ⟨by rw [he, show N - j = 0 by omega, lfr], rfl⟩
      · have hlt : j < N := ltN hi hm c4 (by omega)
        have hin : vp_in i 12 := by rw [hi]; exact vp_in_nI (by omega) (by decide)
        have hix : ix i = j := by rw [hi]; exact ix_nI (by omega)
        have hs : N - j = (N - (j + 1)) + 1 := by omega
        have hs2 : N - (j + 1) = N - (j + 1) := rfl
        refine x_aload_n C (pc := 7) dX0_lineFor_7 0 rfl rfl ?_
        refine xG_low C fl_X0_9 dX0_lineFor_8 ?_
        refine x_iload_n C (pc := 11) dX0_lineFor_11 3 rfl rfl ?_
        refine xL_low C dX0_lineFor_12 (by assumption) ?_
        refine x_iload_n C (pc := 13) dX0_lineFor_13 1 rfl rfl ?_
        refine x_icmp_gt C (pc := 14) (tgt := 29) dX0_lineFor_14 (by decide) (fun c14 => ?_) (fun c14 => ?_)
        · refine x_iinc C (pc := 29) (v := i + 1) dX0_lineFor_29 3 [(0, .ref (G.1 6)), (1, .int score), (2, .int many), (3, .int (i + 1))] [1, 2, 3, 0] rfl (by rfl) (by decide) rfl ?_
          refine x_goto C (pc := 32) (tgt := 2) dX0_lineFor_32 (by decide) ?_
          exact ih2 (i + 1) (j + 1) (by omega) (by rw [hi]; exact nI_1 j) (by first | (rw [he, hs, lfr, if_pos (by rw [hix] at c14; exact c14), hs2]) | (rw [he, hs, lfr, if_neg (by rw [hix] at c14; exact c14), if_pos (by rw [hix] at c24; exact c24), hs2])) (by omega)
        · refine x_iload_n C (pc := 17) dX0_lineFor_17 1 rfl rfl ?_
          refine x_aload_n C (pc := 18) dX0_lineFor_18 0 rfl rfl ?_
          refine xG_high C fl_X0_15 dX0_lineFor_19 ?_
          refine x_iload_n C (pc := 22) dX0_lineFor_22 3 rfl rfl ?_
          refine xL_high C dX0_lineFor_23 (by assumption) ?_
          refine x_icmp_gt C (pc := 24) (tgt := 29) dX0_lineFor_24 (by decide) (fun c24 => ?_) (fun c24 => ?_)
          · refine x_iinc C (pc := 29) (v := i + 1) dX0_lineFor_29 3 [(0, .ref (G.1 6)), (1, .int score), (2, .int many), (3, .int (i + 1))] [1, 2, 3, 0] rfl (by rfl) (by decide) rfl ?_
            refine x_goto C (pc := 32) (tgt := 2) dX0_lineFor_32 (by decide) ?_
            exact ih2 (i + 1) (j + 1) (by omega) (by rw [hi]; exact nI_1 j) (by first | (rw [he, hs, lfr, if_pos (by rw [hix] at c14; exact c14), hs2]) | (rw [he, hs, lfr, if_neg (by rw [hix] at c14; exact c14), if_pos (by rw [hix] at c24; exact c24), hs2])) (by omega)
          · refine x_iload_n C (pc := 27) dX0_lineFor_27 3 rfl rfl ?_
            exact ret i X 28 _ dX0_lineFor_28 ⟨by rw [he, hs, lfr, if_neg (by rw [hix] at c14; exact c14), if_neg (by rw [hix] at c24; exact c24), hi], rfl⟩
  exact L2 _ 0 0 (Nat.zero_le _) rfl rfl (Nat.lt_succ_self _)
set_option maxHeartbeats 4000000 in
set_option maxRecDepth 100000 in
theorem c_X0_steps (l : Launch) (D : va_G) (G : Gx) (X : St) (byLine : Int32) (kind : Int32) (hb : byLine ≠ (-9) → vp_in byLine 12) : Ci l yX0_steps cX0_steps 4 (some .int) 1 (xw G) D (tyG G) [.ref (G.1 6), .int byLine, .int kind] X (fun r X1 => r = (v_X0_steps X byLine kind) ∧ X1 = X) := by
  refine m_i (nL := 4) (lv := [(0, .ref (G.1 6)), (1, .int byLine), (2, .int kind)]) [.ref (G.1 6), .int byLine, .int kind] RX0 rfl (xw_adr G) (by decide +kernel) (Nat.le_of_ble_eq_true rfl) rfl (fun K C ret => ?_)
  refine x_iload_n C (pc := 0) dX0_steps_0 1 rfl rfl ?_
  refine x_bipush C (pc := 1) (v := (-9)) dX0_steps_1 (by decide) ?_
  refine x_icmp_ne C (pc := 3) (tgt := 8) dX0_steps_3 (by decide) (fun c3 => ?_) (fun c3 => ?_)
  · have hB := hb c3
    refine x_aload_n C (pc := 8) dX0_steps_8 0 rfl rfl ?_
    refine xG_up C fl_X0_18 dX0_steps_9 ?_
    refine x_iload_n C (pc := 12) dX0_steps_12 1 rfl rfl ?_
    refine xL_up C dX0_steps_13 (by assumption) ?_
    refine x_istore_n C (pc := 14) dX0_steps_14 [(0, .ref (G.1 6)), (1, .int byLine), (2, .int kind), (3, .int (X 34 (ix byLine)))] [1, 2, 3, 0] rfl (by decide) rfl ?_
    refine x_iload_n C (pc := 15) dX0_steps_15 2 rfl rfl ?_
    refine x_iconst C (pc := 16) (v := 1) dX0_steps_16 (by decide) ?_
    refine x_icmp_ne C (pc := 17) (tgt := 26) dX0_steps_17 (by decide) (fun c17 => ?_) (fun c17 => ?_)
    · refine x_iload_n C (pc := 26) dX0_steps_26 2 rfl rfl ?_
      refine x_iconst C (pc := 27) (v := 2) dX0_steps_27 (by decide) ?_
      refine x_icmp_ne C (pc := 28) (tgt := 41) dX0_steps_28 (by decide) (fun c28 => ?_) (fun c28 => ?_)
      · refine x_iload_n C (pc := 41) dX0_steps_41 3 rfl rfl ?_
        exact ret (X 34 (ix byLine)) X 42 _ dX0_steps_42 ⟨by simp [v_X0_steps, *], rfl⟩
      · refine x_iload_n C (pc := 31) dX0_steps_31 3 rfl rfl ?_
        refine x_if_le C (pc := 32) (tgt := 41) dX0_steps_32 (by decide) (fun c32 => ?_) (fun c32 => ?_)
        · refine x_iload_n C (pc := 41) dX0_steps_41 3 rfl rfl ?_
          exact ret (X 34 (ix byLine)) X 42 _ dX0_steps_42 ⟨by simp [v_X0_steps, *], rfl⟩
        · refine x_iconst C (pc := 35) (v := 2) dX0_steps_35 (by decide) ?_
          refine x_iload_n C (pc := 36) dX0_steps_36 3 rfl rfl ?_
          refine x_imul C (pc := 37) dX0_steps_37 ?_
          refine x_goto C (pc := 38) (tgt := 42) dX0_steps_38 (by decide) ?_
          exact ret (2 * (X 34 (ix byLine))) X 42 _ dX0_steps_42 ⟨by simp [v_X0_steps, *], rfl⟩
    · refine x_iload_n C (pc := 20) dX0_steps_20 3 rfl rfl ?_
      refine x_iconst C (pc := 21) (v := (-1)) dX0_steps_21 (by decide) ?_
      refine x_max C (pc := 22) ml_X0_25 (by decide) (Nat.le_of_ble_eq_true rfl) dX0_steps_22 ?_
      exact ret (if (X 34 (ix byLine)) < (-1) then (-1) else (X 34 (ix byLine))) X 25 _ dX0_steps_25 ⟨by simp [v_X0_steps, *], rfl⟩
  · refine x_iconst C (pc := 6) (v := 0) dX0_steps_6 (by decide) ?_
    exact ret 0 X 7 _ dX0_steps_7 ⟨by simp [v_X0_steps, *], rfl⟩
set_option maxHeartbeats 4000000 in
set_option maxRecDepth 100000 in
theorem c_X7_aimAt (l : Launch) (D : va_G) (G : Gx) (X : St) (w : Int32) (steps : Int32) (hw : vp_in w 16) : Cv l yX7_aimAt cX7_aimAt 4 none 0 (xw G) D (tyG G) [.ref (G.1 7), .int w, .int steps] X (fun X1 => X1 = (s_X7_aimAt X w steps)) := by
  refine m_v (nL := 4) (lv := [(0, .ref (G.1 7)), (1, .int w), (2, .int steps)]) [.ref (G.1 7), .int w, .int steps] RX7 rfl (xw_adr G) (by decide +kernel) (Nat.le_of_ble_eq_true rfl) rfl (fun K C ret => ?_)
  refine x_iload_n C (pc := 0) dX7_aimAt_0 2 rfl rfl ?_
  refine x_if_le C (pc := 1) (tgt := 8) dX7_aimAt_1 (by decide) (fun c1 => ?_) (fun c1 => ?_)
  · refine x_iload_n C (pc := 8) dX7_aimAt_8 2 rfl rfl ?_
    refine x_if_ge C (pc := 9) (tgt := 16) dX7_aimAt_9 (by decide) (fun c9 => ?_) (fun c9 => ?_)
    · refine x_iconst C (pc := 16) (v := 0) dX7_aimAt_16 (by decide) ?_
      refine x_istore_n C (pc := 17) dX7_aimAt_17 [(0, .ref (G.1 7)), (1, .int w), (2, .int steps), (3, .int 0)] [1, 2, 3, 0] rfl (by decide) rfl ?_
      refine x_aload_n C (pc := 18) dX7_aimAt_18 0 rfl rfl ?_
      refine xG_aims C fl_X7_30 dX7_aimAt_19 ?_
      refine x_iload_n C (pc := 22) dX7_aimAt_22 1 rfl rfl ?_
      refine x_iconst C (pc := 23) (v := 2) dX7_aimAt_23 (by decide) ?_
      refine x_aload_n C (pc := 24) dX7_aimAt_24 0 rfl rfl ?_
      refine xG_before C fl_X7_15 dX7_aimAt_25 ?_
      refine x_iload_n C (pc := 28) dX7_aimAt_28 1 rfl rfl ?_
      refine xL_before C dX7_aimAt_29 (by assumption) ?_
      refine x_iload_n C (pc := 30) dX7_aimAt_30 2 rfl rfl ?_
      refine x_isub C (pc := 31) dX7_aimAt_31 ?_
      refine x_imul C (pc := 32) dX7_aimAt_32 ?_
      refine x_iload_n C (pc := 33) dX7_aimAt_33 3 rfl rfl ?_
      refine x_isub C (pc := 34) dX7_aimAt_34 ?_
      refine xS_aims C dX7_aimAt_35 (by assumption) ?_
      exact ret (ux X 41 (ix w) ((2 * ((X 36 (ix w)) - steps)) - 0)) 36 _ dX7_aimAt_36 (by simp [s_X7_aimAt, v_half, *])
    · refine x_iconst C (pc := 12) (v := (-1)) dX7_aimAt_12 (by decide) ?_
      refine x_goto C (pc := 13) (tgt := 17) dX7_aimAt_13 (by decide) ?_
      refine x_istore_n C (pc := 17) dX7_aimAt_17 [(0, .ref (G.1 7)), (1, .int w), (2, .int steps), (3, .int (-1))] [1, 2, 3, 0] rfl (by decide) rfl ?_
      refine x_aload_n C (pc := 18) dX7_aimAt_18 0 rfl rfl ?_
      refine xG_aims C fl_X7_30 dX7_aimAt_19 ?_
      refine x_iload_n C (pc := 22) dX7_aimAt_22 1 rfl rfl ?_
      refine x_iconst C (pc := 23) (v := 2) dX7_aimAt_23 (by decide) ?_
      refine x_aload_n C (pc := 24) dX7_aimAt_24 0 rfl rfl ?_
      refine xG_before C fl_X7_15 dX7_aimAt_25 ?_
      refine x_iload_n C (pc := 28) dX7_aimAt_28 1 rfl rfl ?_
      refine xL_before C dX7_aimAt_29 (by assumption) ?_
      refine x_iload_n C (pc := 30) dX7_aimAt_30 2 rfl rfl ?_
      refine x_isub C (pc := 31) dX7_aimAt_31 ?_
      refine x_imul C (pc := 32) dX7_aimAt_32 ?_
      refine x_iload_n C (pc := 33) dX7_aimAt_33 3 rfl rfl ?_
      refine x_isub C (pc := 34) dX7_aimAt_34 ?_
      refine xS_aims C dX7_aimAt_35 (by assumption) ?_
      exact ret (ux X 41 (ix w) ((2 * ((X 36 (ix w)) - steps)) - (-1))) 36 _ dX7_aimAt_36 (by simp [s_X7_aimAt, v_half, *])
  · refine x_iconst C (pc := 4) (v := 1) dX7_aimAt_4 (by decide) ?_
    refine x_goto C (pc := 5) (tgt := 17) dX7_aimAt_5 (by decide) ?_
    refine x_istore_n C (pc := 17) dX7_aimAt_17 [(0, .ref (G.1 7)), (1, .int w), (2, .int steps), (3, .int 1)] [1, 2, 3, 0] rfl (by decide) rfl ?_
    refine x_aload_n C (pc := 18) dX7_aimAt_18 0 rfl rfl ?_
    refine xG_aims C fl_X7_30 dX7_aimAt_19 ?_
    refine x_iload_n C (pc := 22) dX7_aimAt_22 1 rfl rfl ?_
    refine x_iconst C (pc := 23) (v := 2) dX7_aimAt_23 (by decide) ?_
    refine x_aload_n C (pc := 24) dX7_aimAt_24 0 rfl rfl ?_
    refine xG_before C fl_X7_15 dX7_aimAt_25 ?_
    refine x_iload_n C (pc := 28) dX7_aimAt_28 1 rfl rfl ?_
    refine xL_before C dX7_aimAt_29 (by assumption) ?_
    refine x_iload_n C (pc := 30) dX7_aimAt_30 2 rfl rfl ?_
    refine x_isub C (pc := 31) dX7_aimAt_31 ?_
    refine x_imul C (pc := 32) dX7_aimAt_32 ?_
    refine x_iload_n C (pc := 33) dX7_aimAt_33 3 rfl rfl ?_
    refine x_isub C (pc := 34) dX7_aimAt_34 ?_
    refine xS_aims C dX7_aimAt_35 (by assumption) ?_
    exact ret (ux X 41 (ix w) ((2 * ((X 36 (ix w)) - steps)) - 1)) 36 _ dX7_aimAt_36 (by simp [s_X7_aimAt, v_half, *])
set_option maxHeartbeats 4000000 in
set_option maxRecDepth 100000 in
theorem c_X7_overtook (l : Launch) (D : va_G) (G : Gx) (X : St) (a : Int32) (b : Int32) (ha : vp_in a 16) (hb : vp_in b 16) : Ci l yX7_overtook cX7_overtook 3 (some .boolean) 0 (xw G) D (tyG G) [.ref (G.1 7), .int a, .int b] X (fun r X1 => r = (v_X7_overtook X a b) ∧ X1 = X) := by
  refine m_z (nL := 3) (lv := [(0, .ref (G.1 7)), (1, .int a), (2, .int b)]) [.ref (G.1 7), .int a, .int b] RX7 rfl (xw_adr G) (by decide +kernel) (Nat.le_of_ble_eq_true rfl) rfl (fun K C ret => ?_)
  refine x_aload_n C (pc := 0) dX7_overtook_0 0 rfl rfl ?_
  refine xG_before C fl_X7_15 dX7_overtook_1 ?_
  refine x_iload_n C (pc := 4) dX7_overtook_4 1 rfl rfl ?_
  refine xL_before C dX7_overtook_5 (by assumption) ?_
  refine x_bipush C (pc := 6) (v := (-9)) dX7_overtook_6 (by decide) ?_
  refine x_icmp_eq C (pc := 8) (tgt := 56) dX7_overtook_8 (by decide) (fun c8 => ?_) (fun c8 => ?_)
  · refine x_iconst C (pc := 56) (v := 0) dX7_overtook_56 (by decide) ?_
    exact ret 0 X 57 _ dX7_overtook_57 rfl ⟨by simp [v_X7_overtook, *], rfl⟩
  · refine x_aload_n C (pc := 11) dX7_overtook_11 0 rfl rfl ?_
    refine xG_before C fl_X7_15 dX7_overtook_12 ?_
    refine x_iload_n C (pc := 15) dX7_overtook_15 2 rfl rfl ?_
    refine xL_before C dX7_overtook_16 (by assumption) ?_
    refine x_bipush C (pc := 17) (v := (-9)) dX7_overtook_17 (by decide) ?_
    refine x_icmp_eq C (pc := 19) (tgt := 56) dX7_overtook_19 (by decide) (fun c19 => ?_) (fun c19 => ?_)
    · refine x_iconst C (pc := 56) (v := 0) dX7_overtook_56 (by decide) ?_
      exact ret 0 X 57 _ dX7_overtook_57 rfl ⟨by simp [v_X7_overtook, *], rfl⟩
    · refine x_aload_n C (pc := 22) dX7_overtook_22 0 rfl rfl ?_
      refine xG_before C fl_X7_15 dX7_overtook_23 ?_
      refine x_iload_n C (pc := 26) dX7_overtook_26 1 rfl rfl ?_
      refine xL_before C dX7_overtook_27 (by assumption) ?_
      refine x_aload_n C (pc := 28) dX7_overtook_28 0 rfl rfl ?_
      refine xG_before C fl_X7_15 dX7_overtook_29 ?_
      refine x_iload_n C (pc := 32) dX7_overtook_32 2 rfl rfl ?_
      refine xL_before C dX7_overtook_33 (by assumption) ?_
      refine x_icmp_le C (pc := 34) (tgt := 56) dX7_overtook_34 (by decide) (fun c34 => ?_) (fun c34 => ?_)
      · refine x_iconst C (pc := 56) (v := 0) dX7_overtook_56 (by decide) ?_
        exact ret 0 X 57 _ dX7_overtook_57 rfl ⟨by simp [v_X7_overtook, *], rfl⟩
      · refine x_aload_n C (pc := 37) dX7_overtook_37 0 rfl rfl ?_
        refine xG_after C fl_X7_18 dX7_overtook_38 ?_
        refine x_iload_n C (pc := 41) dX7_overtook_41 1 rfl rfl ?_
        refine xL_after C dX7_overtook_42 (by assumption) ?_
        refine x_aload_n C (pc := 43) dX7_overtook_43 0 rfl rfl ?_
        refine xG_after C fl_X7_18 dX7_overtook_44 ?_
        refine x_iload_n C (pc := 47) dX7_overtook_47 2 rfl rfl ?_
        refine xL_after C dX7_overtook_48 (by assumption) ?_
        refine x_icmp_ge C (pc := 49) (tgt := 56) dX7_overtook_49 (by decide) (fun c49 => ?_) (fun c49 => ?_)
        · refine x_iconst C (pc := 56) (v := 0) dX7_overtook_56 (by decide) ?_
          exact ret 0 X 57 _ dX7_overtook_57 rfl ⟨by simp [v_X7_overtook, *], rfl⟩
        · refine x_iconst C (pc := 52) (v := 1) dX7_overtook_52 (by decide) ?_
          refine x_goto C (pc := 53) (tgt := 57) dX7_overtook_53 (by decide) ?_
          exact ret 1 X 57 _ dX7_overtook_57 rfl ⟨by simp [v_X7_overtook, *], rfl⟩
set_option maxHeartbeats 4000000 in
set_option maxRecDepth 100000 in
theorem c_X5_clear (l : Launch) (D : va_G) (G : Gx) (X : St)  : Cv l yX5_clear cX5_clear 1 none 0 (xw G) D (tyG G) [.ref (G.1 8)] X (fun X1 => X1 = (s_X5_clear X)) := by
  refine m_v (nL := 1) (lv := [(0, .ref (G.1 8))]) [.ref (G.1 8)] RX5 rfl (xw_adr G) (by decide +kernel) (Nat.le_of_ble_eq_true rfl) rfl (fun K C ret => ?_)
  refine x_aload_n C (pc := 0) dX5_clear_0 0 rfl rfl ?_
  refine x_iconst C (pc := 1) (v := 0) dX5_clear_1 (by decide) ?_
  refine xP_left C fl_X5_19 (v := 0) dX5_clear_2 ?_
  refine x_aload_n C (pc := 5) dX5_clear_5 0 rfl rfl ?_
  refine x_iconst C (pc := 6) (v := 0) dX5_clear_6 (by decide) ?_
  refine xP_begun C fl_X5_22 (v := 0) (by decide) (by decide) dX5_clear_7 ?_
  exact ret (ux (ux X 117 0 0) 118 0 0) 10 _ dX5_clear_10 rfl
set_option maxHeartbeats 4000000 in
set_option maxRecDepth 100000 in
theorem c_X5_goesOn (l : Launch) (D : va_G) (G : Gx) (X : St)  : Ci l yX5_goesOn cX5_goesOn 1 (some .boolean) 0 (xw G) D (tyG G) [.ref (G.1 8)] X (fun r X1 => r = (v_X5_goesOn X) ∧ X1 = X) := by
  refine m_z (nL := 1) (lv := [(0, .ref (G.1 8))]) [.ref (G.1 8)] RX5 rfl (xw_adr G) (by decide +kernel) (Nat.le_of_ble_eq_true rfl) rfl (fun K C ret => ?_)
  refine x_aload_n C (pc := 0) dX5_goesOn_0 0 rfl rfl ?_
  refine xG_left C fl_X5_19 dX5_goesOn_1 ?_
  refine x_iconst C (pc := 4) (v := 1) dX5_goesOn_4 (by decide) ?_
  refine x_icmp_le C (pc := 5) (tgt := 12) dX5_goesOn_5 (by decide) (fun c5 => ?_) (fun c5 => ?_)
  · refine x_iconst C (pc := 12) (v := 0) dX5_goesOn_12 (by decide) ?_
    exact ret 0 X 13 _ dX5_goesOn_13 rfl ⟨by simp [v_X5_goesOn, *], rfl⟩
  · refine x_iconst C (pc := 8) (v := 1) dX5_goesOn_8 (by decide) ?_
    refine x_goto C (pc := 9) (tgt := 13) dX5_goesOn_9 (by decide) ?_
    exact ret 1 X 13 _ dX5_goesOn_13 rfl ⟨by simp [v_X5_goesOn, *], rfl⟩
set_option maxHeartbeats 4000000 in
set_option maxRecDepth 100000 in
theorem c_X5_append (l : Launch) (D : va_G) (G : Gx) (X : St) (w : Int32) (hl : vp_in (X 117 0) 16) : Cv l yX5_append cX5_append 2 none 0 (xw G) D (tyG G) [.ref (G.1 8), .int w] X (fun X1 => X1 = (s_X5_append X w)) := by
  refine m_v (nL := 2) (lv := [(0, .ref (G.1 8)), (1, .int w)]) [.ref (G.1 8), .int w] RX5 rfl (xw_adr G) (by decide +kernel) (Nat.le_of_ble_eq_true rfl) rfl (fun K C ret => ?_)
  refine x_aload_n C (pc := 0) dX5_append_0 0 rfl rfl ?_
  refine xG_row C fl_X5_9 dX5_append_1 ?_
  refine x_aload_n C (pc := 4) dX5_append_4 0 rfl rfl ?_
  refine xG_left C fl_X5_19 dX5_append_5 ?_
  refine x_iload_n C (pc := 8) dX5_append_8 1 rfl rfl ?_
  refine xS_row C dX5_append_9 (by assumption) ?_
  refine x_aload_n C (pc := 10) dX5_append_10 0 rfl rfl ?_
  refine x_dup C (pc := 11) dX5_append_11 rfl ?_
  refine xG_left C fl_X5_19 dX5_append_12 ?_
  refine x_top (y := (X 117 0)) rfl ?_
  refine x_iconst C (pc := 15) (v := 1) dX5_append_15 (by decide) ?_
  refine x_iadd C (pc := 16) dX5_append_16 ?_
  refine xP_left C fl_X5_19 (v := (X 117 0) + 1) dX5_append_17 ?_
  exact ret (ux (ux X 42 (ix (X 117 0)) w) 117 0 ((X 117 0) + 1)) 20 _ dX5_append_20 rfl

-- loops
def mostW (wi bd : Nat → Int32) : Nat → Int32
  | 0 => 0
  | n + 1 => if mostW wi bd n < wi (ix (bd n)) then wi (ix (bd n)) else mostW wi bd n
def difL (fm ra af : Nat → Int32) : Nat → Int32
  | 0 => 0
  | n + 1 => if ra (ix (fm n)) = af (ix (fm n)) then difL fm ra af n else difL fm ra af n + 1
def recF (bd f : Nat → Int32) (n : Nat) : Nat → Int32 := fun i => if i < n then bd i else f i
def recB (bd : Nat → Int32) (f : Nat → Int32) : Nat → Nat → Int32
  | 0 => f
  | n + 1 => upd (recB bd f n) (ix (bd n)) (nI n)
theorem recF_step (bd f : Nat → Int32) (n : Nat) : upd (recF bd f n) n (bd n) = recF bd f (n + 1) := by
  funext j
  simp only [recF, upd]
  by_cases e : j = n
  · subst e; simp
  · rw [if_neg e]
    by_cases h : j < n
    · rw [if_pos h, if_pos (by omega)]
    · rw [if_neg h, if_neg (by omega)]
theorem recF_0 (bd f : Nat → Int32) : recF bd f 0 = f := by
  funext j
  simp [recF]
theorem sr2_self (V : St) (a b : Nat) : sr (sr V a (V a)) b (V b) = V := by
  rw [sr_self, sr_self]
def s_X7_recall (X : St) (lines : Int32) : St := ux (ux (sr (sr (ux (ux X 113 0 (X 102 0)) 114 0 lines) 35 (recF (X 20) (X 35) (ix (X 102 0)))) 36 (recB (X 20) (X 36) (ix (X 102 0)))) 115 0 ((X 115 0) + 1)) 116 0 1
def insL (ai : Nat → Int32) (w : Int32) : Nat → (Nat → Int32) → Nat → Int32
  | 0, o => upd o 0 w
  | k + 1, o => if ai (ix (o k)) ≤ ai (ix w) then upd o (k + 1) w else insL ai w k (upd o (k + 1) (o k))
def arrL (ai fm : Nat → Int32) (o : Nat → Int32) : Nat → Nat → Int32
  | 0 => o
  | n + 1 => insL ai (fm n) n (arrL ai fm o n)

set_option maxHeartbeats 4000000 in
set_option maxRecDepth 100000 in
theorem c_X3_mostWins (l : Launch) (D : va_G) (G : Gx) (N : Nat) (X : St)  (hN : N ≤ 16) (hs : (X 102 0) = nI N) (hB : ∀ r, r < N → vp_in ((X 20) r) 16) : Ci l yX3_mostWins cX3_mostWins 3 (some .int) 1 (xw G) D (tyG G) [.ref (G.1 2)] X (fun r X1 => r = (mostW (X 14) (X 20) N) ∧ X1 = X) := by
  refine m_i (nL := 3) (lv := [(0, .ref (G.1 2))]) [.ref (G.1 2)] RX3 rfl (xw_adr G) (by decide +kernel) (Nat.le_of_ble_eq_true rfl) rfl (fun K C ret => ?_)
  refine x_iconst C (pc := 0) (v := 0) dX3_mostWins_0 (by decide) ?_
  refine x_istore_n C (pc := 1) dX3_mostWins_1 [(0, .ref (G.1 2)), (1, .int 0)] [1, 0] rfl (by decide) rfl ?_
  refine x_iconst C (pc := 2) (v := 0) dX3_mostWins_2 (by decide) ?_
  refine x_istore_n C (pc := 3) dX3_mostWins_3 [(0, .ref (G.1 2)), (1, .int 0), (2, .int 0)] [1, 2, 0] rfl (by decide) rfl ?_
  have L4 : ∀ (n : Nat) (a : Int32) (i : Int32) (j : Nat), (j ≤ N) → (i = nI j) → (a = mostW (X 14) (X 20) j) → (N - j) < n → WX K (xw G) 3 X 4 [(0, .ref (G.1 2)), (1, .int a), (2, .int i)] [] := by
    intro n
    induction n with
    | zero => intro a i j hj hi ha hmu4; exact absurd hmu4 (Nat.not_lt_zero _)
    | succ n4 ih4 =>
      intro a i j hj hi ha hmu4
      refine x_iload_n C (pc := 4) dX3_mostWins_4 2 rfl rfl ?_
      refine x_aload_n C (pc := 5) dX3_mostWins_5 0 rfl rfl ?_
      refine xG_standing C fl_X3_50 dX3_mostWins_6 ?_
      refine x_icmp_ge C (pc := 9) (tgt := 34) dX3_mostWins_9 (by decide) (fun c9 => ?_) (fun c9 => ?_)
      · have hge : N ≤ j := geN hi hs c9 (by omega)
        have hjN : j = N := by omega
        refine x_iload_n C (pc := 34) dX3_mostWins_34 1 rfl rfl ?_
        exact ret a X 35 _ dX3_mostWins_35 ⟨by rw [ha, hjN], rfl⟩
      · have hlt : j < N := ltN hi hs c9 (by omega)
        have hin : vp_in i 16 := by rw [hi]; exact vp_in_nI (by omega) (by decide)
        have hix : ix i = j := by rw [hi]; exact ix_nI (by omega)
        have hin2 : vp_in ((X 20) (ix i)) 16 := by rw [hix]; exact hB j hlt
        refine x_iload_n C (pc := 12) dX3_mostWins_12 1 rfl rfl ?_
        refine x_aload_n C (pc := 13) dX3_mostWins_13 0 rfl rfl ?_
        refine xG_wins C fl_X3_24 dX3_mostWins_14 ?_
        refine x_aload_n C (pc := 17) dX3_mostWins_17 0 rfl rfl ?_
        refine xG_board C fl_X3_43 dX3_mostWins_18 ?_
        refine x_iload_n C (pc := 21) dX3_mostWins_21 2 rfl rfl ?_
        refine xL_board C dX3_mostWins_22 (by assumption) ?_
        refine xL_wins C dX3_mostWins_23 (by assumption) ?_
        refine x_max C (pc := 24) ml_X3_63 (by decide) (Nat.le_of_ble_eq_true rfl) dX3_mostWins_24 ?_
        refine x_istore_n C (pc := 27) dX3_mostWins_27 [(0, .ref (G.1 2)), (1, .int (if a < (X 14 (ix (X 20 (ix i)))) then (X 14 (ix (X 20 (ix i)))) else a)), (2, .int i)] [1, 0, 2] rfl (by decide) rfl ?_
        refine x_iinc C (pc := 28) (v := i + 1) dX3_mostWins_28 2 [(0, .ref (G.1 2)), (1, .int (if a < (X 14 (ix (X 20 (ix i)))) then (X 14 (ix (X 20 (ix i)))) else a)), (2, .int (i + 1))] [1, 2, 0] rfl (by rfl) (by decide) rfl ?_
        refine x_goto C (pc := 31) (tgt := 4) dX3_mostWins_31 (by decide) ?_
        exact ih4 (if a < (X 14 (ix (X 20 (ix i)))) then (X 14 (ix (X 20 (ix i)))) else a) (i + 1) (j + 1) (by omega) (by rw [hi]; exact nI_1 j) (by rw [hix, ha]; rfl) (by omega)
  exact L4 _ 0 0 0 (Nat.zero_le _) rfl rfl (Nat.lt_succ_self _)
set_option maxHeartbeats 4000000 in
set_option maxRecDepth 100000 in
theorem c_X7_differing_36 (l : Launch) (D : va_G) (G : Gx) (N : Nat) (X : St)  (hN : N ≤ 16) (hs : (X 113 0) = nI N) (hB : ∀ r, r < N → vp_in ((X 35) r) 16) : Ci l yX7_differing cX7_differing 5 (some .int) 0 (xw G) D (tyG G) [.ref (G.1 7), .ref (G.1 36)] X (fun r X1 => r = (difL (X 35) (X 36) (X 37) N) ∧ X1 = X) := by
  refine m_i (nL := 5) (lv := [(0, .ref (G.1 7)), (1, .ref (G.1 36))]) [.ref (G.1 7), .ref (G.1 36)] RX7 rfl (xw_adr G) (by decide +kernel) (Nat.le_of_ble_eq_true rfl) rfl (fun K C ret => ?_)
  refine x_iconst C (pc := 0) (v := 0) dX7_differing_0 (by decide) ?_
  refine x_istore_n C (pc := 1) dX7_differing_1 [(0, .ref (G.1 7)), (1, .ref (G.1 36)), (2, .int 0)] [1, 2, 0] rfl (by decide) rfl ?_
  refine x_iconst C (pc := 2) (v := 0) dX7_differing_2 (by decide) ?_
  refine x_istore_n C (pc := 3) dX7_differing_3 [(0, .ref (G.1 7)), (1, .ref (G.1 36)), (2, .int 0), (3, .int 0)] [1, 2, 3, 0] rfl (by decide) rfl ?_
  have L4 : ∀ (n : Nat) (a : Int32) (i : Int32) (j : Nat), (j ≤ N) → (i = nI j) → (a = difL (X 35) (X 36) (X 37) j) → (N - j) < n → WX K (xw G) 5 X 4 [(0, .ref (G.1 7)), (1, .ref (G.1 36)), (2, .int a), (3, .int i)] [] := by
    intro n
    induction n with
    | zero => intro a i j hj hi ha hmu4; exact absurd hmu4 (Nat.not_lt_zero _)
    | succ n4 ih4 =>
      intro a i j hj hi ha hmu4
      refine x_iload_n C (pc := 4) dX7_differing_4 3 rfl rfl ?_
      refine x_aload_n C (pc := 5) dX7_differing_5 0 rfl rfl ?_
      refine xG_wstand C fl_X7_45 dX7_differing_6 ?_
      refine x_icmp_ge C (pc := 9) (tgt := 43) dX7_differing_9 (by decide) (fun c9 => ?_) (fun c9 => ?_)
      · have hge : N ≤ j := geN hi hs c9 (by omega)
        have hjN : j = N := by omega
        refine x_iload_n C (pc := 43) dX7_differing_43 2 rfl rfl ?_
        exact ret a X 44 _ dX7_differing_44 ⟨by rw [ha, hjN], rfl⟩
      · have hlt : j < N := ltN hi hs c9 (by omega)
        have hin : vp_in i 16 := by rw [hi]; exact vp_in_nI (by omega) (by decide)
        have hix : ix i = j := by rw [hi]; exact ix_nI (by omega)
        have hin2 : vp_in ((X 35) (ix i)) 16 := by rw [hix]; exact hB j hlt
        refine x_aload_n C (pc := 12) dX7_differing_12 0 rfl rfl ?_
        refine xG_former C fl_X7_9 dX7_differing_13 ?_
        refine x_iload_n C (pc := 16) dX7_differing_16 3 rfl rfl ?_
        refine xL_former C dX7_differing_17 (by assumption) ?_
        refine x_istore C (pc := 18) dX7_differing_18 [(0, .ref (G.1 7)), (1, .ref (G.1 36)), (2, .int a), (3, .int i), (4, .int (X 35 (ix i)))] [1, 2, 3, 4, 0] (by decide) rfl ?_
        refine x_aload_n C (pc := 20) dX7_differing_20 1 rfl rfl ?_
        refine x_iload C (pc := 21) dX7_differing_21 4 rfl ?_
        refine xL_before C dX7_differing_23 (by assumption) ?_
        refine x_aload_n C (pc := 24) dX7_differing_24 0 rfl rfl ?_
        refine xG_after C fl_X7_18 dX7_differing_25 ?_
        refine x_iload C (pc := 28) dX7_differing_28 4 rfl ?_
        refine xL_after C dX7_differing_30 (by assumption) ?_
        refine x_icmp_eq C (pc := 31) (tgt := 37) dX7_differing_31 (by decide) (fun c31 => ?_) (fun c31 => ?_)
        · refine x_iinc C (pc := 37) (v := i + 1) dX7_differing_37 3 [(0, .ref (G.1 7)), (1, .ref (G.1 36)), (2, .int a), (3, .int (i + 1)), (4, .int (X 35 (ix i)))] [1, 2, 3, 0, 4] rfl (by rfl) (by decide) rfl ?_
          refine x_goto C (pc := 40) (tgt := 4) dX7_differing_40 (by decide) ?_
          refine x_sub [(0, .ref (G.1 7)), (1, .ref (G.1 36)), (2, .int a), (3, .int (i + 1))] [0, 1, 2, 3] rfl ?_
          exact ih4 a (i + 1) (j + 1) (by omega) (by rw [hi]; exact nI_1 j) (by rw [hix] at c31; first | (rw [difL, if_pos c31, ha]) | (rw [difL, if_neg c31, ha])) (by omega)
        · refine x_iinc C (pc := 34) (v := a + 1) dX7_differing_34 2 [(0, .ref (G.1 7)), (1, .ref (G.1 36)), (2, .int (a + 1)), (3, .int i), (4, .int (X 35 (ix i)))] [1, 2, 0, 3, 4] rfl (by rfl) (by decide) rfl ?_
          refine x_iinc C (pc := 37) (v := i + 1) dX7_differing_37 3 [(0, .ref (G.1 7)), (1, .ref (G.1 36)), (2, .int (a + 1)), (3, .int (i + 1)), (4, .int (X 35 (ix i)))] [1, 2, 3, 0, 4] rfl (by rfl) (by decide) rfl ?_
          refine x_goto C (pc := 40) (tgt := 4) dX7_differing_40 (by decide) ?_
          refine x_sub [(0, .ref (G.1 7)), (1, .ref (G.1 36)), (2, .int (a + 1)), (3, .int (i + 1))] [0, 1, 2, 3] rfl ?_
          exact ih4 (a + 1) (i + 1) (j + 1) (by omega) (by rw [hi]; exact nI_1 j) (by rw [hix] at c31; first | (rw [difL, if_pos c31, ha]) | (rw [difL, if_neg c31, ha])) (by omega)
  exact L4 _ 0 0 0 (Nat.zero_le _) rfl rfl (Nat.lt_succ_self _)
set_option maxHeartbeats 4000000 in
set_option maxRecDepth 100000 in
theorem c_X7_differing_39 (l : Launch) (D : va_G) (G : Gx) (N : Nat) (X : St)  (hN : N ≤ 16) (hs : (X 113 0) = nI N) (hB : ∀ r, r < N → vp_in ((X 35) r) 16) : Ci l yX7_differing cX7_differing 5 (some .int) 0 (xw G) D (tyG G) [.ref (G.1 7), .ref (G.1 39)] X (fun r X1 => r = (difL (X 35) (X 39) (X 37) N) ∧ X1 = X) := by
  refine m_i (nL := 5) (lv := [(0, .ref (G.1 7)), (1, .ref (G.1 39))]) [.ref (G.1 7), .ref (G.1 39)] RX7 rfl (xw_adr G) (by decide +kernel) (Nat.le_of_ble_eq_true rfl) rfl (fun K C ret => ?_)
  refine x_iconst C (pc := 0) (v := 0) dX7_differing_0 (by decide) ?_
  refine x_istore_n C (pc := 1) dX7_differing_1 [(0, .ref (G.1 7)), (1, .ref (G.1 39)), (2, .int 0)] [1, 2, 0] rfl (by decide) rfl ?_
  refine x_iconst C (pc := 2) (v := 0) dX7_differing_2 (by decide) ?_
  refine x_istore_n C (pc := 3) dX7_differing_3 [(0, .ref (G.1 7)), (1, .ref (G.1 39)), (2, .int 0), (3, .int 0)] [1, 2, 3, 0] rfl (by decide) rfl ?_
  have L4 : ∀ (n : Nat) (a : Int32) (i : Int32) (j : Nat), (j ≤ N) → (i = nI j) → (a = difL (X 35) (X 39) (X 37) j) → (N - j) < n → WX K (xw G) 5 X 4 [(0, .ref (G.1 7)), (1, .ref (G.1 39)), (2, .int a), (3, .int i)] [] := by
    intro n
    induction n with
    | zero => intro a i j hj hi ha hmu4; exact absurd hmu4 (Nat.not_lt_zero _)
    | succ n4 ih4 =>
      intro a i j hj hi ha hmu4
      refine x_iload_n C (pc := 4) dX7_differing_4 3 rfl rfl ?_
      refine x_aload_n C (pc := 5) dX7_differing_5 0 rfl rfl ?_
      refine xG_wstand C fl_X7_45 dX7_differing_6 ?_
      refine x_icmp_ge C (pc := 9) (tgt := 43) dX7_differing_9 (by decide) (fun c9 => ?_) (fun c9 => ?_)
      · have hge : N ≤ j := geN hi hs c9 (by omega)
        have hjN : j = N := by omega
        refine x_iload_n C (pc := 43) dX7_differing_43 2 rfl rfl ?_
        exact ret a X 44 _ dX7_differing_44 ⟨by rw [ha, hjN], rfl⟩
      · have hlt : j < N := ltN hi hs c9 (by omega)
        have hin : vp_in i 16 := by rw [hi]; exact vp_in_nI (by omega) (by decide)
        have hix : ix i = j := by rw [hi]; exact ix_nI (by omega)
        have hin2 : vp_in ((X 35) (ix i)) 16 := by rw [hix]; exact hB j hlt
        refine x_aload_n C (pc := 12) dX7_differing_12 0 rfl rfl ?_
        refine xG_former C fl_X7_9 dX7_differing_13 ?_
        refine x_iload_n C (pc := 16) dX7_differing_16 3 rfl rfl ?_
        refine xL_former C dX7_differing_17 (by assumption) ?_
        refine x_istore C (pc := 18) dX7_differing_18 [(0, .ref (G.1 7)), (1, .ref (G.1 39)), (2, .int a), (3, .int i), (4, .int (X 35 (ix i)))] [1, 2, 3, 4, 0] (by decide) rfl ?_
        refine x_aload_n C (pc := 20) dX7_differing_20 1 rfl rfl ?_
        refine x_iload C (pc := 21) dX7_differing_21 4 rfl ?_
        refine xL_aside C dX7_differing_23 (by assumption) ?_
        refine x_aload_n C (pc := 24) dX7_differing_24 0 rfl rfl ?_
        refine xG_after C fl_X7_18 dX7_differing_25 ?_
        refine x_iload C (pc := 28) dX7_differing_28 4 rfl ?_
        refine xL_after C dX7_differing_30 (by assumption) ?_
        refine x_icmp_eq C (pc := 31) (tgt := 37) dX7_differing_31 (by decide) (fun c31 => ?_) (fun c31 => ?_)
        · refine x_iinc C (pc := 37) (v := i + 1) dX7_differing_37 3 [(0, .ref (G.1 7)), (1, .ref (G.1 39)), (2, .int a), (3, .int (i + 1)), (4, .int (X 35 (ix i)))] [1, 2, 3, 0, 4] rfl (by rfl) (by decide) rfl ?_
          refine x_goto C (pc := 40) (tgt := 4) dX7_differing_40 (by decide) ?_
          refine x_sub [(0, .ref (G.1 7)), (1, .ref (G.1 39)), (2, .int a), (3, .int (i + 1))] [0, 1, 2, 3] rfl ?_
          exact ih4 a (i + 1) (j + 1) (by omega) (by rw [hi]; exact nI_1 j) (by rw [hix] at c31; first | (rw [difL, if_pos c31, ha]) | (rw [difL, if_neg c31, ha])) (by omega)
        · refine x_iinc C (pc := 34) (v := a + 1) dX7_differing_34 2 [(0, .ref (G.1 7)), (1, .ref (G.1 39)), (2, .int (a + 1)), (3, .int i), (4, .int (X 35 (ix i)))] [1, 2, 0, 3, 4] rfl (by rfl) (by decide) rfl ?_
          refine x_iinc C (pc := 37) (v := i + 1) dX7_differing_37 3 [(0, .ref (G.1 7)), (1, .ref (G.1 39)), (2, .int (a + 1)), (3, .int (i + 1)), (4, .int (X 35 (ix i)))] [1, 2, 3, 0, 4] rfl (by rfl) (by decide) rfl ?_
          refine x_goto C (pc := 40) (tgt := 4) dX7_differing_40 (by decide) ?_
          refine x_sub [(0, .ref (G.1 7)), (1, .ref (G.1 39)), (2, .int (a + 1)), (3, .int (i + 1))] [0, 1, 2, 3] rfl ?_
          exact ih4 (a + 1) (i + 1) (j + 1) (by omega) (by rw [hi]; exact nI_1 j) (by rw [hix] at c31; first | (rw [difL, if_pos c31, ha]) | (rw [difL, if_neg c31, ha])) (by omega)
  exact L4 _ 0 0 0 (Nat.zero_le _) rfl rfl (Nat.lt_succ_self _)
set_option maxHeartbeats 4000000 in
set_option maxRecDepth 100000 in
theorem c_X7_recall (l : Launch) (D : va_G) (G : Gx) (N : Nat) (X : St) (lines : Int32) (hN : N ≤ 16) (hs : (X 102 0) = nI N) (hB : ∀ r, r < N → vp_in ((X 20) r) 16) : Cv l yX7_recall cX7_recall 4 none 0 (xw G) D (tyG G) [.ref (G.1 7), .ref (G.1 2), .int lines] X (fun X1 => X1 = (s_X7_recall X lines)) := by
  refine m_v (nL := 4) (lv := [(0, .ref (G.1 7)), (1, .ref (G.1 2)), (2, .int lines)]) [.ref (G.1 7), .ref (G.1 2), .int lines] RX7 rfl (xw_adr G) (by decide +kernel) (Nat.le_of_ble_eq_true rfl) rfl (fun K C ret => ?_)
  refine x_aload_n C (pc := 0) dX7_recall_0 0 rfl rfl ?_
  refine x_aload_n C (pc := 1) dX7_recall_1 1 rfl rfl ?_
  refine xG_standing C fl_X7_39 dX7_recall_2 ?_
  refine xP_wstand C fl_X7_45 (v := (X 102 0)) dX7_recall_5 ?_
  refine x_aload_n C (pc := 8) dX7_recall_8 0 rfl rfl ?_
  refine x_iload_n C (pc := 9) dX7_recall_9 2 rfl rfl ?_
  refine xP_linesThen C fl_X7_46 (v := lines) dX7_recall_10 ?_
  refine x_iconst C (pc := 13) (v := 0) dX7_recall_13 (by decide) ?_
  refine x_istore_n C (pc := 14) dX7_recall_14 [(0, .ref (G.1 7)), (1, .ref (G.1 2)), (2, .int lines), (3, .int 0)] [1, 2, 3, 0] rfl (by decide) rfl ?_
  have L15 : ∀ (n : Nat) (Y : St) (i : Int32) (j : Nat), (j ≤ N) → (i = nI j) → (Y = sr (sr (ux (ux X 113 0 (X 102 0)) 114 0 lines) 35 (recF (X 20) (X 35) j)) 36 (recB (X 20) (X 36) j)) → (N - j) < n → WX K (xw G) 4 Y 15 [(0, .ref (G.1 7)), (1, .ref (G.1 2)), (2, .int lines), (3, .int i)] [] := by
    intro n
    induction n with
    | zero => intro Y i j hj hi hY hmu15; exact absurd hmu15 (Nat.not_lt_zero _)
    | succ n15 ih15 =>
      intro Y i j hj hi hY hmu15
      refine x_iload_n C (pc := 15) dX7_recall_15 3 rfl rfl ?_
      refine x_aload_n C (pc := 16) dX7_recall_16 0 rfl rfl ?_
      refine xG_wstand C fl_X7_45 dX7_recall_17 ?_
      refine x_icmp_ge C (pc := 20) (tgt := 53) dX7_recall_20 (by decide) (fun c20 => ?_) (fun c20 => ?_)
      · have hys : (Y 113 0) = nI N := by rw [hY]; exact hs
        have hge : N ≤ j := geN hi hys c20 (by omega)
        have hjN : j = N := by omega
        have hxN : ix (X 102 0) = N := by rw [hs]; exact ix_nI (by omega)
        refine x_aload_n C (pc := 53) dX7_recall_53 0 rfl rfl ?_
        refine x_dup C (pc := 54) dX7_recall_54 rfl ?_
        refine xG_wtimes C fl_X7_52 dX7_recall_55 ?_
        refine x_iconst C (pc := 58) (v := 1) dX7_recall_58 (by decide) ?_
        refine x_iadd C (pc := 59) dX7_recall_59 ?_
        refine xP_wtimes C fl_X7_52 (v := (Y 115 0) + 1) dX7_recall_60 ?_
        refine x_aload_n C (pc := 63) dX7_recall_63 0 rfl rfl ?_
        refine x_iconst C (pc := 64) (v := 1) dX7_recall_64 (by decide) ?_
        refine xP_fresh C fl_X7_55 (v := 1) (by decide) (by decide) dX7_recall_65 ?_
        exact ret (ux (ux Y 115 0 ((Y 115 0) + 1)) 116 0 1) 68 _ dX7_recall_68 (by rw [hY, s_X7_recall, hxN, hjN]; rfl)
      · have hyb : (Y 20) = (X 20) := by rw [hY]; rfl
        have hys : (Y 113 0) = nI N := by rw [hY]; exact hs
        have hlt : j < N := ltN hi hys c20 (by omega)
        have hin : vp_in i 16 := by rw [hi]; exact vp_in_nI (by omega) (by decide)
        have hix : ix i = j := by rw [hi]; exact ix_nI (by omega)
        have hin2 : vp_in ((Y 20) (ix i)) 16 := by rw [hix, hyb]; exact hB j hlt
        refine x_aload_n C (pc := 23) dX7_recall_23 0 rfl rfl ?_
        refine xG_former C fl_X7_9 dX7_recall_24 ?_
        refine x_iload_n C (pc := 27) dX7_recall_27 3 rfl rfl ?_
        refine x_aload_n C (pc := 28) dX7_recall_28 1 rfl rfl ?_
        refine xG_board C fl_X7_49 dX7_recall_29 ?_
        refine x_iload_n C (pc := 32) dX7_recall_32 3 rfl rfl ?_
        refine xL_board C dX7_recall_33 (by assumption) ?_
        refine xS_former C dX7_recall_34 (by assumption) ?_
        refine x_aload_n C (pc := 35) dX7_recall_35 0 rfl rfl ?_
        refine xG_before C fl_X7_15 dX7_recall_36 ?_
        refine x_aload_n C (pc := 39) dX7_recall_39 1 rfl rfl ?_
        refine xG_board C fl_X7_49 dX7_recall_40 ?_
        refine x_iload_n C (pc := 43) dX7_recall_43 3 rfl rfl ?_
        refine xL_board C dX7_recall_44 (by assumption) ?_
        refine x_top (y := (Y 20 (ix i))) rfl ?_
        refine x_iload_n C (pc := 45) dX7_recall_45 3 rfl rfl ?_
        refine xS_before C dX7_recall_46 (by assumption) ?_
        refine x_iinc C (pc := 47) (v := i + 1) dX7_recall_47 3 [(0, .ref (G.1 7)), (1, .ref (G.1 2)), (2, .int lines), (3, .int (i + 1))] [1, 2, 3, 0] rfl (by rfl) (by decide) rfl ?_
        refine x_goto C (pc := 50) (tgt := 15) dX7_recall_50 (by decide) ?_
        exact ih15 (ux (ux Y 35 (ix i) (Y 20 (ix i))) 36 (ix (Y 20 (ix i))) i) (i + 1) (j + 1) (by omega) (by rw [hi]; exact nI_1 j) (by rw [hix, hyb, hY, ux_srn _ _ _ _ (by decide), ux_srs, ux_srs, recF_step, recB, hi]) (by omega)
  exact L15 _ (ux (ux X 113 0 (X 102 0)) 114 0 lines) 0 0 (Nat.zero_le _) rfl (by rw [recF_0, recB]; exact (sr2_self (ux (ux X 113 0 (X 102 0)) 114 0 lines) 35 36).symm) (Nat.lt_succ_self _)
theorem insL_pos {ai : Nat → Int32} {w : Int32} {k : Nat} {o : Nat → Int32} (hk : 0 < k) (h : ai (ix (o (k - 1))) ≤ ai (ix w)) : insL ai w k o = upd o k w := by
  obtain ⟨j, rfl⟩ : ∃ j, k = j + 1 := ⟨k - 1, by omega⟩
  have h : ai (ix (o j)) ≤ ai (ix w) := h
  rw [insL, if_pos h]
theorem insL_neg {ai : Nat → Int32} {w : Int32} {k : Nat} {o : Nat → Int32} (hk : 0 < k) (h : ¬ ai (ix (o (k - 1))) ≤ ai (ix w)) : insL ai w k o = insL ai w (k - 1) (upd o k (o (k - 1))) := by
  obtain ⟨j, rfl⟩ : ∃ j, k = j + 1 := ⟨k - 1, by omega⟩
  have h : ¬ ai (ix (o j)) ≤ ai (ix w) := h
  rw [insL, if_neg h]
  rfl
theorem nI_m1 {k : Nat} (h : 0 < k) : nI k - 1 = nI (k - 1) := by
  obtain ⟨j, rfl⟩ : ∃ j, k = j + 1 := ⟨k - 1, by omega⟩
  exact nI_pred j
theorem upd_in {f : Nat → Int32} {k : Nat} {v : Int32} {n m : Nat} (h : ∀ j, j < n → vp_in (f j) m) (hv : vp_in v m) : ∀ j, j < n → vp_in (upd f k v j) m := by
  intro j hj
  by_cases e : j = k
  · subst e; simpa [upd] using hv
  · simpa [upd, e] using h j hj

set_option maxHeartbeats 4000000 in
set_option maxRecDepth 100000 in
theorem c_X7_arrange (l : Launch) (D : va_G) (G : Gx) (N : Nat) (X : St)  (hN : N ≤ 16) (hs : (X 113 0) = nI N) (hB : ∀ r, r < N → vp_in ((X 35) r) 16) : Cv l yX7_arrange cX7_arrange 4 none 0 (xw G) D (tyG G) [.ref (G.1 7)] X (fun X1 => X1 = (sr X 40 (arrL (X 41) (X 35) (X 40) N))) := by
  refine m_v (nL := 4) (lv := [(0, .ref (G.1 7))]) [.ref (G.1 7)] RX7 rfl (xw_adr G) (by decide +kernel) (Nat.le_of_ble_eq_true rfl) rfl (fun K C ret => ?_)
  refine x_iconst C (pc := 0) (v := 0) dX7_arrange_0 (by decide) ?_
  refine x_istore_n C (pc := 1) dX7_arrange_1 [(0, .ref (G.1 7)), (1, .int 0)] [1, 0] rfl (by decide) rfl ?_
  have L2 : ∀ (n : Nat) (Y : St) (i : Int32) (j : Nat), (j ≤ N) → (i = nI j) → (Y = sr X 40 (arrL (X 41) (X 35) (X 40) j)) → (∀ r, r < j → vp_in ((Y 40) r) 16) → (N - j) < n → WX K (xw G) 4 Y 2 [(0, .ref (G.1 7)), (1, .int i)] [] := by
    intro n
    induction n with
    | zero => intro Y i j hj hi hY hO hmu2; exact absurd hmu2 (Nat.not_lt_zero _)
    | succ n2 ih2 =>
      intro Y i j hj hi hY hO hmu2
      refine x_iload_n C (pc := 2) dX7_arrange_2 1 rfl rfl ?_
      refine x_aload_n C (pc := 3) dX7_arrange_3 0 rfl rfl ?_
      refine xG_wstand C fl_X7_45 dX7_arrange_4 ?_
      refine x_icmp_ge C (pc := 7) (tgt := 78) dX7_arrange_7 (by decide) (fun c7 => ?_) (fun c7 => ?_)
      · have hys : (Y 113 0) = nI N := by rw [hY]; exact hs
        have hge : N ≤ j := geN hi hys c7 (by omega)
        have hjN : j = N := by omega
        exact ret Y 78 _ dX7_arrange_78 (by rw [hY, hjN])
      · have hyf : (Y 35) = (X 35) := by rw [hY]; rfl
        have hys : (Y 113 0) = nI N := by rw [hY]; exact hs
        have hlt : j < N := ltN hi hys c7 (by omega)
        have hin : vp_in i 16 := by rw [hi]; exact vp_in_nI (by omega) (by decide)
        have hix1 : ix i = j := by rw [hi]; exact ix_nI (by omega)
        have hw : (Y 35) (ix i) = (X 35) j := by rw [hix1, hyf]
        have hwin : vp_in ((Y 35) (ix i)) 16 := by rw [hw]; exact hB j hlt
        refine x_aload_n C (pc := 10) dX7_arrange_10 0 rfl rfl ?_
        refine xG_former C fl_X7_9 dX7_arrange_11 ?_
        refine x_iload_n C (pc := 14) dX7_arrange_14 1 rfl rfl ?_
        refine xL_former C dX7_arrange_15 (by assumption) ?_
        refine x_istore_n C (pc := 16) dX7_arrange_16 [(0, .ref (G.1 7)), (1, .int i), (2, .int (Y 35 (ix i)))] [1, 2, 0] rfl (by decide) rfl ?_
        refine x_iload_n C (pc := 17) dX7_arrange_17 1 rfl rfl ?_
        refine x_istore_n C (pc := 18) dX7_arrange_18 [(0, .ref (G.1 7)), (1, .int i), (2, .int (Y 35 (ix i))), (3, .int i)] [1, 2, 3, 0] rfl (by decide) rfl ?_
        have L19 : ∀ (n : Nat) (Z : St) (x : Int32) (k : Nat), (k ≤ j) → (x = nI k) → (Z = sr X 40 (Z 40)) → (insL (X 41) ((X 35) j) k (Z 40) = arrL (X 41) (X 35) (X 40) (j + 1)) → (∀ r, r < j + 1 → r ≠ k → vp_in ((Z 40) r) 16) → k < n → WX K (xw G) 4 Z 19 [(0, .ref (G.1 7)), (1, .int i), (2, .int (Y 35 (ix i))), (3, .int x)] [] := by
          intro n
          induction n with
          | zero => intro Z x k hk hx hZ hI hOz hmu19; exact absurd hmu19 (Nat.not_lt_zero _)
          | succ n19 ih19 =>
            intro Z x k hk hx hZ hI hOz hmu19
            refine x_iload_n C (pc := 19) dX7_arrange_19 3 rfl rfl ?_
            refine x_if_le C (pc := 20) (tgt := 65) dX7_arrange_20 (by decide) (fun c20 => ?_) (fun c20 => ?_)
            · have hix : ix x = k := by rw [hx]; exact ix_nI (by omega)
              have hin3 : vp_in x 16 := by rw [hx]; exact vp_in_nI (by omega) (by decide)
              have hfin : upd (Z 40) k ((X 35) j) = arrL (X 41) (X 35) (X 40) (j + 1) := by
                    rw [← hI]
                    rcases Nat.eq_zero_or_pos k with e | e
                    · rw [e, insL]
                    · have hc : (X 41) (ix ((Z 40) (k - 1))) ≤ (X 41) (ix ((X 35) j)) := by
                        by_cases hx0 : x ≤ 0
                        · rw [hx] at hx0; exact absurd hx0 (nI_nle e (by omega))
                        · first
                          | exact absurd c20 hx0
                          | simpa only [hZa, hix2, hw] using c42
                      rw [insL_pos e hc]
              have hZ2 : ux Z 40 (ix x) ((Y 35) (ix i)) = sr X 40 (arrL (X 41) (X 35) (X 40) (j + 1)) := by rw [hix, hw, ← hfin]; rw (occs := .pos [1]) [hZ]; rw [ux_srs]
              have hO2 : ∀ r, r < j + 1 → vp_in ((ux Z 40 (ix x) ((Y 35) (ix i))) 40 r) 16 := fun r h1 => by
                    rw [ux_s, hix]
                    by_cases e : r = k
                    · simp only [upd, e, if_true]; exact hwin
                    · simp only [upd, e, if_false]; exact hOz r h1 e
              refine x_aload_n C (pc := 65) dX7_arrange_65 0 rfl rfl ?_
              refine xG_order C fl_X7_27 dX7_arrange_66 ?_
              refine x_iload_n C (pc := 69) dX7_arrange_69 3 rfl rfl ?_
              refine x_iload_n C (pc := 70) dX7_arrange_70 2 rfl rfl ?_
              refine xS_order C dX7_arrange_71 (by assumption) ?_
              refine x_iinc C (pc := 72) (v := i + 1) dX7_arrange_72 1 [(0, .ref (G.1 7)), (1, .int (i + 1)), (2, .int (Y 35 (ix i))), (3, .int x)] [1, 0, 2, 3] rfl (by rfl) (by decide) rfl ?_
              refine x_goto C (pc := 75) (tgt := 2) dX7_arrange_75 (by decide) ?_
              refine x_sub [(0, .ref (G.1 7)), (1, .int (i + 1))] [0, 1] rfl ?_
              exact ih2 (ux Z 40 (ix x) (Y 35 (ix i))) (i + 1) (j + 1) (by omega) (by rw [hi]; exact nI_1 j) hZ2 hO2 (by omega)
            · have hk0 : 0 < k := Nat.pos_of_ne_zero (fun e => c20 (by rw [hx, e]; exact (by decide : nI 0 ≤ 0)))
              have hxm : x - 1 = nI (k - 1) := by rw [hx]; exact nI_m1 hk0
              have hix2 : ix (x - 1) = k - 1 := by rw [hxm]; exact ix_nI (by omega)
              have hix : ix x = k := by rw [hx]; exact ix_nI (by omega)
              have hin2 : vp_in (x - 1) 16 := by rw [hxm]; exact vp_in_nI (by omega) (by decide)
              have hin3 : vp_in x 16 := by rw [hx]; exact vp_in_nI (by omega) (by decide)
              have hZa : (Z 41) = (X 41) := by rw [hZ]; rfl
              have hoin : vp_in ((Z 40) (ix (x - 1))) 16 := by rw [hix2]; exact hOz (k - 1) (by omega) (by omega)
              refine x_aload_n C (pc := 23) dX7_arrange_23 0 rfl rfl ?_
              refine xG_aims C fl_X7_30 dX7_arrange_24 ?_
              refine x_aload_n C (pc := 27) dX7_arrange_27 0 rfl rfl ?_
              refine xG_order C fl_X7_27 dX7_arrange_28 ?_
              refine x_iload_n C (pc := 31) dX7_arrange_31 3 rfl rfl ?_
              refine x_iconst C (pc := 32) (v := 1) dX7_arrange_32 (by decide) ?_
              refine x_isub C (pc := 33) dX7_arrange_33 ?_
              refine xL_order C dX7_arrange_34 (by assumption) ?_
              refine xL_aims C dX7_arrange_35 (by assumption) ?_
              refine x_aload_n C (pc := 36) dX7_arrange_36 0 rfl rfl ?_
              refine xG_aims C fl_X7_30 dX7_arrange_37 ?_
              refine x_iload_n C (pc := 40) dX7_arrange_40 2 rfl rfl ?_
              refine xL_aims C dX7_arrange_41 (by assumption) ?_
              refine x_icmp_le C (pc := 42) (tgt := 65) dX7_arrange_42 (by decide) (fun c42 => ?_) (fun c42 => ?_)
              · have hix : ix x = k := by rw [hx]; exact ix_nI (by omega)
                have hin3 : vp_in x 16 := by rw [hx]; exact vp_in_nI (by omega) (by decide)
                have hfin : upd (Z 40) k ((X 35) j) = arrL (X 41) (X 35) (X 40) (j + 1) := by
                      rw [← hI]
                      rcases Nat.eq_zero_or_pos k with e | e
                      · rw [e, insL]
                      · have hc : (X 41) (ix ((Z 40) (k - 1))) ≤ (X 41) (ix ((X 35) j)) := by
                          by_cases hx0 : x ≤ 0
                          · rw [hx] at hx0; exact absurd hx0 (nI_nle e (by omega))
                          · first
                            | exact absurd c20 hx0
                            | simpa only [hZa, hix2, hw] using c42
                        rw [insL_pos e hc]
                have hZ2 : ux Z 40 (ix x) ((Y 35) (ix i)) = sr X 40 (arrL (X 41) (X 35) (X 40) (j + 1)) := by rw [hix, hw, ← hfin]; rw (occs := .pos [1]) [hZ]; rw [ux_srs]
                have hO2 : ∀ r, r < j + 1 → vp_in ((ux Z 40 (ix x) ((Y 35) (ix i))) 40 r) 16 := fun r h1 => by
                      rw [ux_s, hix]
                      by_cases e : r = k
                      · simp only [upd, e, if_true]; exact hwin
                      · simp only [upd, e, if_false]; exact hOz r h1 e
                refine x_aload_n C (pc := 65) dX7_arrange_65 0 rfl rfl ?_
                refine xG_order C fl_X7_27 dX7_arrange_66 ?_
                refine x_iload_n C (pc := 69) dX7_arrange_69 3 rfl rfl ?_
                refine x_iload_n C (pc := 70) dX7_arrange_70 2 rfl rfl ?_
                refine xS_order C dX7_arrange_71 (by assumption) ?_
                refine x_iinc C (pc := 72) (v := i + 1) dX7_arrange_72 1 [(0, .ref (G.1 7)), (1, .int (i + 1)), (2, .int (Y 35 (ix i))), (3, .int x)] [1, 0, 2, 3] rfl (by rfl) (by decide) rfl ?_
                refine x_goto C (pc := 75) (tgt := 2) dX7_arrange_75 (by decide) ?_
                refine x_sub [(0, .ref (G.1 7)), (1, .int (i + 1))] [0, 1] rfl ?_
                exact ih2 (ux Z 40 (ix x) (Y 35 (ix i))) (i + 1) (j + 1) (by omega) (by rw [hi]; exact nI_1 j) hZ2 hO2 (by omega)
              · have hc : ¬ (X 41) (ix ((Z 40) (k - 1))) ≤ (X 41) (ix ((X 35) j)) := by rw [hZa, hix2, hw] at c42; exact c42
                have hZo1 : sr X 40 (Z 40) 40 = (Z 40) := sr_s _ _ _
                have hZin : ∀ r, r < j + 1 → r ≠ k - 1 → vp_in (upd (Z 40) (ix x) ((Z 40) (ix (x - 1))) r) 16 := fun r h1 h2 => by
                      by_cases e : r = k
                      · simp only [upd, hix, e, if_true]; exact hoin
                      · simp only [upd, hix, e, if_false]; exact hOz r h1 e
                refine x_aload_n C (pc := 45) dX7_arrange_45 0 rfl rfl ?_
                refine xG_order C fl_X7_27 dX7_arrange_46 ?_
                refine x_iload_n C (pc := 49) dX7_arrange_49 3 rfl rfl ?_
                refine x_aload_n C (pc := 50) dX7_arrange_50 0 rfl rfl ?_
                refine xG_order C fl_X7_27 dX7_arrange_51 ?_
                refine x_iload_n C (pc := 54) dX7_arrange_54 3 rfl rfl ?_
                refine x_iconst C (pc := 55) (v := 1) dX7_arrange_55 (by decide) ?_
                refine x_isub C (pc := 56) dX7_arrange_56 ?_
                refine xL_order C dX7_arrange_57 (by assumption) ?_
                refine xS_order C dX7_arrange_58 (by assumption) ?_
                refine x_iinc C (pc := 59) (v := x + (-1)) dX7_arrange_59 3 [(0, .ref (G.1 7)), (1, .int i), (2, .int (Y 35 (ix i))), (3, .int (x + (-1)))] [1, 2, 3, 0] rfl (by rfl) (by decide) rfl ?_
                refine x_goto C (pc := 62) (tgt := 19) dX7_arrange_62 (by decide) ?_
                exact ih19 (ux Z 40 (ix x) (Z 40 (ix (x - 1)))) (x + (-1)) (k - 1) (by omega) (by rw [← hxm, Int32.sub_eq_add_neg]) (by rw [ux_s]; rw (occs := .pos [1]) [hZ]; rw [ux_srs]) (by rw [ux_s, hix, hix2, ← hI, insL_neg hk0 hc]) (fun r h1 h2 => by rw [ux_s]; exact hZin r h1 h2) (by omega)
        exact L19 _ Y i j (Nat.le_refl _) hi (by rw [hY, sr_s]) (by rw [arrL, hY, sr_s]) (fun r h1 h2 => hO r (by omega)) (Nat.lt_succ_self _)
  exact L2 _ X 0 0 (Nat.zero_le _) rfl (by rw [arrL]; exact (sr_self X _).symm) (fun r h => absurd h (Nat.not_lt_zero _)) (Nat.lt_succ_self _)
