
theorem ux_at (X : St) (a k : Nat) (v : Int32) : ux X a k v a k = v := by
  rw [ux_s]
  simp [upd]
def vin (v lo hi : Int32) : Int32 := if v < lo then 0 else if hi < v then 0 else 1
theorem vin_in {v : Int32} {n : Nat} (h : ¬ vin v 0 (nI n - 1) = 0) (h0 : 0 < n) (hn : n < 2 ^ 31) : vp_in v n := by
  unfold vin at h
  by_cases h1 : v < 0
  · rw [if_pos h1] at h; exact absurd rfl h
  · by_cases h2 : nI n - 1 < v
    · rw [if_neg h1, if_pos h2] at h; exact absurd rfl h
    · refine in_of h1 (fun h3 => h2 ?_) hn
      rw [nI_m1 h0]
      exact Int32.lt_of_lt_of_le (nI_lt (by omega) hn) h3
theorem vin_no {v : Int32} (h : ¬ vin v 0 (nI 0 - 1) = 0) : False := by
  unfold vin at h
  by_cases h1 : v < 0
  · rw [if_pos h1] at h; exact h rfl
  · by_cases h2 : nI 0 - 1 < v
    · rw [if_neg h1, if_pos h2] at h; exact h rfl
    · exact h2 (Int32.lt_of_lt_of_le (by decide : nI 0 - 1 < 0) (Int32.not_lt.mp h1))
theorem vin_lt {v : Int32} {n : Nat} (h : ¬ vin v 0 (nI n - 1) = 0) (hn : n < 2 ^ 31) : vp_in v n := by
  rcases Nat.eq_zero_or_pos n with e | e
  · subst e; exact absurd (vin_no h) (by simp)
  · exact vin_in h e hn
theorem vin_b {v lo hi : Int32} : narrow .boolean (.int (vin v lo hi)) = .int (vin v lo hi) := by
  unfold vin
  by_cases h1 : v < lo
  · rw [if_pos h1]; rfl
  · rw [if_neg h1]
    by_cases h2 : hi < v
    · rw [if_pos h2]; rfl
    · rw [if_neg h2]; rfl
def sM_found (M : St) (f : Int32) : St := ux (ux M 100 0 f) 1 (ix f) ((M 1) (ix f) + 1)
def vM_findings (M : St) (f : Int32) : Int32 := if vin f 1 5 = 0 then (-1) else (M 1) (ix f)
def rgS (bd : Nat → Int32) (w : Int32) : Nat → Nat → Int32
  | 0, _ => -9
  | n + 1, i => if bd i = w then nI i else rgS bd w n (i + 1)
def vM_isOne (M : St) (w : Int32) : Int32 := vin w 0 ((M 101 0) - 1)
theorem isOne_in {M : St} {w : Int32} {E : Nat} (h : ¬ vM_isOne M w = 0) (hE : (M 101 0) = nI E) (h16 : E ≤ 16) : vp_in w 16 := by
  unfold vM_isOne at h
  rw [hE] at h
  have h2 := vin_lt h (by omega)
  rw [in_nI h2 (by omega)]
  exact vp_in_nI (by have := in_ix h2; omega) (by decide)
def vM_need (M : St) (g w : Int32) : Int32 := if vM_isOne M w = 0 then (-1) else if g = 0 then (-1) else if (M 5) (ix w) = 0 then 0 else (-3)
def sM_need (M : St) (g w : Int32) : St := if vM_isOne M w = 0 then M else if g = 0 then M else if (M 5) (ix w) = 0 then M else sM_found M 1
theorem need_kn {M : St} {g w : Int32} (h : 0 ≤ vM_need M g w) : ¬ vM_isOne M w = 0 ∧ ¬ g = 0 ∧ (M 5) (ix w) = 0 := by
  unfold vM_need at h
  by_cases h1 : vM_isOne M w = 0
  · rw [if_pos h1] at h; exact absurd h (by decide)
  · by_cases h2 : g = 0
    · rw [if_neg h1, if_pos h2] at h; exact absurd h (by decide)
    · by_cases h3 : (M 5) (ix w) = 0
      · exact ⟨h1, h2, h3⟩
      · rw [if_neg h1, if_neg h2, if_neg h3] at h; exact absurd h (by decide)
theorem need_id {M : St} {g w : Int32} (h : 0 ≤ vM_need M g w) : sM_need M g w = M := by
  obtain ⟨h1, h2, h3⟩ := need_kn h
  unfold sM_need
  rw [if_neg h1, if_neg h2, if_pos h3]
def vM_wr (M : St) (k s n : Int32) : Int32 := if vin k 0 2 = 0 then (-1) else if vin s 0 7 = 0 then (-1) else if n = (-9) then (if (M 101 0) = 16 then (-2) else if (M 103 0) = 0 then (M 101 0) + 1 - 1 else (-4)) else if vin n 0 7 = 0 then (-1) else (if (M 101 0) = 16 then (-2) else if (M 103 0) = 0 then (M 101 0) + 1 - 1 else (-4))
def sM_wr1 (M : St) (k s n : Int32) : St := ux (ux (ux (ux (ux (ux (ux M 2 (ix (M 101 0)) k) 3 (ix (M 101 0)) s) 4 (ix (M 101 0)) n) 11 (ix (M 102 0)) (M 101 0)) 102 0 ((M 102 0) + 1)) 101 0 ((M 101 0) + 1)) 114 0 0
def sM_wr (M : St) (k s n : Int32) : St := if vin k 0 2 = 0 then M else if vin s 0 7 = 0 then M else if n = (-9) then (if (M 101 0) = 16 then M else if (M 103 0) = 0 then sM_wr1 M k s n else M) else if vin n 0 7 = 0 then M else (if (M 101 0) = 16 then M else if (M 103 0) = 0 then sM_wr1 M k s n else M)
def vM_leave (M : St) (w : Int32) (N : Nat) : Int32 := if vM_isOne M w = 0 then (-1) else if (M 103 0) = 0 then (if (M 5) (ix w) = 0 then rgS (M 11) w N 0 else (-3)) else (-4)
def sM_leave (M : St) (w : Int32) (N : Nat) : St := if vM_isOne M w = 0 then M else if (M 103 0) = 0 then (if (M 5) (ix w) = 0 then ux (ux (ux (sr M 11 (shB (M 11) (ix (rgS (M 11) w N 0)) (N - 1))) 102 0 ((M 102 0) - 1)) 5 (ix w) 1) 114 0 0 else sM_found M 1) else M
def vM_toldOf (M : St) (w what : Int32) (N : Nat) : Int32 := if what = 0 then (M 2) (ix w) else if what = 1 then (M 3) (ix w) else if what = 2 then (M 4) (ix w) else if what = 3 then rgS (M 11) w N 0 else if what = 4 then (M 7) (ix w) else if what = 5 then (M 8) (ix w) else (M 9) (ix w)
def vM_told (M : St) (w what : Int32) (N : Nat) : Int32 := if 0 ≤ vM_need M (vin what 0 6) w then vM_toldOf M w what N else vM_need M (vin what 0 6) w
def vM_is (M : St) (w k : Int32) : Int32 := if 0 ≤ vM_need M (vin k 0 2) w then (if k = 0 then 1 else if (M 2) (ix w) = k then 1 else 0) else vM_need M (vin k 0 2) w
def vM_on (M : St) (r : Int32) : Int32 := if vin r 0 ((M 102 0) - 1) = 0 then (-9) else (M 11) (ix r)
def vM_mark (M : St) (w k : Int32) : Int32 := if 0 ≤ vM_need M (vin k 1 2) w then (if (M 2) (ix w) = k then (M 10) (ix w) else (-3)) else vM_need M (vin k 1 2) w
def sM_mark (M : St) (w k : Int32) : St := if 0 ≤ vM_need M (vin k 1 2) w then (if (M 2) (ix w) = k then M else sM_found M 3) else sM_need M (vin k 1 2) w
def vM_tear (M : St) (s : Int32) : Int32 := if vin s 0 3 = 0 then (-1) else if 0 ≤ (M 12) (ix s) then 1 else (-3)
def sM_tear (M : St) (s : Int32) : St := if vin s 0 3 = 0 then M else if 0 ≤ (M 12) (ix s) then ux M 12 (ix s) (-1) else sM_found M 1
def vM_lay (M : St) (s i : Int32) : Int32 := if vin s 0 3 = 0 then (-1) else if 0 ≤ (M 12) (ix s) then (if vin i 0 ((M 12) (ix s) - 1) = 0 then (-3) else 1000 + (M 13) (ix (16 * s + i))) else (-3)
def sM_lay (M : St) (s i v : Int32) : St := if vin s 0 3 = 0 then M else if 0 ≤ (M 12) (ix s) then (if vin i 0 ((M 12) (ix s) - 1) = 0 then sM_found M 2 else ux M 13 (ix (16 * s + i)) (vp_nar .byte v.toInt8.toInt32)) else sM_found M 1
def vM_prices (M : St) (s : Int32) : Int32 := if s = (-9) then (M 104 0) else if vin s 0 3 = 0 then (-1) else if 0 ≤ (M 12) (ix s) then (M 104 0) else (-3)
def sM_prices (M : St) (s : Int32) : St := if s = (-9) then ux M 104 0 s else if vin s 0 3 = 0 then M else if 0 ≤ (M 12) (ix s) then ux M 104 0 s else sM_found M 1
def vM_priceOf (M : St) (n : Int32) : Int32 := if (M 104 0) = (-9) then 4 * n * n else if 0 ≤ (M 12) (ix (M 104 0)) then (if (M 12) (ix (M 104 0)) = 0 then 0 else if (M 12) (ix (M 104 0)) ≤ n then (if 0 ≤ (M 13) (ix (16 * (M 104 0) + ((M 12) (ix (M 104 0)) - 1))) then (M 13) (ix (16 * (M 104 0) + ((M 12) (ix (M 104 0)) - 1))) else 0) else (if 0 ≤ (M 13) (ix (16 * (M 104 0) + n)) then (M 13) (ix (16 * (M 104 0) + n)) else 0)) else 4 * n * n
def vM_price (M : St) (n : Int32) : Int32 := if vin n 0 15 = 0 then (-1) else vM_priceOf M n
def vM_absent (M : St) (w : Int32) : Int32 := if 0 ≤ vM_need M 1 w then (if (M 6) (ix w) = 0 then 0 else 1) else vM_need M 1 w
def sM_absent (M : St) (w a : Int32) : St := if 0 ≤ vM_need M 1 w then ux M 6 (ix w) (vp_nar .boolean a) else sM_need M 1 w
def vM_wonB (M : St) (k u : Int32) : Int32 := if u = 0 then (M 17) (ix k) else (M 16) (ix k)
def vM_losB (M : St) (k u : Int32) : Int32 := if u = 0 then (M 16) (ix k) else (M 17) (ix k)
def vM_result (M : St) (k : Int32) : Int32 := if vin k 0 ((M 107 0) - 1) = 0 then (-1) else if (M 18) (ix k) = (-9) then 1 else (-4)
def sM_res (M : St) (k u : Int32) : St := ux (ux (ux (ux M 18 (ix k) (vM_wonB M k u)) 7 (ix (vM_wonB M k u)) ((M 7) (ix (vM_wonB M k u)) + 1)) 8 (ix (vM_losB M k u)) ((M 8) (ix (vM_losB M k u)) + 1)) 108 0 ((M 108 0) - 1)
def sM_result (M : St) (k u : Int32) : St := if vin k 0 ((M 107 0) - 1) = 0 then M else if (M 18) (ix k) = (-9) then sM_res M k u else M
def vM_boutTold (M : St) (k what : Int32) : Int32 := if what = 0 then (M 15) (ix k) else if what = 1 then (M 16) (ix k) else if what = 2 then (M 17) (ix k) else (M 18) (ix k)
def vM_bout (M : St) (k what : Int32) : Int32 := if vin k 0 ((M 107 0) - 1) = 0 then (-1) else if vin what 0 3 = 0 then (-1) else vM_boutTold M k what
def vM_line (M : St) (lo hi up : Int32) : Int32 := if hi < lo then (-1) else if vin up (-15) 15 = 0 then (-1) else if (M 112 0) = 12 then (-2) else (M 112 0) + 1 - 1
def sM_line (M : St) (lo hi up : Int32) : St := if hi < lo then M else if vin up (-15) 15 = 0 then M else if (M 112 0) = 12 then M else ux (ux (ux (ux M 22 (ix (M 112 0)) lo) 23 (ix (M 112 0)) hi) 24 (ix (M 112 0)) up) 112 0 ((M 112 0) + 1)
def vM_up (M : St) (ln : Int32) : Int32 := if ln = (-9) then 0 else (M 24) (ix ln)
def vM_goesUp (M : St) (w ln : Int32) : Int32 := if (M 2) (ix w) = 1 then (if (-1) ≤ vM_up M ln then (if (M 2) (ix w) = 2 then (if vM_up M ln ≤ 0 then vM_up M ln else 2 * vM_up M ln) else vM_up M ln) else (-1)) else if (M 2) (ix w) = 2 then (if vM_up M ln ≤ 0 then vM_up M ln else 2 * vM_up M ln) else vM_up M ln
def vM_why (M : St) (w : Int32) : Int32 := if 0 ≤ vM_need M 1 w then (M 25) (ix w) else vM_need M 1 w
def vM_rungBeside (M : St) (w : Int32) : Int32 := if 0 ≤ vM_need M 1 w then (M 28) (ix w) else vM_need M 1 w
def vM_ov (M : St) (a b : Int32) : Int32 := if (M 26) (ix a) = (-9) then 0 else if (M 26) (ix b) = (-9) then 0 else if (M 26) (ix a) ≤ (M 26) (ix b) then 0 else if (M 27) (ix b) ≤ (M 27) (ix a) then 0 else 1
def vM_passed (M : St) (a b : Int32) : Int32 := if vM_isOne M a = 0 then (-1) else if vM_isOne M b = 0 then (-1) else if (M 5) (ix a) = 0 then (if (M 5) (ix b) = 0 then vM_ov M a b else (-3)) else (-3)
def sM_passed (M : St) (a b : Int32) : St := if vM_isOne M a = 0 then M else if vM_isOne M b = 0 then M else if (M 5) (ix a) = 0 then (if (M 5) (ix b) = 0 then M else sM_found M 1) else sM_found M 1
def vM_left (M : St) : Int32 := if (M 117 0) = 1 then 1 else (M 117 0)
def sM_left (M : St) : St := if (M 117 0) = 1 then ux (ux (ux M 118 0 ((M 33) 0)) 9 (ix ((M 33) 0)) ((M 9) (ix ((M 33) 0)) + 1)) 117 0 0 else M
def vM_meets (M : St) (a : Int32) : Int32 := if 2 ≤ (M 117 0) then (if a = 0 then (M 33) 0 else (M 33) 1) else (-9)
def vM_count (M : St) (what : Int32) : Int32 := if what = 0 then (M 101 0) else if what = 1 then (M 102 0) else if what = 2 then (M 106 0) else if what = 3 then (if (M 103 0) = 0 then 0 else (M 105 0)) else if what = 4 then (M 107 0) else if what = 5 then (M 108 0) else if what = 6 then (M 112 0) else if what = 7 then (M 113 0) else (-1)
def sM_addBout (M : St) (a b : Int32) : St := ux (ux (ux (ux (ux (ux M 15 (ix (M 107 0)) (M 106 0)) 16 (ix (M 107 0)) a) 17 (ix (M 107 0)) b) 18 (ix (M 107 0)) (-9)) 107 0 ((M 107 0) + 1)) 108 0 ((M 108 0) + 1)
theorem vinS_in {s : Int32} (h : ¬ vin s 0 3 = 0) : vp_in s 4 := vin_in (n := 4) h (by decide) (by decide)
theorem ix16 {s i : Int32} {a b : Nat} (hs : s = nI a) (hi : i = nI b) : 16 * s + i = nI (16 * a + b) := by
  rw [hs, hi, show (16 : Int32) = nI 16 from rfl, pk_mul, nI_add]
theorem in16 {s i : Int32} (hs : vp_in s 4) (hi : vp_in i 16) : vp_in (16 * s + i) 64 := by
  have h1 := in_ix hs
  have h2 := in_ix hi
  rw [ix16 (in_nI hs (by decide)) (in_nI hi (by decide))]
  exact vp_in_nI (by omega) (by decide)

theorem lfr_skip {lo hi : Nat → Int32} {s : Int32} {n i : Nat} (h : vin s (lo i) (hi i) = 0) : lfr lo hi s (n + 1) i = lfr lo hi s n (i + 1) := by
  rw [lfr]
  unfold vin at h
  by_cases h1 : s < lo i
  · rw [if_pos h1]
  · rw [if_neg h1]
    by_cases h2 : hi i < s
    · rw [if_pos h2]
    · rw [if_neg h1, if_neg h2] at h; exact absurd h (by decide)
theorem lfr_hit {lo hi : Nat → Int32} {s : Int32} {n i : Nat} (h : ¬ vin s (lo i) (hi i) = 0) : lfr lo hi s (n + 1) i = nI i := by
  rw [lfr]
  unfold vin at h
  by_cases h1 : s < lo i
  · rw [if_pos h1] at h; exact absurd rfl h
  · rw [if_neg h1]
    by_cases h2 : hi i < s
    · rw [if_neg h1, if_pos h2] at h; exact absurd rfl h
    · rw [if_neg h2]
set_option maxHeartbeats 4000000 in
set_option maxRecDepth 100000 in
theorem c_X9_in (l : Launch) (D : va_G) (G : Gx) (M : St) (v : Int32) (lo : Int32) (hi : Int32) : Ci l yX9_in cX9_in 3 (some .boolean) 0 (mw G) D (tyG G) [.int v, .int lo, .int hi] M (fun r X1 => r = (vin v lo hi) ∧ X1 = M) := by
  refine m_z (nL := 3) (lv := [(0, .int v), (1, .int lo), (2, .int hi)]) [.int v, .int lo, .int hi] RX9 rfl (mw_adr G) (by decide +kernel) (Nat.le_of_ble_eq_true rfl) rfl (fun K C ret => ?_)
  refine x_iload_n C (pc := 0) dX9_in_0 0 rfl rfl ?_
  refine x_iload_n C (pc := 1) dX9_in_1 1 rfl rfl ?_
  refine x_icmp_lt C (pc := 2) (tgt := 14) dX9_in_2 (by decide) (fun c2 => ?_) (fun c2 => ?_)
  · refine x_iconst C (pc := 14) (v := 0) dX9_in_14 (by decide) ?_
    exact ret 0 M 15 _ dX9_in_15 rfl ⟨by unfold vin; (repeat (first | rw [if_pos (by assumption)] | rw [if_neg (by assumption)])) <;> first | rfl , rfl⟩
  · refine x_iload_n C (pc := 5) dX9_in_5 0 rfl rfl ?_
    refine x_iload_n C (pc := 6) dX9_in_6 2 rfl rfl ?_
    refine x_icmp_gt C (pc := 7) (tgt := 14) dX9_in_7 (by decide) (fun c7 => ?_) (fun c7 => ?_)
    · refine x_iconst C (pc := 14) (v := 0) dX9_in_14 (by decide) ?_
      exact ret 0 M 15 _ dX9_in_15 rfl ⟨by unfold vin; (repeat (first | rw [if_pos (by assumption)] | rw [if_neg (by assumption)])) <;> first | rfl , rfl⟩
    · refine x_iconst C (pc := 10) (v := 1) dX9_in_10 (by decide) ?_
      refine x_goto C (pc := 11) (tgt := 15) dX9_in_11 (by decide) ?_
      exact ret 1 M 15 _ dX9_in_15 rfl ⟨by unfold vin; (repeat (first | rw [if_pos (by assumption)] | rw [if_neg (by assumption)])) <;> first | rfl , rfl⟩
set_option maxHeartbeats 4000000 in
set_option maxRecDepth 100000 in
theorem c_X9_meets (l : Launch) (D : va_G) (G : Gx) (M : St) (f : Int32) (hf : vp_in f 6) : Ci l yX9_meets cX9_meets 2 (some .int) 0 (mw G) D (tyG G) [.ref (G.1 0), .int f] M (fun r X1 => r = (-3) ∧ X1 = (sM_found M f)) := by
  refine m_i (nL := 2) (lv := [(0, .ref (G.1 0)), (1, .int f)]) [.ref (G.1 0), .int f] RX9 rfl (mw_adr G) (by decide +kernel) (Nat.le_of_ble_eq_true rfl) rfl (fun K C ret => ?_)
  refine x_aload_n C (pc := 0) dX9_meets_0 0 rfl rfl ?_
  refine x_iload_n C (pc := 1) dX9_meets_1 1 rfl rfl ?_
  refine mP_latest C fl_X9_119 (v := f) dX9_meets_2 ?_
  refine x_aload_n C (pc := 5) dX9_meets_5 0 rfl rfl ?_
  refine mG_came C fl_X9_7 dX9_meets_6 ?_
  refine x_iload_n C (pc := 9) dX9_meets_9 1 rfl rfl ?_
  refine x_dup2 C (pc := 10) dX9_meets_10 rfl rfl ?_
  refine mL_came C dX9_meets_11 (by assumption) ?_
  refine x_top (y := (M 1 (ix f))) rfl ?_
  refine x_iconst C (pc := 12) (v := 1) dX9_meets_12 (by decide) ?_
  refine x_iadd C (pc := 13) dX9_meets_13 ?_
  refine mS_came C dX9_meets_14 (by assumption) ?_
  refine x_bipush C (pc := 15) (v := (-3)) dX9_meets_15 (by decide) ?_
  exact ret (-3) (ux (ux M 100 0 f) 1 (ix f) ((M 1 (ix f)) + 1)) 17 _ dX9_meets_17 ⟨rfl, rfl⟩
set_option maxHeartbeats 4000000 in
set_option maxRecDepth 100000 in
theorem c_X9_finding (l : Launch) (D : va_G) (G : Gx) (M : St)  : Ci l yX9_finding cX9_finding 1 (some .int) 0 (mw G) D (tyG G) [.ref (G.1 0)] M (fun r X1 => r = (M 100 0) ∧ X1 = M) := by
  refine m_i (nL := 1) (lv := [(0, .ref (G.1 0))]) [.ref (G.1 0)] RX9 rfl (mw_adr G) (by decide +kernel) (Nat.le_of_ble_eq_true rfl) rfl (fun K C ret => ?_)
  refine x_aload_n C (pc := 0) dX9_finding_0 0 rfl rfl ?_
  refine mG_latest C fl_X9_119 dX9_finding_1 ?_
  exact ret (M 100 0) M 4 _ dX9_finding_4 ⟨rfl, rfl⟩
theorem vin15_in {f : Int32} (h : ¬ vin f 1 5 = 0) : vp_in f 6 := by
  unfold vin at h
  by_cases h1 : f < 1
  · rw [if_pos h1] at h; exact absurd rfl h
  · by_cases h2 : 5 < f
    · rw [if_neg h1, if_pos h2] at h; exact absurd rfl h
    · exact in_16 h1 (Int32.not_lt.mp h2)

set_option maxHeartbeats 4000000 in
set_option maxRecDepth 100000 in
theorem c_X9_findings (l : Launch) (D : va_G) (G : Gx) (M : St) (f : Int32) : Ci l yX9_findings cX9_findings 2 (some .int) 1 (mw G) D (tyG G) [.ref (G.1 0), .int f] M (fun r X1 => r = (vM_findings M f) ∧ X1 = M) := by
  refine m_i (nL := 2) (lv := [(0, .ref (G.1 0)), (1, .int f)]) [.ref (G.1 0), .int f] RX9 rfl (mw_adr G) (by decide +kernel) (Nat.le_of_ble_eq_true rfl) rfl (fun K C ret => ?_)
  refine x_iload_n C (pc := 0) dX9_findings_0 1 rfl rfl ?_
  refine x_iconst C (pc := 1) (v := 1) dX9_findings_1 (by decide) ?_
  refine x_iconst C (pc := 2) (v := 5) dX9_findings_2 (by decide) ?_
  refine x_callSi C (pc := 3) [.int f, .int 1, .int 5] (fun l D => c_X9_in l D G M f 1 5 ) ml_X9_122 co_X9_in st_X9_in in_X9 hy_X9_in.2 (by decide) (by decide) (Nat.le_of_ble_eq_true rfl) dX9_findings_3 rfl (kx ?_)
  refine x_if_eq C (pc := 6) (tgt := 18) dX9_findings_6 (by decide) (fun c6 => ?_) (fun c6 => ?_)
  · refine x_iconst C (pc := 18) (v := (-1)) dX9_findings_18 (by decide) ?_
    exact ret (-1) M 19 _ dX9_findings_19 ⟨by unfold vM_findings; (repeat (first | rw [if_pos (by assumption)] | rw [if_neg (by assumption)])) <;> first | rfl , rfl⟩
  · refine x_aload_n C (pc := 9) dX9_findings_9 0 rfl rfl ?_
    refine mG_came C fl_X9_7 dX9_findings_10 ?_
    refine x_iload_n C (pc := 13) dX9_findings_13 1 rfl rfl ?_
    refine mL_came C dX9_findings_14 (vin15_in c6) ?_
    refine x_goto C (pc := 15) (tgt := 19) dX9_findings_15 (by decide) ?_
    exact ret (M 1 (ix f)) M 19 _ dX9_findings_19 ⟨by unfold vM_findings; (repeat (first | rw [if_pos (by assumption)] | rw [if_neg (by assumption)])) <;> first | rfl , rfl⟩
set_option maxHeartbeats 4000000 in
set_option maxRecDepth 100000 in
theorem c_X9_rungOf (l : Launch) (D : va_G) (G : Gx) (N : Nat) (M : St) (w : Int32) (hS : (M 102 0) = nI N) (hN16 : N ≤ 16) : Ci l yX9_rungOf cX9_rungOf 3 (some .int) 0 (mw G) D (tyG G) [.ref (G.1 0), .int w] M (fun r X1 => r = (rgS (M 11) w N 0) ∧ X1 = M) := by
  refine m_i (nL := 3) (lv := [(0, .ref (G.1 0)), (1, .int w)]) [.ref (G.1 0), .int w] RX9 rfl (mw_adr G) (by decide +kernel) (Nat.le_of_ble_eq_true rfl) rfl (fun K C ret => ?_)
  refine x_iconst C (pc := 0) (v := 0) dX9_rungOf_0 (by decide) ?_
  refine x_istore_n C (pc := 1) dX9_rungOf_1 [(0, .ref (G.1 0)), (1, .int w), (2, .int 0)] [1, 2, 0] rfl (by decide) rfl ?_
  have L2 : ∀ (nu : Nat) (i : Int32) (j : Nat), (j ≤ N) → (i = nI j) → (rgS (M 11) w N 0 = rgS (M 11) w (N - j) j) → (N - j) < nu → WX K (mw G) 3 M 2 [(0, .ref (G.1 0)), (1, .int w), (2, .int i)] [] := by
    intro nu
    induction nu with
    | zero => intro i j hj hi he hmu2; exact absurd hmu2 (Nat.not_lt_zero _)
    | succ n2 ih2 =>
      intro i j hj hi he hmu2
      refine x_iload_n C (pc := 2) dX9_rungOf_2 2 rfl rfl ?_
      refine x_aload_n C (pc := 3) dX9_rungOf_3 0 rfl rfl ?_
      refine mG_there C fl_X9_126 dX9_rungOf_4 ?_
      refine x_icmp_ge C (pc := 7) (tgt := 28) dX9_rungOf_7 (by decide) (fun c7 => ?_) (fun c7 => ?_)
      · have hge : N ≤ j := geN hi hS c7 (by omega)
        refine x_bipush C (pc := 28) (v := (-9)) dX9_rungOf_28 (by decide) ?_
        exact ret (-9) M 30 _ dX9_rungOf_30 ⟨by rw [he, show N - j = 0 by omega, rgS], rfl⟩
      · have hlt : j < N := ltN hi hS c7 (by omega)
        have hin : vp_in i 16 := by rw [hi]; exact vp_in_nI (by omega) (by decide)
        have hix : ix i = j := by rw [hi]; exact ix_nI (by omega)
        have hs : N - j = (N - (j + 1)) + 1 := by omega
        refine x_aload_n C (pc := 10) dX9_rungOf_10 0 rfl rfl ?_
        refine mG_rungs C fl_X9_41 dX9_rungOf_11 ?_
        refine x_iload_n C (pc := 14) dX9_rungOf_14 2 rfl rfl ?_
        refine mL_rungs C dX9_rungOf_15 (by assumption) ?_
        refine x_iload_n C (pc := 16) dX9_rungOf_16 1 rfl rfl ?_
        refine x_icmp_ne C (pc := 17) (tgt := 22) dX9_rungOf_17 (by decide) (fun c17 => ?_) (fun c17 => ?_)
        · refine x_iinc C (pc := 22) (v := i + 1) dX9_rungOf_22 2 [(0, .ref (G.1 0)), (1, .int w), (2, .int (i + 1))] [1, 2, 0] rfl (by rfl) (by decide) rfl ?_
          refine x_goto C (pc := 25) (tgt := 2) dX9_rungOf_25 (by decide) ?_
          exact ih2 (i + 1) (j + 1) (by omega) (by rw [hi]; exact nI_1 j) (by rw [he, hs, rgS, if_neg (by rw [hix] at c17; exact c17)]) (by omega)
        · refine x_iload_n C (pc := 20) dX9_rungOf_20 2 rfl rfl ?_
          exact ret i M 21 _ dX9_rungOf_21 ⟨by rw [he, hs, rgS, if_pos (by rw [hix] at c17; exact c17), hi], rfl⟩
  exact L2 _ 0 0 (Nat.zero_le _) rfl rfl (Nat.lt_succ_self _)
set_option maxHeartbeats 4000000 in
set_option maxRecDepth 100000 in
theorem c_X9_isOne (l : Launch) (D : va_G) (G : Gx) (M : St) (w : Int32) : Ci l yX9_isOne cX9_isOne 2 (some .boolean) 1 (mw G) D (tyG G) [.ref (G.1 0), .int w] M (fun r X1 => r = (vM_isOne M w) ∧ X1 = M) := by
  refine m_z (nL := 2) (lv := [(0, .ref (G.1 0)), (1, .int w)]) [.ref (G.1 0), .int w] RX9 rfl (mw_adr G) (by decide +kernel) (Nat.le_of_ble_eq_true rfl) rfl (fun K C ret => ?_)
  refine x_iload_n C (pc := 0) dX9_isOne_0 1 rfl rfl ?_
  refine x_iconst C (pc := 1) (v := 0) dX9_isOne_1 (by decide) ?_
  refine x_aload_n C (pc := 2) dX9_isOne_2 0 rfl rfl ?_
  refine mG_ever C fl_X9_129 dX9_isOne_3 ?_
  refine x_iconst C (pc := 6) (v := 1) dX9_isOne_6 (by decide) ?_
  refine x_isub C (pc := 7) dX9_isOne_7 ?_
  refine x_callSi C (pc := 8) [.int w, .int 0, .int ((M 101 0) - 1)] (fun l D => c_X9_in l D G M w 0 ((M 101 0) - 1) ) ml_X9_122 co_X9_in st_X9_in in_X9 hy_X9_in.2 (by decide) (by decide) (Nat.le_of_ble_eq_true rfl) dX9_isOne_8 rfl (kx ?_)
  exact ret (vin w 0 ((M 101 0) - 1)) M 11 _ dX9_isOne_11 (vin_b) ⟨rfl, rfl⟩
set_option maxHeartbeats 4000000 in
set_option maxRecDepth 100000 in
theorem c_X9_need (l : Launch) (D : va_G) (G : Gx) (E : Nat) (M : St) (g : Int32) (w : Int32) (hE : (M 101 0) = nI E) (hE16 : E ≤ 16) : Ci l yX9_need cX9_need 3 (some .int) 2 (mw G) D (tyG G) [.ref (G.1 0), .int g, .int w] M (fun r X1 => r = (vM_need M g w) ∧ X1 = (sM_need M g w)) := by
  refine m_i (nL := 3) (lv := [(0, .ref (G.1 0)), (1, .int g), (2, .int w)]) [.ref (G.1 0), .int g, .int w] RX9 rfl (mw_adr G) (by decide +kernel) (Nat.le_of_ble_eq_true rfl) rfl (fun K C ret => ?_)
  refine x_aload_n C (pc := 0) dX9_need_0 0 rfl rfl ?_
  refine x_iload_n C (pc := 1) dX9_need_1 2 rfl rfl ?_
  refine x_callVi C (pc := 2) [.int w] (fun l D => c_X9_isOne l D G M w ) (me_0 G _) rfl ml_X9_139 co_X9_isOne im_X9_isOne se_X9_isOne in_X9 hy_X9_isOne (by decide) (by decide) (Nat.le_of_ble_eq_true rfl) dX9_need_2 rfl (kx ?_)
  refine x_if_eq C (pc := 5) (tgt := 12) dX9_need_5 (by decide) (fun c5 => ?_) (fun c5 => ?_)
  · refine x_iconst C (pc := 12) (v := (-1)) dX9_need_12 (by decide) ?_
    refine x_goto C (pc := 13) (tgt := 34) dX9_need_13 (by decide) ?_
    exact ret (-1) M 34 _ dX9_need_34 ⟨by unfold vM_need; (repeat (first | rw [if_pos (by assumption)] | rw [if_neg (by assumption)])) <;> first | rfl , by unfold sM_need; (repeat (first | rw [if_pos (by assumption)] | rw [if_neg (by assumption)])) <;> first | rfl | exact (need_id (by assumption)).symm⟩
  · refine x_iload_n C (pc := 8) dX9_need_8 1 rfl rfl ?_
    refine x_if_ne C (pc := 9) (tgt := 16) dX9_need_9 (by decide) (fun c9 => ?_) (fun c9 => ?_)
    · have hw : vp_in w 16 := isOne_in c5 hE hE16
      refine x_aload_n C (pc := 16) dX9_need_16 0 rfl rfl ?_
      refine mG_hasLeft C fl_X9_22 dX9_need_17 ?_
      refine x_iload_n C (pc := 20) dX9_need_20 2 rfl rfl ?_
      refine mL_hasLeft C dX9_need_21 (by assumption) ?_
      refine x_if_eq C (pc := 22) (tgt := 33) dX9_need_22 (by decide) (fun c22 => ?_) (fun c22 => ?_)
      · refine x_iconst C (pc := 33) (v := 0) dX9_need_33 (by decide) ?_
        exact ret 0 M 34 _ dX9_need_34 ⟨by unfold vM_need; (repeat (first | rw [if_pos (by assumption)] | rw [if_neg (by assumption)])) <;> first | rfl , by unfold sM_need; (repeat (first | rw [if_pos (by assumption)] | rw [if_neg (by assumption)])) <;> first | rfl | exact (need_id (by assumption)).symm⟩
      · refine x_aload_n C (pc := 25) dX9_need_25 0 rfl rfl ?_
        refine x_iconst C (pc := 26) (v := 1) dX9_need_26 (by decide) ?_
        refine x_callVi C (pc := 27) [.int 1] (fun l D => c_X9_meets l D G M 1 in1_6) (me_0 G _) rfl ml_X9_143 co_X9_meets im_X9_meets se_X9_meets in_X9 hy_X9_meets (by decide) (by decide) (Nat.le_of_ble_eq_true rfl) dX9_need_27 rfl (kx ?_)
        refine x_eqX (X' := (ux (ux M 100 0 1) 1 (ix 1) ((M 1 (ix 1)) + 1))) rfl ?_
        refine x_goto C (pc := 30) (tgt := 34) dX9_need_30 (by decide) ?_
        exact ret (-3) (ux (ux M 100 0 1) 1 (ix 1) ((M 1 (ix 1)) + 1)) 34 _ dX9_need_34 ⟨by unfold vM_need; (repeat (first | rw [if_pos (by assumption)] | rw [if_neg (by assumption)])) <;> first | rfl , by unfold sM_need; (repeat (first | rw [if_pos (by assumption)] | rw [if_neg (by assumption)])) <;> first | rfl | exact (need_id (by assumption)).symm⟩
    · refine x_iconst C (pc := 12) (v := (-1)) dX9_need_12 (by decide) ?_
      refine x_goto C (pc := 13) (tgt := 34) dX9_need_13 (by decide) ?_
      exact ret (-1) M 34 _ dX9_need_34 ⟨by unfold vM_need; (repeat (first | rw [if_pos (by assumption)] | rw [if_neg (by assumption)])) <;> first | rfl , by unfold sM_need; (repeat (first | rw [if_pos (by assumption)] | rw [if_neg (by assumption)])) <;> first | rfl | exact (need_id (by assumption)).symm⟩
theorem e16_in {x y : Int32} {E N : Nat} (hE : x = nI E) (h16 : E ≤ 16) (hne : ¬ x = 16) (hS : y = nI N) (hNE : N ≤ E) : vp_in x 16 ∧ vp_in y 16 := by
  have h1 : E < 16 := Nat.lt_of_le_of_ne h16 (fun e => hne (by rw [hE, e]; rfl))
  exact ⟨by rw [hE]; exact vp_in_nI h1 (by decide), by rw [hS]; exact vp_in_nI (by omega) (by decide)⟩

set_option maxHeartbeats 4000000 in
set_option maxRecDepth 100000 in
theorem c_X9_wrestler (l : Launch) (D : va_G) (G : Gx) (E N : Nat) (M : St) (k : Int32) (s : Int32) (n : Int32) (hE : (M 101 0) = nI E) (hE16 : E ≤ 16) (hS : (M 102 0) = nI N) (hN16 : N ≤ 16) (hNE : N ≤ E) : Ci l yX9_wrestler cX9_wrestler 4 (some .int) 1 (mw G) D (tyG G) [.ref (G.1 0), .int k, .int s, .int n] M (fun r X1 => r = (vM_wr M k s n) ∧ X1 = (sM_wr M k s n)) := by
  refine m_i (nL := 4) (lv := [(0, .ref (G.1 0)), (1, .int k), (2, .int s), (3, .int n)]) [.ref (G.1 0), .int k, .int s, .int n] RX9 rfl (mw_adr G) (by decide +kernel) (Nat.le_of_ble_eq_true rfl) rfl (fun K C ret => ?_)
  refine x_iload_n C (pc := 0) dX9_wrestler_0 1 rfl rfl ?_
  refine x_iconst C (pc := 1) (v := 0) dX9_wrestler_1 (by decide) ?_
  refine x_iconst C (pc := 2) (v := 2) dX9_wrestler_2 (by decide) ?_
  refine x_callSi C (pc := 3) [.int k, .int 0, .int 2] (fun l D => c_X9_in l D G M k 0 2 ) ml_X9_122 co_X9_in st_X9_in in_X9 hy_X9_in.2 (by decide) (by decide) (Nat.le_of_ble_eq_true rfl) dX9_wrestler_3 rfl (kx ?_)
  refine x_if_eq C (pc := 6) (tgt := 35) dX9_wrestler_6 (by decide) (fun c6 => ?_) (fun c6 => ?_)
  · refine x_iconst C (pc := 35) (v := (-1)) dX9_wrestler_35 (by decide) ?_
    exact ret (-1) M 36 _ dX9_wrestler_36 ⟨by unfold vM_wr; (repeat (first | rw [if_pos (by assumption)] | rw [if_neg (by assumption)])) <;> first | rfl , by unfold sM_wr; (repeat (first | rw [if_pos (by assumption)] | rw [if_neg (by assumption)])) <;> first | rfl | exact (need_id (by assumption)).symm⟩
  · refine x_iload_n C (pc := 9) dX9_wrestler_9 2 rfl rfl ?_
    refine x_iconst C (pc := 10) (v := 0) dX9_wrestler_10 (by decide) ?_
    refine x_bipush C (pc := 11) (v := 7) dX9_wrestler_11 (by decide) ?_
    refine x_callSi C (pc := 13) [.int s, .int 0, .int 7] (fun l D => c_X9_in l D G M s 0 7 ) ml_X9_122 co_X9_in st_X9_in in_X9 hy_X9_in.2 (by decide) (by decide) (Nat.le_of_ble_eq_true rfl) dX9_wrestler_13 rfl (kx ?_)
    refine x_if_eq C (pc := 16) (tgt := 35) dX9_wrestler_16 (by decide) (fun c16 => ?_) (fun c16 => ?_)
    · refine x_iconst C (pc := 35) (v := (-1)) dX9_wrestler_35 (by decide) ?_
      exact ret (-1) M 36 _ dX9_wrestler_36 ⟨by unfold vM_wr; (repeat (first | rw [if_pos (by assumption)] | rw [if_neg (by assumption)])) <;> first | rfl , by unfold sM_wr; (repeat (first | rw [if_pos (by assumption)] | rw [if_neg (by assumption)])) <;> first | rfl | exact (need_id (by assumption)).symm⟩
    · refine x_iload_n C (pc := 19) dX9_wrestler_19 3 rfl rfl ?_
      refine x_bipush C (pc := 20) (v := (-9)) dX9_wrestler_20 (by decide) ?_
      refine x_icmp_eq C (pc := 22) (tgt := 37) dX9_wrestler_22 (by decide) (fun c22 => ?_) (fun c22 => ?_)
      · refine x_aload_n C (pc := 37) dX9_wrestler_37 0 rfl rfl ?_
        refine mG_ever C fl_X9_129 dX9_wrestler_38 ?_
        refine x_bipush C (pc := 41) (v := 16) dX9_wrestler_41 (by decide) ?_
        refine x_icmp_ne C (pc := 43) (tgt := 49) dX9_wrestler_43 (by decide) (fun c43 => ?_) (fun c43 => ?_)
        · refine x_aload_n C (pc := 49) dX9_wrestler_49 0 rfl rfl ?_
          refine mG_isMeet C fl_X9_132 dX9_wrestler_50 ?_
          refine x_if_eq C (pc := 53) (tgt := 59) dX9_wrestler_53 (by decide) (fun c53 => ?_) (fun c53 => ?_)
          · obtain ⟨hei, hti⟩ := e16_in hE hE16 c43 hS hNE
            refine x_aload_n C (pc := 59) dX9_wrestler_59 0 rfl rfl ?_
            refine mG_kindOf C fl_X9_13 dX9_wrestler_60 ?_
            refine x_aload_n C (pc := 63) dX9_wrestler_63 0 rfl rfl ?_
            refine mG_ever C fl_X9_129 dX9_wrestler_64 ?_
            refine x_iload_n C (pc := 67) dX9_wrestler_67 1 rfl rfl ?_
            refine mS_kindOf C dX9_wrestler_68 (by assumption) ?_
            refine x_aload_n C (pc := 69) dX9_wrestler_69 0 rfl rfl ?_
            refine mG_stableOf C fl_X9_16 dX9_wrestler_70 ?_
            refine x_aload_n C (pc := 73) dX9_wrestler_73 0 rfl rfl ?_
            refine mG_ever C fl_X9_129 dX9_wrestler_74 ?_
            refine x_top (y := (M 101 0)) rfl ?_
            refine x_iload_n C (pc := 77) dX9_wrestler_77 2 rfl rfl ?_
            refine mS_stableOf C dX9_wrestler_78 (by assumption) ?_
            refine x_aload_n C (pc := 79) dX9_wrestler_79 0 rfl rfl ?_
            refine mG_kinOf C fl_X9_19 dX9_wrestler_80 ?_
            refine x_aload_n C (pc := 83) dX9_wrestler_83 0 rfl rfl ?_
            refine mG_ever C fl_X9_129 dX9_wrestler_84 ?_
            refine x_top (y := (M 101 0)) rfl ?_
            refine x_iload_n C (pc := 87) dX9_wrestler_87 3 rfl rfl ?_
            refine mS_kinOf C dX9_wrestler_88 (by assumption) ?_
            refine x_aload_n C (pc := 89) dX9_wrestler_89 0 rfl rfl ?_
            refine mG_rungs C fl_X9_41 dX9_wrestler_90 ?_
            refine x_aload_n C (pc := 93) dX9_wrestler_93 0 rfl rfl ?_
            refine mG_there C fl_X9_126 dX9_wrestler_94 ?_
            refine x_top (y := (M 102 0)) rfl ?_
            refine x_aload_n C (pc := 97) dX9_wrestler_97 0 rfl rfl ?_
            refine mG_ever C fl_X9_129 dX9_wrestler_98 ?_
            refine x_top (y := (M 101 0)) rfl ?_
            refine mS_rungs C dX9_wrestler_101 (by assumption) ?_
            refine x_aload_n C (pc := 102) dX9_wrestler_102 0 rfl rfl ?_
            refine x_dup C (pc := 103) dX9_wrestler_103 rfl ?_
            refine mG_there C fl_X9_126 dX9_wrestler_104 ?_
            refine x_top (y := (M 102 0)) rfl ?_
            refine x_iconst C (pc := 107) (v := 1) dX9_wrestler_107 (by decide) ?_
            refine x_iadd C (pc := 108) dX9_wrestler_108 ?_
            refine mP_there C fl_X9_126 (v := (M 102 0) + 1) dX9_wrestler_109 ?_
            refine x_aload_n C (pc := 112) dX9_wrestler_112 0 rfl rfl ?_
            refine x_dup C (pc := 113) dX9_wrestler_113 rfl ?_
            refine mG_ever C fl_X9_129 dX9_wrestler_114 ?_
            refine x_top (y := (M 101 0)) rfl ?_
            refine x_iconst C (pc := 117) (v := 1) dX9_wrestler_117 (by decide) ?_
            refine x_iadd C (pc := 118) dX9_wrestler_118 ?_
            refine mP_ever C fl_X9_129 (v := (M 101 0) + 1) dX9_wrestler_119 ?_
            refine x_aload_n C (pc := 122) dX9_wrestler_122 0 rfl rfl ?_
            refine x_iconst C (pc := 123) (v := 0) dX9_wrestler_123 (by decide) ?_
            refine mP_isWritten C fl_X9_136 (v := 0) (by decide) (by decide) dX9_wrestler_124 ?_
            refine x_aload_n C (pc := 127) dX9_wrestler_127 0 rfl rfl ?_
            refine mG_ever C fl_X9_129 dX9_wrestler_128 ?_
            refine x_top (y := (M 101 0) + 1) rfl ?_
            refine x_iconst C (pc := 131) (v := 1) dX9_wrestler_131 (by decide) ?_
            refine x_isub C (pc := 132) dX9_wrestler_132 ?_
            exact ret (((M 101 0) + 1) - 1) (ux (ux (ux (ux (ux (ux (ux M 2 (ix (M 101 0)) k) 3 (ix (M 101 0)) s) 4 (ix (M 101 0)) n) 11 (ix (M 102 0)) (M 101 0)) 102 0 ((M 102 0) + 1)) 101 0 ((M 101 0) + 1)) 114 0 0) 133 _ dX9_wrestler_133 ⟨by unfold vM_wr; (repeat (first | rw [if_pos (by assumption)] | rw [if_neg (by assumption)])) <;> first | rfl , by unfold sM_wr; (repeat (first | rw [if_pos (by assumption)] | rw [if_neg (by assumption)])) <;> first | rfl | exact (need_id (by assumption)).symm⟩
          · refine x_bipush C (pc := 56) (v := (-4)) dX9_wrestler_56 (by decide) ?_
            exact ret (-4) M 58 _ dX9_wrestler_58 ⟨by unfold vM_wr; (repeat (first | rw [if_pos (by assumption)] | rw [if_neg (by assumption)])) <;> first | rfl , by unfold sM_wr; (repeat (first | rw [if_pos (by assumption)] | rw [if_neg (by assumption)])) <;> first | rfl | exact (need_id (by assumption)).symm⟩
        · refine x_bipush C (pc := 46) (v := (-2)) dX9_wrestler_46 (by decide) ?_
          exact ret (-2) M 48 _ dX9_wrestler_48 ⟨by unfold vM_wr; (repeat (first | rw [if_pos (by assumption)] | rw [if_neg (by assumption)])) <;> first | rfl , by unfold sM_wr; (repeat (first | rw [if_pos (by assumption)] | rw [if_neg (by assumption)])) <;> first | rfl | exact (need_id (by assumption)).symm⟩
      · refine x_iload_n C (pc := 25) dX9_wrestler_25 3 rfl rfl ?_
        refine x_iconst C (pc := 26) (v := 0) dX9_wrestler_26 (by decide) ?_
        refine x_bipush C (pc := 27) (v := 7) dX9_wrestler_27 (by decide) ?_
        refine x_callSi C (pc := 29) [.int n, .int 0, .int 7] (fun l D => c_X9_in l D G M n 0 7 ) ml_X9_122 co_X9_in st_X9_in in_X9 hy_X9_in.2 (by decide) (by decide) (Nat.le_of_ble_eq_true rfl) dX9_wrestler_29 rfl (kx ?_)
        refine x_if_ne C (pc := 32) (tgt := 37) dX9_wrestler_32 (by decide) (fun c32 => ?_) (fun c32 => ?_)
        · refine x_aload_n C (pc := 37) dX9_wrestler_37 0 rfl rfl ?_
          refine mG_ever C fl_X9_129 dX9_wrestler_38 ?_
          refine x_bipush C (pc := 41) (v := 16) dX9_wrestler_41 (by decide) ?_
          refine x_icmp_ne C (pc := 43) (tgt := 49) dX9_wrestler_43 (by decide) (fun c43 => ?_) (fun c43 => ?_)
          · refine x_aload_n C (pc := 49) dX9_wrestler_49 0 rfl rfl ?_
            refine mG_isMeet C fl_X9_132 dX9_wrestler_50 ?_
            refine x_if_eq C (pc := 53) (tgt := 59) dX9_wrestler_53 (by decide) (fun c53 => ?_) (fun c53 => ?_)
            · obtain ⟨hei, hti⟩ := e16_in hE hE16 c43 hS hNE
              refine x_aload_n C (pc := 59) dX9_wrestler_59 0 rfl rfl ?_
              refine mG_kindOf C fl_X9_13 dX9_wrestler_60 ?_
              refine x_aload_n C (pc := 63) dX9_wrestler_63 0 rfl rfl ?_
              refine mG_ever C fl_X9_129 dX9_wrestler_64 ?_
              refine x_iload_n C (pc := 67) dX9_wrestler_67 1 rfl rfl ?_
              refine mS_kindOf C dX9_wrestler_68 (by assumption) ?_
              refine x_aload_n C (pc := 69) dX9_wrestler_69 0 rfl rfl ?_
              refine mG_stableOf C fl_X9_16 dX9_wrestler_70 ?_
              refine x_aload_n C (pc := 73) dX9_wrestler_73 0 rfl rfl ?_
              refine mG_ever C fl_X9_129 dX9_wrestler_74 ?_
              refine x_top (y := (M 101 0)) rfl ?_
              refine x_iload_n C (pc := 77) dX9_wrestler_77 2 rfl rfl ?_
              refine mS_stableOf C dX9_wrestler_78 (by assumption) ?_
              refine x_aload_n C (pc := 79) dX9_wrestler_79 0 rfl rfl ?_
              refine mG_kinOf C fl_X9_19 dX9_wrestler_80 ?_
              refine x_aload_n C (pc := 83) dX9_wrestler_83 0 rfl rfl ?_
              refine mG_ever C fl_X9_129 dX9_wrestler_84 ?_
              refine x_top (y := (M 101 0)) rfl ?_
              refine x_iload_n C (pc := 87) dX9_wrestler_87 3 rfl rfl ?_
              refine mS_kinOf C dX9_wrestler_88 (by assumption) ?_
              refine x_aload_n C (pc := 89) dX9_wrestler_89 0 rfl rfl ?_
              refine mG_rungs C fl_X9_41 dX9_wrestler_90 ?_
              refine x_aload_n C (pc := 93) dX9_wrestler_93 0 rfl rfl ?_
              refine mG_there C fl_X9_126 dX9_wrestler_94 ?_
              refine x_top (y := (M 102 0)) rfl ?_
              refine x_aload_n C (pc := 97) dX9_wrestler_97 0 rfl rfl ?_
              refine mG_ever C fl_X9_129 dX9_wrestler_98 ?_
              refine x_top (y := (M 101 0)) rfl ?_
              refine mS_rungs C dX9_wrestler_101 (by assumption) ?_
              refine x_aload_n C (pc := 102) dX9_wrestler_102 0 rfl rfl ?_
              refine x_dup C (pc := 103) dX9_wrestler_103 rfl ?_
              refine mG_there C fl_X9_126 dX9_wrestler_104 ?_
              refine x_top (y := (M 102 0)) rfl ?_
              refine x_iconst C (pc := 107) (v := 1) dX9_wrestler_107 (by decide) ?_
              refine x_iadd C (pc := 108) dX9_wrestler_108 ?_
              refine mP_there C fl_X9_126 (v := (M 102 0) + 1) dX9_wrestler_109 ?_
              refine x_aload_n C (pc := 112) dX9_wrestler_112 0 rfl rfl ?_
              refine x_dup C (pc := 113) dX9_wrestler_113 rfl ?_
              refine mG_ever C fl_X9_129 dX9_wrestler_114 ?_
              refine x_top (y := (M 101 0)) rfl ?_
              refine x_iconst C (pc := 117) (v := 1) dX9_wrestler_117 (by decide) ?_
              refine x_iadd C (pc := 118) dX9_wrestler_118 ?_
              refine mP_ever C fl_X9_129 (v := (M 101 0) + 1) dX9_wrestler_119 ?_
              refine x_aload_n C (pc := 122) dX9_wrestler_122 0 rfl rfl ?_
              refine x_iconst C (pc := 123) (v := 0) dX9_wrestler_123 (by decide) ?_
              refine mP_isWritten C fl_X9_136 (v := 0) (by decide) (by decide) dX9_wrestler_124 ?_
              refine x_aload_n C (pc := 127) dX9_wrestler_127 0 rfl rfl ?_
              refine mG_ever C fl_X9_129 dX9_wrestler_128 ?_
              refine x_top (y := (M 101 0) + 1) rfl ?_
              refine x_iconst C (pc := 131) (v := 1) dX9_wrestler_131 (by decide) ?_
              refine x_isub C (pc := 132) dX9_wrestler_132 ?_
              exact ret (((M 101 0) + 1) - 1) (ux (ux (ux (ux (ux (ux (ux M 2 (ix (M 101 0)) k) 3 (ix (M 101 0)) s) 4 (ix (M 101 0)) n) 11 (ix (M 102 0)) (M 101 0)) 102 0 ((M 102 0) + 1)) 101 0 ((M 101 0) + 1)) 114 0 0) 133 _ dX9_wrestler_133 ⟨by unfold vM_wr; (repeat (first | rw [if_pos (by assumption)] | rw [if_neg (by assumption)])) <;> first | rfl , by unfold sM_wr; (repeat (first | rw [if_pos (by assumption)] | rw [if_neg (by assumption)])) <;> first | rfl | exact (need_id (by assumption)).symm⟩
            · refine x_bipush C (pc := 56) (v := (-4)) dX9_wrestler_56 (by decide) ?_
              exact ret (-4) M 58 _ dX9_wrestler_58 ⟨by unfold vM_wr; (repeat (first | rw [if_pos (by assumption)] | rw [if_neg (by assumption)])) <;> first | rfl , by unfold sM_wr; (repeat (first | rw [if_pos (by assumption)] | rw [if_neg (by assumption)])) <;> first | rfl | exact (need_id (by assumption)).symm⟩
          · refine x_bipush C (pc := 46) (v := (-2)) dX9_wrestler_46 (by decide) ?_
            exact ret (-2) M 48 _ dX9_wrestler_48 ⟨by unfold vM_wr; (repeat (first | rw [if_pos (by assumption)] | rw [if_neg (by assumption)])) <;> first | rfl , by unfold sM_wr; (repeat (first | rw [if_pos (by assumption)] | rw [if_neg (by assumption)])) <;> first | rfl | exact (need_id (by assumption)).symm⟩
        · refine x_iconst C (pc := 35) (v := (-1)) dX9_wrestler_35 (by decide) ?_
          exact ret (-1) M 36 _ dX9_wrestler_36 ⟨by unfold vM_wr; (repeat (first | rw [if_pos (by assumption)] | rw [if_neg (by assumption)])) <;> first | rfl , by unfold sM_wr; (repeat (first | rw [if_pos (by assumption)] | rw [if_neg (by assumption)])) <;> first | rfl | exact (need_id (by assumption)).symm⟩
set_option maxHeartbeats 4000000 in
set_option maxRecDepth 100000 in
theorem c_X9_leave (l : Launch) (D : va_G) (G : Gx) (E N : Nat) (M : St) (w : Int32) (hE : (M 101 0) = nI E) (hE16 : E ≤ 16) (hS : (M 102 0) = nI N) (hN16 : N ≤ 16) (hRg : ¬ vM_isOne M w = 0 → (M 5) (ix w) = 0 → ∃ R, R < N ∧ rgS (M 11) w N 0 = nI R) : Ci l yX9_leave cX9_leave 4 (some .int) 2 (mw G) D (tyG G) [.ref (G.1 0), .int w] M (fun r X1 => r = (vM_leave M w N) ∧ X1 = (sM_leave M w N)) := by
  refine m_i (nL := 4) (lv := [(0, .ref (G.1 0)), (1, .int w)]) [.ref (G.1 0), .int w] RX9 rfl (mw_adr G) (by decide +kernel) (Nat.le_of_ble_eq_true rfl) rfl (fun K C ret => ?_)
  refine x_aload_n C (pc := 0) dX9_leave_0 0 rfl rfl ?_
  refine x_iload_n C (pc := 1) dX9_leave_1 1 rfl rfl ?_
  refine x_callVi C (pc := 2) [.int w] (fun l D => c_X9_isOne l D G M w ) (me_0 G _) rfl ml_X9_139 co_X9_isOne im_X9_isOne se_X9_isOne in_X9 hy_X9_isOne (by decide) (by decide) (Nat.le_of_ble_eq_true rfl) dX9_leave_2 rfl (kx ?_)
  refine x_if_ne C (pc := 5) (tgt := 10) dX9_leave_5 (by decide) (fun c5 => ?_) (fun c5 => ?_)
  · have hw : vp_in w 16 := isOne_in c5 hE hE16
    refine x_aload_n C (pc := 10) dX9_leave_10 0 rfl rfl ?_
    refine mG_isMeet C fl_X9_132 dX9_leave_11 ?_
    refine x_if_eq C (pc := 14) (tgt := 20) dX9_leave_14 (by decide) (fun c14 => ?_) (fun c14 => ?_)
    · refine x_aload_n C (pc := 20) dX9_leave_20 0 rfl rfl ?_
      refine mG_hasLeft C fl_X9_22 dX9_leave_21 ?_
      refine x_iload_n C (pc := 24) dX9_leave_24 1 rfl rfl ?_
      refine mL_hasLeft C dX9_leave_25 (by assumption) ?_
      refine x_if_eq C (pc := 26) (tgt := 35) dX9_leave_26 (by decide) (fun c26 => ?_) (fun c26 => ?_)
      · obtain ⟨R, hRN, hR⟩ := hRg c5 c26
        refine x_aload_n C (pc := 35) dX9_leave_35 0 rfl rfl ?_
        refine x_iload_n C (pc := 36) dX9_leave_36 1 rfl rfl ?_
        refine x_callVi C (pc := 37) [.int w] (fun l D => c_X9_rungOf l D G N M w hS hN16) (me_0 G _) rfl ml_X9_147 co_X9_rungOf im_X9_rungOf se_X9_rungOf in_X9 hy_X9_rungOf (by decide) (by decide) (Nat.le_of_ble_eq_true rfl) dX9_leave_37 rfl (kx ?_)
        refine x_istore_n C (pc := 40) dX9_leave_40 [(0, .ref (G.1 0)), (1, .int w), (2, .int (rgS (M 11) w N 0))] [1, 2, 0] rfl (by decide) rfl ?_
        refine x_iload_n C (pc := 41) dX9_leave_41 2 rfl rfl ?_
        refine x_istore_n C (pc := 42) dX9_leave_42 [(0, .ref (G.1 0)), (1, .int w), (2, .int (rgS (M 11) w N 0)), (3, .int (rgS (M 11) w N 0))] [1, 2, 3, 0] rfl (by decide) rfl ?_
        have L43 : ∀ (nu : Nat) (i : Int32) (j : Nat), (R ≤ j) → (j ≤ N - 1) → (i = nI j) → (N - j) < nu → WX K (mw G) 4 (sr M 11 (shB (M 11) R j)) 43 [(0, .ref (G.1 0)), (1, .int w), (2, .int (rgS (M 11) w N 0)), (3, .int i)] [] := by
          intro nu
          induction nu with
          | zero => intro i j hj hjN hi hmu43; exact absurd hmu43 (Nat.not_lt_zero _)
          | succ n43 ih43 =>
            intro i j hj hjN hi hmu43
            refine x_iload_n C (pc := 43) dX9_leave_43 3 rfl rfl ?_
            refine x_iconst C (pc := 44) (v := 1) dX9_leave_44 (by decide) ?_
            refine x_iadd C (pc := 45) dX9_leave_45 ?_
            refine x_aload_n C (pc := 46) dX9_leave_46 0 rfl rfl ?_
            refine mG_there C fl_X9_126 dX9_leave_47 ?_
            refine x_top (y := (M 102 0)) rfl ?_
            refine x_icmp_ge C (pc := 50) (tgt := 73) dX9_leave_50 (by decide) (fun c50 => ?_) (fun c50 => ?_)
            · have hi1 : i + 1 = nI (j + 1) := by rw [hi]; exact nI_1 j
              have hge : N ≤ j + 1 := geN hi1 hS c50 (by omega)
              have hjj : j = N - 1 := by omega
              have hRx : ix (rgS (M 11) w N 0) = R := by rw [hR]; exact ix_nI (by omega)
              refine x_aload_n C (pc := 73) dX9_leave_73 0 rfl rfl ?_
              refine x_dup C (pc := 74) dX9_leave_74 rfl ?_
              refine mG_there C fl_X9_126 dX9_leave_75 ?_
              refine x_top (y := (M 102 0)) rfl ?_
              refine x_iconst C (pc := 78) (v := 1) dX9_leave_78 (by decide) ?_
              refine x_isub C (pc := 79) dX9_leave_79 ?_
              refine mP_there C fl_X9_126 (v := (M 102 0) - 1) dX9_leave_80 ?_
              refine x_aload_n C (pc := 83) dX9_leave_83 0 rfl rfl ?_
              refine mG_hasLeft C fl_X9_22 dX9_leave_84 ?_
              refine x_iload_n C (pc := 87) dX9_leave_87 1 rfl rfl ?_
              refine x_iconst C (pc := 88) (v := 1) dX9_leave_88 (by decide) ?_
              refine mS_hasLeft C dX9_leave_89 (by assumption) ?_
              refine x_eqX (X' := (ux (ux (sr M 11 (shB (M 11) R j)) 102 0 ((M 102 0) - 1)) 5 (ix w) 1)) rfl ?_
              refine x_aload_n C (pc := 90) dX9_leave_90 0 rfl rfl ?_
              refine x_iconst C (pc := 91) (v := 0) dX9_leave_91 (by decide) ?_
              refine mP_isWritten C fl_X9_136 (v := 0) (by decide) (by decide) dX9_leave_92 ?_
              refine x_iload_n C (pc := 95) dX9_leave_95 2 rfl rfl ?_
              exact ret (rgS (M 11) w N 0) (ux (ux (ux (sr M 11 (shB (M 11) R j)) 102 0 ((M 102 0) - 1)) 5 (ix w) 1) 114 0 0) 96 _ dX9_leave_96 ⟨by unfold vM_leave; rw [if_neg c5, if_pos c14, if_pos c26], by unfold sM_leave; rw [if_neg c5, if_pos c14, if_pos c26, hRx, hjj]⟩
            · have hi1 : i + 1 = nI (j + 1) := by rw [hi]; exact nI_1 j
              have hlt : j + 1 < N := ltN hi1 hS c50 (by omega)
              have hin1 : vp_in (i + 1) 16 := by rw [hi1]; exact vp_in_nI (by omega) (by decide)
              have hin0 : vp_in i 16 := by rw [hi]; exact vp_in_nI (by omega) (by decide)
              have hix : ix i = j := by rw [hi]; exact ix_nI (by omega)
              have hix1 : ix (i + 1) = j + 1 := by rw [hi1]; exact ix_nI (by omega)
              have hsh : shB (M 11) R j (j + 1) = (M 11) (j + 1) := by simp only [shB]; rw [if_neg (by omega)]
              refine x_aload_n C (pc := 53) dX9_leave_53 0 rfl rfl ?_
              refine mG_rungs C fl_X9_41 dX9_leave_54 ?_
              refine x_iload_n C (pc := 57) dX9_leave_57 3 rfl rfl ?_
              refine x_aload_n C (pc := 58) dX9_leave_58 0 rfl rfl ?_
              refine mG_rungs C fl_X9_41 dX9_leave_59 ?_
              refine x_iload_n C (pc := 62) dX9_leave_62 3 rfl rfl ?_
              refine x_iconst C (pc := 63) (v := 1) dX9_leave_63 (by decide) ?_
              refine x_iadd C (pc := 64) dX9_leave_64 ?_
              refine mL_rungs C dX9_leave_65 (by assumption) ?_
              refine x_top (y := ((shB (M 11) R j) (ix (i + 1)))) rfl ?_
              refine mS_rungs C dX9_leave_66 (by assumption) ?_
              refine x_iinc C (pc := 67) (v := i + 1) dX9_leave_67 3 [(0, .ref (G.1 0)), (1, .int w), (2, .int (rgS (M 11) w N 0)), (3, .int (i + 1))] [1, 2, 3, 0] rfl (by rfl) (by decide) rfl ?_
              refine x_goto C (pc := 70) (tgt := 43) dX9_leave_70 (by decide) ?_
              refine x_eqX (X' := (sr M 11 (shB (M 11) R (j + 1)))) (by rw [hix, hix1, ux_srs, hsh, shB_step _ hj]) ?_
              exact ih43 (i + 1) (j + 1) (by omega) (by omega) (by rw [hi]; exact nI_1 j) (by omega)
        refine x_eqX (X' := (sr M 11 (shB (M 11) R R))) (by rw [shB_0, sr_self]) ?_
        exact L43 _ (rgS (M 11) w N 0) R (Nat.le_refl _) (by omega) hR (Nat.lt_succ_self _)
      · refine x_aload_n C (pc := 29) dX9_leave_29 0 rfl rfl ?_
        refine x_iconst C (pc := 30) (v := 1) dX9_leave_30 (by decide) ?_
        refine x_callVi C (pc := 31) [.int 1] (fun l D => c_X9_meets l D G M 1 in1_6) (me_0 G _) rfl ml_X9_143 co_X9_meets im_X9_meets se_X9_meets in_X9 hy_X9_meets (by decide) (by decide) (Nat.le_of_ble_eq_true rfl) dX9_leave_31 rfl (kx ?_)
        refine x_eqX (X' := (ux (ux M 100 0 1) 1 (ix 1) ((M 1 (ix 1)) + 1))) rfl ?_
        exact ret (-3) (ux (ux M 100 0 1) 1 (ix 1) ((M 1 (ix 1)) + 1)) 34 _ dX9_leave_34 ⟨by unfold vM_leave; (repeat (first | rw [if_pos (by assumption)] | rw [if_neg (by assumption)])) <;> first | rfl , by unfold sM_leave; (repeat (first | rw [if_pos (by assumption)] | rw [if_neg (by assumption)])) <;> first | rfl ⟩
    · refine x_bipush C (pc := 17) (v := (-4)) dX9_leave_17 (by decide) ?_
      exact ret (-4) M 19 _ dX9_leave_19 ⟨by unfold vM_leave; (repeat (first | rw [if_pos (by assumption)] | rw [if_neg (by assumption)])) <;> first | rfl , by unfold sM_leave; (repeat (first | rw [if_pos (by assumption)] | rw [if_neg (by assumption)])) <;> first | rfl ⟩
  · refine x_iconst C (pc := 8) (v := (-1)) dX9_leave_8 (by decide) ?_
    exact ret (-1) M 9 _ dX9_leave_9 ⟨by unfold vM_leave; (repeat (first | rw [if_pos (by assumption)] | rw [if_neg (by assumption)])) <;> first | rfl , by unfold sM_leave; (repeat (first | rw [if_pos (by assumption)] | rw [if_neg (by assumption)])) <;> first | rfl ⟩
set_option maxHeartbeats 4000000 in
set_option maxRecDepth 100000 in
theorem c_X9_toldOf (l : Launch) (D : va_G) (G : Gx) (N : Nat) (M : St) (w : Int32) (what : Int32) (hw : vp_in w 16) (hS : (M 102 0) = nI N) (hN16 : N ≤ 16) : Ci l yX9_toldOf cX9_toldOf 3 (some .int) 1 (mw G) D (tyG G) [.ref (G.1 0), .int w, .int what] M (fun r X1 => r = (vM_toldOf M w what N) ∧ X1 = M) := by
  refine m_i (nL := 3) (lv := [(0, .ref (G.1 0)), (1, .int w), (2, .int what)]) [.ref (G.1 0), .int w, .int what] RX9 rfl (mw_adr G) (by decide +kernel) (Nat.le_of_ble_eq_true rfl) rfl (fun K C ret => ?_)
  refine x_iload_n C (pc := 0) dX9_toldOf_0 2 rfl rfl ?_
  rcases tsw what 5 (by decide) with h1 | ⟨j1, hj1, h1⟩
  · refine x_tout C (pc := 1) (tgt := 81) dX9_toldOf_1 h1 (by decide) ?_
    have q1_0 : what ≠ 0 := sw_ne h1 0 (by decide) (by decide)
    have q1_1 : what ≠ 1 := sw_ne h1 1 (by decide) (by decide)
    have q1_2 : what ≠ 2 := sw_ne h1 2 (by decide) (by decide)
    have q1_3 : what ≠ 3 := sw_ne h1 3 (by decide) (by decide)
    have q1_4 : what ≠ 4 := sw_ne h1 4 (by decide) (by decide)
    have q1_5 : what ≠ 5 := sw_ne h1 5 (by decide) (by decide)
    refine x_aload_n C (pc := 81) dX9_toldOf_81 0 rfl rfl ?_
    refine mG_titles C fl_X9_35 dX9_toldOf_82 ?_
    refine x_iload_n C (pc := 85) dX9_toldOf_85 1 rfl rfl ?_
    refine mL_titles C dX9_toldOf_86 (by assumption) ?_
    exact ret (M 9 (ix w)) M 87 _ dX9_toldOf_87 ⟨by unfold vM_toldOf; rw [if_neg q1_0, if_neg q1_1, if_neg q1_2, if_neg q1_3, if_neg q1_4, if_neg q1_5], rfl⟩
  · rcases (show j1 = 0 ∨ j1 = 1 ∨ j1 = 2 ∨ j1 = 3 ∨ j1 = 4 ∨ j1 = 5 by omega) with e1 | e1 | e1 | e1 | e1 | e1
    · subst e1
      have q1 : what = 0 := sw_eq h1 (by decide)
      refine x_tin C (pc := 1) (off := 39) (tgt := 40) dX9_toldOf_1 (by rw [h1]; decide) (by rw [h1]; decide) (by rw [h1]; rfl) (by decide) ?_
      refine x_aload_n C (pc := 40) dX9_toldOf_40 0 rfl rfl ?_
      refine mG_kindOf C fl_X9_13 dX9_toldOf_41 ?_
      refine x_iload_n C (pc := 44) dX9_toldOf_44 1 rfl rfl ?_
      refine mL_kindOf C dX9_toldOf_45 (by assumption) ?_
      exact ret (M 2 (ix w)) M 46 _ dX9_toldOf_46 ⟨by rw [q1]; rfl, rfl⟩
    · subst e1
      have q1 : what = 1 := sw_eq h1 (by decide)
      refine x_tin C (pc := 1) (off := 46) (tgt := 47) dX9_toldOf_1 (by rw [h1]; decide) (by rw [h1]; decide) (by rw [h1]; rfl) (by decide) ?_
      refine x_aload_n C (pc := 47) dX9_toldOf_47 0 rfl rfl ?_
      refine mG_stableOf C fl_X9_16 dX9_toldOf_48 ?_
      refine x_iload_n C (pc := 51) dX9_toldOf_51 1 rfl rfl ?_
      refine mL_stableOf C dX9_toldOf_52 (by assumption) ?_
      exact ret (M 3 (ix w)) M 53 _ dX9_toldOf_53 ⟨by rw [q1]; rfl, rfl⟩
    · subst e1
      have q1 : what = 2 := sw_eq h1 (by decide)
      refine x_tin C (pc := 1) (off := 53) (tgt := 54) dX9_toldOf_1 (by rw [h1]; decide) (by rw [h1]; decide) (by rw [h1]; rfl) (by decide) ?_
      refine x_aload_n C (pc := 54) dX9_toldOf_54 0 rfl rfl ?_
      refine mG_kinOf C fl_X9_19 dX9_toldOf_55 ?_
      refine x_iload_n C (pc := 58) dX9_toldOf_58 1 rfl rfl ?_
      refine mL_kinOf C dX9_toldOf_59 (by assumption) ?_
      exact ret (M 4 (ix w)) M 60 _ dX9_toldOf_60 ⟨by rw [q1]; rfl, rfl⟩
    · subst e1
      have q1 : what = 3 := sw_eq h1 (by decide)
      refine x_tin C (pc := 1) (off := 60) (tgt := 61) dX9_toldOf_1 (by rw [h1]; decide) (by rw [h1]; decide) (by rw [h1]; rfl) (by decide) ?_
      refine x_aload_n C (pc := 61) dX9_toldOf_61 0 rfl rfl ?_
      refine x_iload_n C (pc := 62) dX9_toldOf_62 1 rfl rfl ?_
      refine x_callVi C (pc := 63) [.int w] (fun l D => c_X9_rungOf l D G N M w hS hN16) (me_0 G _) rfl ml_X9_147 co_X9_rungOf im_X9_rungOf se_X9_rungOf in_X9 hy_X9_rungOf (by decide) (by decide) (Nat.le_of_ble_eq_true rfl) dX9_toldOf_63 rfl (kx ?_)
      exact ret (rgS (M 11) w N 0) M 66 _ dX9_toldOf_66 ⟨by rw [q1]; rfl, rfl⟩
    · subst e1
      have q1 : what = 4 := sw_eq h1 (by decide)
      refine x_tin C (pc := 1) (off := 66) (tgt := 67) dX9_toldOf_1 (by rw [h1]; decide) (by rw [h1]; decide) (by rw [h1]; rfl) (by decide) ?_
      refine x_aload_n C (pc := 67) dX9_toldOf_67 0 rfl rfl ?_
      refine mG_winsOf C fl_X9_29 dX9_toldOf_68 ?_
      refine x_iload_n C (pc := 71) dX9_toldOf_71 1 rfl rfl ?_
      refine mL_winsOf C dX9_toldOf_72 (by assumption) ?_
      exact ret (M 7 (ix w)) M 73 _ dX9_toldOf_73 ⟨by rw [q1]; rfl, rfl⟩
    · subst e1
      have q1 : what = 5 := sw_eq h1 (by decide)
      refine x_tin C (pc := 1) (off := 73) (tgt := 74) dX9_toldOf_1 (by rw [h1]; decide) (by rw [h1]; decide) (by rw [h1]; rfl) (by decide) ?_
      refine x_aload_n C (pc := 74) dX9_toldOf_74 0 rfl rfl ?_
      refine mG_lossesOf C fl_X9_32 dX9_toldOf_75 ?_
      refine x_iload_n C (pc := 78) dX9_toldOf_78 1 rfl rfl ?_
      refine mL_lossesOf C dX9_toldOf_79 (by assumption) ?_
      exact ret (M 8 (ix w)) M 80 _ dX9_toldOf_80 ⟨by rw [q1]; rfl, rfl⟩
set_option maxHeartbeats 4000000 in
set_option maxRecDepth 100000 in
theorem c_X9_told (l : Launch) (D : va_G) (G : Gx) (E N : Nat) (M : St) (w : Int32) (what : Int32) (hE : (M 101 0) = nI E) (hE16 : E ≤ 16) (hS : (M 102 0) = nI N) (hN16 : N ≤ 16) : Ci l yX9_told cX9_told 4 (some .int) 3 (mw G) D (tyG G) [.ref (G.1 0), .int w, .int what] M (fun r X1 => r = (vM_told M w what N) ∧ X1 = (sM_need M (vin what 0 6) w)) := by
  refine m_i (nL := 4) (lv := [(0, .ref (G.1 0)), (1, .int w), (2, .int what)]) [.ref (G.1 0), .int w, .int what] RX9 rfl (mw_adr G) (by decide +kernel) (Nat.le_of_ble_eq_true rfl) rfl (fun K C ret => ?_)
  refine x_aload_n C (pc := 0) dX9_told_0 0 rfl rfl ?_
  refine x_iload_n C (pc := 1) dX9_told_1 2 rfl rfl ?_
  refine x_iconst C (pc := 2) (v := 0) dX9_told_2 (by decide) ?_
  refine x_bipush C (pc := 3) (v := 6) dX9_told_3 (by decide) ?_
  refine x_callSi C (pc := 5) [.int what, .int 0, .int 6] (fun l D => c_X9_in l D G M what 0 6 ) ml_X9_122 co_X9_in st_X9_in in_X9 hy_X9_in.2 (by decide) (by decide) (Nat.le_of_ble_eq_true rfl) dX9_told_5 rfl (kx ?_)
  refine x_iload_n C (pc := 8) dX9_told_8 1 rfl rfl ?_
  refine x_callVi C (pc := 9) [.int (vin what 0 6), .int w] (fun l D => c_X9_need l D G E M (vin what 0 6) w hE hE16) (me_0 G _) rfl ml_X9_150 co_X9_need im_X9_need se_X9_need in_X9 hy_X9_need (by decide) (by decide) (Nat.le_of_ble_eq_true rfl) dX9_told_9 rfl (kx ?_)
  refine x_istore_n C (pc := 12) dX9_told_12 [(0, .ref (G.1 0)), (1, .int w), (2, .int what), (3, .int (vM_need M (vin what 0 6) w))] [1, 2, 3, 0] rfl (by decide) rfl ?_
  refine x_iload_n C (pc := 13) dX9_told_13 3 rfl rfl ?_
  refine x_if_ge C (pc := 14) (tgt := 21) dX9_told_14 (by decide) (fun c14 => ?_) (fun c14 => ?_)
  · refine x_eqX (X' := M) (need_id c14) ?_
    refine x_aload_n C (pc := 21) dX9_told_21 0 rfl rfl ?_
    refine x_iload_n C (pc := 22) dX9_told_22 1 rfl rfl ?_
    refine x_iload_n C (pc := 23) dX9_told_23 2 rfl rfl ?_
    refine x_callVi C (pc := 24) [.int w, .int what] (fun l D => c_X9_toldOf l D G N M w what (isOne_in (need_kn c14).1 hE hE16) hS hN16) (me_0 G _) rfl ml_X9_154 co_X9_toldOf im_X9_toldOf se_X9_toldOf in_X9 hy_X9_toldOf (by decide) (by decide) (Nat.le_of_ble_eq_true rfl) dX9_told_24 rfl (kx ?_)
    exact ret (vM_toldOf M w what N) M 27 _ dX9_told_27 ⟨by unfold vM_told; (repeat (first | rw [if_pos (by assumption)] | rw [if_neg (by assumption)])) <;> first | rfl , by first | rfl | exact (need_id (by assumption)).symm⟩
  · refine x_iload_n C (pc := 17) dX9_told_17 3 rfl rfl ?_
    refine x_goto C (pc := 18) (tgt := 27) dX9_told_18 (by decide) ?_
    exact ret (vM_need M (vin what 0 6) w) (sM_need M (vin what 0 6) w) 27 _ dX9_told_27 ⟨by unfold vM_told; (repeat (first | rw [if_pos (by assumption)] | rw [if_neg (by assumption)])) <;> first | rfl , by first | rfl | exact (need_id (by assumption)).symm⟩
set_option maxHeartbeats 4000000 in
set_option maxRecDepth 100000 in
theorem c_X9_is (l : Launch) (D : va_G) (G : Gx) (E : Nat) (M : St) (w : Int32) (k : Int32) (hE : (M 101 0) = nI E) (hE16 : E ≤ 16) : Ci l yX9_is cX9_is 4 (some .int) 3 (mw G) D (tyG G) [.ref (G.1 0), .int w, .int k] M (fun r X1 => r = (vM_is M w k) ∧ X1 = (sM_need M (vin k 0 2) w)) := by
  refine m_i (nL := 4) (lv := [(0, .ref (G.1 0)), (1, .int w), (2, .int k)]) [.ref (G.1 0), .int w, .int k] RX9 rfl (mw_adr G) (by decide +kernel) (Nat.le_of_ble_eq_true rfl) rfl (fun K C ret => ?_)
  refine x_aload_n C (pc := 0) dX9_is_0 0 rfl rfl ?_
  refine x_iload_n C (pc := 1) dX9_is_1 2 rfl rfl ?_
  refine x_iconst C (pc := 2) (v := 0) dX9_is_2 (by decide) ?_
  refine x_iconst C (pc := 3) (v := 2) dX9_is_3 (by decide) ?_
  refine x_callSi C (pc := 4) [.int k, .int 0, .int 2] (fun l D => c_X9_in l D G M k 0 2 ) ml_X9_122 co_X9_in st_X9_in in_X9 hy_X9_in.2 (by decide) (by decide) (Nat.le_of_ble_eq_true rfl) dX9_is_4 rfl (kx ?_)
  refine x_iload_n C (pc := 7) dX9_is_7 1 rfl rfl ?_
  refine x_callVi C (pc := 8) [.int (vin k 0 2), .int w] (fun l D => c_X9_need l D G E M (vin k 0 2) w hE hE16) (me_0 G _) rfl ml_X9_150 co_X9_need im_X9_need se_X9_need in_X9 hy_X9_need (by decide) (by decide) (Nat.le_of_ble_eq_true rfl) dX9_is_8 rfl (kx ?_)
  refine x_istore_n C (pc := 11) dX9_is_11 [(0, .ref (G.1 0)), (1, .int w), (2, .int k), (3, .int (vM_need M (vin k 0 2) w))] [1, 2, 3, 0] rfl (by decide) rfl ?_
  refine x_iload_n C (pc := 12) dX9_is_12 3 rfl rfl ?_
  refine x_if_ge C (pc := 13) (tgt := 20) dX9_is_13 (by decide) (fun c13 => ?_) (fun c13 => ?_)
  · have hw : vp_in w 16 := isOne_in (need_kn c13).1 hE hE16
    refine x_eqX (X' := M) (need_id c13) ?_
    refine x_iload_n C (pc := 20) dX9_is_20 2 rfl rfl ?_
    refine x_if_eq C (pc := 21) (tgt := 34) dX9_is_21 (by decide) (fun c21 => ?_) (fun c21 => ?_)
    · refine x_iconst C (pc := 34) (v := 1) dX9_is_34 (by decide) ?_
      refine x_goto C (pc := 35) (tgt := 39) dX9_is_35 (by decide) ?_
      exact ret 1 M 39 _ dX9_is_39 ⟨by unfold vM_is; (repeat (first | rw [if_pos (by assumption)] | rw [if_neg (by assumption)])) <;> first | rfl , by first | rfl | exact (need_id (by assumption)).symm⟩
    · refine x_aload_n C (pc := 24) dX9_is_24 0 rfl rfl ?_
      refine mG_kindOf C fl_X9_13 dX9_is_25 ?_
      refine x_iload_n C (pc := 28) dX9_is_28 1 rfl rfl ?_
      refine mL_kindOf C dX9_is_29 (by assumption) ?_
      refine x_iload_n C (pc := 30) dX9_is_30 2 rfl rfl ?_
      refine x_icmp_ne C (pc := 31) (tgt := 38) dX9_is_31 (by decide) (fun c31 => ?_) (fun c31 => ?_)
      · refine x_iconst C (pc := 38) (v := 0) dX9_is_38 (by decide) ?_
        exact ret 0 M 39 _ dX9_is_39 ⟨by unfold vM_is; (repeat (first | rw [if_pos (by assumption)] | rw [if_neg (by assumption)])) <;> first | rfl , by first | rfl | exact (need_id (by assumption)).symm⟩
      · refine x_iconst C (pc := 34) (v := 1) dX9_is_34 (by decide) ?_
        refine x_goto C (pc := 35) (tgt := 39) dX9_is_35 (by decide) ?_
        exact ret 1 M 39 _ dX9_is_39 ⟨by unfold vM_is; (repeat (first | rw [if_pos (by assumption)] | rw [if_neg (by assumption)])) <;> first | rfl , by first | rfl | exact (need_id (by assumption)).symm⟩
  · refine x_iload_n C (pc := 16) dX9_is_16 3 rfl rfl ?_
    refine x_goto C (pc := 17) (tgt := 39) dX9_is_17 (by decide) ?_
    exact ret (vM_need M (vin k 0 2) w) (sM_need M (vin k 0 2) w) 39 _ dX9_is_39 ⟨by unfold vM_is; (repeat (first | rw [if_pos (by assumption)] | rw [if_neg (by assumption)])) <;> first | rfl , by first | rfl | exact (need_id (by assumption)).symm⟩
set_option maxHeartbeats 4000000 in
set_option maxRecDepth 100000 in
theorem c_X9_on (l : Launch) (D : va_G) (G : Gx) (N : Nat) (M : St) (rg : Int32) (hS : (M 102 0) = nI N) (hN16 : N ≤ 16) : Ci l yX9_on cX9_on 2 (some .int) 1 (mw G) D (tyG G) [.ref (G.1 0), .int rg] M (fun r X1 => r = (vM_on M rg) ∧ X1 = M) := by
  refine m_i (nL := 2) (lv := [(0, .ref (G.1 0)), (1, .int rg)]) [.ref (G.1 0), .int rg] RX9 rfl (mw_adr G) (by decide +kernel) (Nat.le_of_ble_eq_true rfl) rfl (fun K C ret => ?_)
  refine x_iload_n C (pc := 0) dX9_on_0 1 rfl rfl ?_
  refine x_iconst C (pc := 1) (v := 0) dX9_on_1 (by decide) ?_
  refine x_aload_n C (pc := 2) dX9_on_2 0 rfl rfl ?_
  refine mG_there C fl_X9_126 dX9_on_3 ?_
  refine x_iconst C (pc := 6) (v := 1) dX9_on_6 (by decide) ?_
  refine x_isub C (pc := 7) dX9_on_7 ?_
  refine x_callSi C (pc := 8) [.int rg, .int 0, .int ((M 102 0) - 1)] (fun l D => c_X9_in l D G M rg 0 ((M 102 0) - 1) ) ml_X9_122 co_X9_in st_X9_in in_X9 hy_X9_in.2 (by decide) (by decide) (Nat.le_of_ble_eq_true rfl) dX9_on_8 rfl (kx ?_)
  refine x_if_eq C (pc := 11) (tgt := 23) dX9_on_11 (by decide) (fun c11 => ?_) (fun c11 => ?_)
  · refine x_bipush C (pc := 23) (v := (-9)) dX9_on_23 (by decide) ?_
    exact ret (-9) M 25 _ dX9_on_25 ⟨by unfold vM_on; (repeat (first | rw [if_pos (by assumption)] | rw [if_neg (by assumption)])) <;> first | rfl , rfl⟩
  · have hr : vp_in rg 16 := by
      have h := c11
      rw [hS] at h
      have h2 := vin_lt h (by omega)
      rw [in_nI h2 (by omega)]
      exact vp_in_nI (by have := in_ix h2; omega) (by decide)
    refine x_aload_n C (pc := 14) dX9_on_14 0 rfl rfl ?_
    refine mG_rungs C fl_X9_41 dX9_on_15 ?_
    refine x_iload_n C (pc := 18) dX9_on_18 1 rfl rfl ?_
    refine mL_rungs C dX9_on_19 (by assumption) ?_
    refine x_goto C (pc := 20) (tgt := 25) dX9_on_20 (by decide) ?_
    exact ret (M 11 (ix rg)) M 25 _ dX9_on_25 ⟨by unfold vM_on; (repeat (first | rw [if_pos (by assumption)] | rw [if_neg (by assumption)])) <;> first | rfl , rfl⟩
set_option maxHeartbeats 4000000 in
set_option maxRecDepth 100000 in
theorem c_X9_mark (l : Launch) (D : va_G) (G : Gx) (E : Nat) (M : St) (w : Int32) (k : Int32) (hE : (M 101 0) = nI E) (hE16 : E ≤ 16) : Ci l yX9_mark cX9_mark 4 (some .int) 3 (mw G) D (tyG G) [.ref (G.1 0), .int w, .int k] M (fun r X1 => r = (vM_mark M w k) ∧ X1 = (sM_mark M w k)) := by
  refine m_i (nL := 4) (lv := [(0, .ref (G.1 0)), (1, .int w), (2, .int k)]) [.ref (G.1 0), .int w, .int k] RX9 rfl (mw_adr G) (by decide +kernel) (Nat.le_of_ble_eq_true rfl) rfl (fun K C ret => ?_)
  refine x_aload_n C (pc := 0) dX9_mark_0 0 rfl rfl ?_
  refine x_iload_n C (pc := 1) dX9_mark_1 2 rfl rfl ?_
  refine x_iconst C (pc := 2) (v := 1) dX9_mark_2 (by decide) ?_
  refine x_iconst C (pc := 3) (v := 2) dX9_mark_3 (by decide) ?_
  refine x_callSi C (pc := 4) [.int k, .int 1, .int 2] (fun l D => c_X9_in l D G M k 1 2 ) ml_X9_122 co_X9_in st_X9_in in_X9 hy_X9_in.2 (by decide) (by decide) (Nat.le_of_ble_eq_true rfl) dX9_mark_4 rfl (kx ?_)
  refine x_iload_n C (pc := 7) dX9_mark_7 1 rfl rfl ?_
  refine x_callVi C (pc := 8) [.int (vin k 1 2), .int w] (fun l D => c_X9_need l D G E M (vin k 1 2) w hE hE16) (me_0 G _) rfl ml_X9_150 co_X9_need im_X9_need se_X9_need in_X9 hy_X9_need (by decide) (by decide) (Nat.le_of_ble_eq_true rfl) dX9_mark_8 rfl (kx ?_)
  refine x_istore_n C (pc := 11) dX9_mark_11 [(0, .ref (G.1 0)), (1, .int w), (2, .int k), (3, .int (vM_need M (vin k 1 2) w))] [1, 2, 3, 0] rfl (by decide) rfl ?_
  refine x_iload_n C (pc := 12) dX9_mark_12 3 rfl rfl ?_
  refine x_if_ge C (pc := 13) (tgt := 20) dX9_mark_13 (by decide) (fun c13 => ?_) (fun c13 => ?_)
  · have hw : vp_in w 16 := isOne_in (need_kn c13).1 hE hE16
    refine x_eqX (X' := M) (need_id c13) ?_
    refine x_aload_n C (pc := 20) dX9_mark_20 0 rfl rfl ?_
    refine mG_kindOf C fl_X9_13 dX9_mark_21 ?_
    refine x_iload_n C (pc := 24) dX9_mark_24 1 rfl rfl ?_
    refine mL_kindOf C dX9_mark_25 (by assumption) ?_
    refine x_iload_n C (pc := 26) dX9_mark_26 2 rfl rfl ?_
    refine x_icmp_ne C (pc := 27) (tgt := 39) dX9_mark_27 (by decide) (fun c27 => ?_) (fun c27 => ?_)
    · refine x_aload_n C (pc := 39) dX9_mark_39 0 rfl rfl ?_
      refine x_iconst C (pc := 40) (v := 3) dX9_mark_40 (by decide) ?_
      refine x_callVi C (pc := 41) [.int 3] (fun l D => c_X9_meets l D G M 3 in3_6) (me_0 G _) rfl ml_X9_143 co_X9_meets im_X9_meets se_X9_meets in_X9 hy_X9_meets (by decide) (by decide) (Nat.le_of_ble_eq_true rfl) dX9_mark_41 rfl (kx ?_)
      refine x_eqX (X' := (ux (ux M 100 0 3) 1 (ix 3) ((M 1 (ix 3)) + 1))) rfl ?_
      exact ret (-3) (ux (ux M 100 0 3) 1 (ix 3) ((M 1 (ix 3)) + 1)) 44 _ dX9_mark_44 ⟨by unfold vM_mark; (repeat (first | rw [if_pos (by assumption)] | rw [if_neg (by assumption)])) <;> first | rfl , by unfold sM_mark; (repeat (first | rw [if_pos (by assumption)] | rw [if_neg (by assumption)])) <;> first | rfl | exact (need_id (by assumption)).symm⟩
    · refine x_aload_n C (pc := 30) dX9_mark_30 0 rfl rfl ?_
      refine mG_marks C fl_X9_38 dX9_mark_31 ?_
      refine x_iload_n C (pc := 34) dX9_mark_34 1 rfl rfl ?_
      refine mL_marks C dX9_mark_35 (by assumption) ?_
      refine x_goto C (pc := 36) (tgt := 44) dX9_mark_36 (by decide) ?_
      exact ret (M 10 (ix w)) M 44 _ dX9_mark_44 ⟨by unfold vM_mark; (repeat (first | rw [if_pos (by assumption)] | rw [if_neg (by assumption)])) <;> first | rfl , by unfold sM_mark; (repeat (first | rw [if_pos (by assumption)] | rw [if_neg (by assumption)])) <;> first | rfl | exact (need_id (by assumption)).symm⟩
  · refine x_iload_n C (pc := 16) dX9_mark_16 3 rfl rfl ?_
    refine x_goto C (pc := 17) (tgt := 44) dX9_mark_17 (by decide) ?_
    exact ret (vM_need M (vin k 1 2) w) (sM_need M (vin k 1 2) w) 44 _ dX9_mark_44 ⟨by unfold vM_mark; (repeat (first | rw [if_pos (by assumption)] | rw [if_neg (by assumption)])) <;> first | rfl , by unfold sM_mark; (repeat (first | rw [if_pos (by assumption)] | rw [if_neg (by assumption)])) <;> first | rfl | exact (need_id (by assumption)).symm⟩
set_option maxHeartbeats 4000000 in
set_option maxRecDepth 100000 in
theorem c_X9_isSheet (l : Launch) (D : va_G) (G : Gx) (M : St) (s : Int32) : Ci l yX9_isSheet cX9_isSheet 1 (some .boolean) 1 (mw G) D (tyG G) [.int s] M (fun r X1 => r = (vin s 0 3) ∧ X1 = M) := by
  refine m_z (nL := 1) (lv := [(0, .int s)]) [.int s] RX9 rfl (mw_adr G) (by decide +kernel) (Nat.le_of_ble_eq_true rfl) rfl (fun K C ret => ?_)
  refine x_iload_n C (pc := 0) dX9_isSheet_0 0 rfl rfl ?_
  refine x_iconst C (pc := 1) (v := 0) dX9_isSheet_1 (by decide) ?_
  refine x_iconst C (pc := 2) (v := 3) dX9_isSheet_2 (by decide) ?_
  refine x_callSi C (pc := 3) [.int s, .int 0, .int 3] (fun l D => c_X9_in l D G M s 0 3 ) ml_X9_122 co_X9_in st_X9_in in_X9 hy_X9_in.2 (by decide) (by decide) (Nat.le_of_ble_eq_true rfl) dX9_isSheet_3 rfl (kx ?_)
  exact ret (vin s 0 3) M 6 _ dX9_isSheet_6 (vin_b) ⟨rfl, rfl⟩
set_option maxHeartbeats 4000000 in
set_option maxRecDepth 100000 in
theorem c_X9_tear (l : Launch) (D : va_G) (G : Gx) (M : St) (s : Int32) : Ci l yX9_tear cX9_tear 2 (some .int) 2 (mw G) D (tyG G) [.ref (G.1 0), .int s] M (fun r X1 => r = (vM_tear M s) ∧ X1 = (sM_tear M s)) := by
  refine m_i (nL := 2) (lv := [(0, .ref (G.1 0)), (1, .int s)]) [.ref (G.1 0), .int s] RX9 rfl (mw_adr G) (by decide +kernel) (Nat.le_of_ble_eq_true rfl) rfl (fun K C ret => ?_)
  refine x_iload_n C (pc := 0) dX9_tear_0 1 rfl rfl ?_
  refine x_callSi C (pc := 1) [.int s] (fun l D => c_X9_isSheet l D G M s ) ml_X9_158 co_X9_isSheet st_X9_isSheet in_X9 hy_X9_isSheet.2 (by decide) (by decide) (Nat.le_of_ble_eq_true rfl) dX9_tear_1 rfl (kx ?_)
  refine x_if_ne C (pc := 4) (tgt := 9) dX9_tear_4 (by decide) (fun c4 => ?_) (fun c4 => ?_)
  · have hs : vp_in s 4 := vinS_in c4
    refine x_aload_n C (pc := 9) dX9_tear_9 0 rfl rfl ?_
    refine mG_sheetSize C fl_X9_44 dX9_tear_10 ?_
    refine x_iload_n C (pc := 13) dX9_tear_13 1 rfl rfl ?_
    refine mL_sheetSize C dX9_tear_14 (by assumption) ?_
    refine x_if_ge C (pc := 15) (tgt := 24) dX9_tear_15 (by decide) (fun c15 => ?_) (fun c15 => ?_)
    · refine x_aload_n C (pc := 24) dX9_tear_24 0 rfl rfl ?_
      refine mG_sheetSize C fl_X9_44 dX9_tear_25 ?_
      refine x_iload_n C (pc := 28) dX9_tear_28 1 rfl rfl ?_
      refine x_iconst C (pc := 29) (v := (-1)) dX9_tear_29 (by decide) ?_
      refine mS_sheetSize C dX9_tear_30 (by assumption) ?_
      refine x_iconst C (pc := 31) (v := 1) dX9_tear_31 (by decide) ?_
      exact ret 1 (ux M 12 (ix s) (-1)) 32 _ dX9_tear_32 ⟨by unfold vM_tear; (repeat (first | rw [if_pos (by assumption)] | rw [if_neg (by assumption)])) <;> first | rfl , by unfold sM_tear; (repeat (first | rw [if_pos (by assumption)] | rw [if_neg (by assumption)])) <;> first | rfl | exact (need_id (by assumption)).symm⟩
    · refine x_aload_n C (pc := 18) dX9_tear_18 0 rfl rfl ?_
      refine x_iconst C (pc := 19) (v := 1) dX9_tear_19 (by decide) ?_
      refine x_callVi C (pc := 20) [.int 1] (fun l D => c_X9_meets l D G M 1 in1_6) (me_0 G _) rfl ml_X9_143 co_X9_meets im_X9_meets se_X9_meets in_X9 hy_X9_meets (by decide) (by decide) (Nat.le_of_ble_eq_true rfl) dX9_tear_20 rfl (kx ?_)
      refine x_eqX (X' := (ux (ux M 100 0 1) 1 (ix 1) ((M 1 (ix 1)) + 1))) rfl ?_
      exact ret (-3) (ux (ux M 100 0 1) 1 (ix 1) ((M 1 (ix 1)) + 1)) 23 _ dX9_tear_23 ⟨by unfold vM_tear; (repeat (first | rw [if_pos (by assumption)] | rw [if_neg (by assumption)])) <;> first | rfl , by unfold sM_tear; (repeat (first | rw [if_pos (by assumption)] | rw [if_neg (by assumption)])) <;> first | rfl | exact (need_id (by assumption)).symm⟩
  · refine x_iconst C (pc := 7) (v := (-1)) dX9_tear_7 (by decide) ?_
    exact ret (-1) M 8 _ dX9_tear_8 ⟨by unfold vM_tear; (repeat (first | rw [if_pos (by assumption)] | rw [if_neg (by assumption)])) <;> first | rfl , by unfold sM_tear; (repeat (first | rw [if_pos (by assumption)] | rw [if_neg (by assumption)])) <;> first | rfl | exact (need_id (by assumption)).symm⟩
theorem lay_in {M : St} {s i : Int32} (hZ : ∀ j, j < 4 → (M 12) j = (-1) ∨ ∃ z, z ≤ 16 ∧ (M 12) j = nI z) (hs : vp_in s 4) (h0 : 0 ≤ (M 12) (ix s)) (h : ¬ vin i 0 ((M 12) (ix s) - 1) = 0) : vp_in i 16 := by
  rcases hZ _ (in_ix hs) with e | ⟨z, hz, e⟩
  · rw [e] at h0; exact absurd h0 (by decide)
  · rw [e] at h
    have h2 := vin_lt h (by omega)
    rw [in_nI h2 (by omega)]
    exact vp_in_nI (by have := in_ix h2; omega) (by decide)

set_option maxHeartbeats 4000000 in
set_option maxRecDepth 100000 in
theorem c_X9_lay (l : Launch) (D : va_G) (G : Gx) (M : St) (s : Int32) (i : Int32) (v : Int32) (hZ : ∀ j, j < 4 → (M 12) j = (-1) ∨ ∃ z, z ≤ 16 ∧ (M 12) j = nI z) : Ci l yX9_lay cX9_lay 5 (some .int) 2 (mw G) D (tyG G) [.ref (G.1 0), .int s, .int i, .int v] M (fun r X1 => r = (vM_lay M s i) ∧ X1 = (sM_lay M s i v)) := by
  refine m_i (nL := 5) (lv := [(0, .ref (G.1 0)), (1, .int s), (2, .int i), (3, .int v)]) [.ref (G.1 0), .int s, .int i, .int v] RX9 rfl (mw_adr G) (by decide +kernel) (Nat.le_of_ble_eq_true rfl) rfl (fun K C ret => ?_)
  refine x_iload_n C (pc := 0) dX9_lay_0 1 rfl rfl ?_
  refine x_callSi C (pc := 1) [.int s] (fun l D => c_X9_isSheet l D G M s ) ml_X9_158 co_X9_isSheet st_X9_isSheet in_X9 hy_X9_isSheet.2 (by decide) (by decide) (Nat.le_of_ble_eq_true rfl) dX9_lay_1 rfl (kx ?_)
  refine x_if_ne C (pc := 4) (tgt := 9) dX9_lay_4 (by decide) (fun c4 => ?_) (fun c4 => ?_)
  · have hs : vp_in s 4 := vinS_in c4
    refine x_aload_n C (pc := 9) dX9_lay_9 0 rfl rfl ?_
    refine mG_sheetSize C fl_X9_44 dX9_lay_10 ?_
    refine x_iload_n C (pc := 13) dX9_lay_13 1 rfl rfl ?_
    refine mL_sheetSize C dX9_lay_14 (by assumption) ?_
    refine x_if_ge C (pc := 15) (tgt := 24) dX9_lay_15 (by decide) (fun c15 => ?_) (fun c15 => ?_)
    · refine x_iload_n C (pc := 24) dX9_lay_24 2 rfl rfl ?_
      refine x_iconst C (pc := 25) (v := 0) dX9_lay_25 (by decide) ?_
      refine x_aload_n C (pc := 26) dX9_lay_26 0 rfl rfl ?_
      refine mG_sheetSize C fl_X9_44 dX9_lay_27 ?_
      refine x_iload_n C (pc := 30) dX9_lay_30 1 rfl rfl ?_
      refine mL_sheetSize C dX9_lay_31 (by assumption) ?_
      refine x_iconst C (pc := 32) (v := 1) dX9_lay_32 (by decide) ?_
      refine x_isub C (pc := 33) dX9_lay_33 ?_
      refine x_callSi C (pc := 34) [.int i, .int 0, .int ((M 12 (ix s)) - 1)] (fun l D => c_X9_in l D G M i 0 ((M 12 (ix s)) - 1) ) ml_X9_122 co_X9_in st_X9_in in_X9 hy_X9_in.2 (by decide) (by decide) (Nat.le_of_ble_eq_true rfl) dX9_lay_34 rfl (kx ?_)
      refine x_if_ne C (pc := 37) (tgt := 46) dX9_lay_37 (by decide) (fun c37 => ?_) (fun c37 => ?_)
      · have hi : vp_in i 16 := lay_in hZ hs c15 c37
        have h64 : vp_in (16 * s + i) 64 := in16 hs hi
        refine x_aload_n C (pc := 46) dX9_lay_46 0 rfl rfl ?_
        refine mG_sheets C fl_X9_47 dX9_lay_47 ?_
        refine x_bipush C (pc := 50) (v := 16) dX9_lay_50 (by decide) ?_
        refine x_iload_n C (pc := 52) dX9_lay_52 1 rfl rfl ?_
        refine x_imul C (pc := 53) dX9_lay_53 ?_
        refine x_iload_n C (pc := 54) dX9_lay_54 2 rfl rfl ?_
        refine x_iadd C (pc := 55) dX9_lay_55 ?_
        refine mL_sheets C dX9_lay_56 (by assumption) ?_
        refine x_istore C (pc := 57) dX9_lay_57 [(0, .ref (G.1 0)), (1, .int s), (2, .int i), (3, .int v), (4, .int (M 13 (ix ((16 * s) + i))))] [1, 2, 3, 4, 0] (by decide) rfl ?_
        refine x_aload_n C (pc := 59) dX9_lay_59 0 rfl rfl ?_
        refine mG_sheets C fl_X9_47 dX9_lay_60 ?_
        refine x_bipush C (pc := 63) (v := 16) dX9_lay_63 (by decide) ?_
        refine x_iload_n C (pc := 65) dX9_lay_65 1 rfl rfl ?_
        refine x_imul C (pc := 66) dX9_lay_66 ?_
        refine x_iload_n C (pc := 67) dX9_lay_67 2 rfl rfl ?_
        refine x_iadd C (pc := 68) dX9_lay_68 ?_
        refine x_iload_n C (pc := 69) dX9_lay_69 3 rfl rfl ?_
        refine x_i2b C (pc := 70) dX9_lay_70 ?_
        refine mS_sheets C dX9_lay_71 (by assumption) ?_
        refine x_sipush C (pc := 72) (v := 1000) dX9_lay_72 (by decide) ?_
        refine x_iload C (pc := 75) dX9_lay_75 4 rfl ?_
        refine x_iadd C (pc := 77) dX9_lay_77 ?_
        exact ret (1000 + (M 13 (ix ((16 * s) + i)))) (ux M 13 (ix ((16 * s) + i)) (vp_nar .byte ((Int32.toInt8 v).toInt32))) 78 _ dX9_lay_78 ⟨by unfold vM_lay; (repeat (first | rw [if_pos (by assumption)] | rw [if_neg (by assumption)])) <;> first | rfl , by unfold sM_lay; (repeat (first | rw [if_pos (by assumption)] | rw [if_neg (by assumption)])) <;> first | rfl | exact (need_id (by assumption)).symm⟩
      · refine x_aload_n C (pc := 40) dX9_lay_40 0 rfl rfl ?_
        refine x_iconst C (pc := 41) (v := 2) dX9_lay_41 (by decide) ?_
        refine x_callVi C (pc := 42) [.int 2] (fun l D => c_X9_meets l D G M 2 in2_6) (me_0 G _) rfl ml_X9_143 co_X9_meets im_X9_meets se_X9_meets in_X9 hy_X9_meets (by decide) (by decide) (Nat.le_of_ble_eq_true rfl) dX9_lay_42 rfl (kx ?_)
        refine x_eqX (X' := (ux (ux M 100 0 2) 1 (ix 2) ((M 1 (ix 2)) + 1))) rfl ?_
        exact ret (-3) (ux (ux M 100 0 2) 1 (ix 2) ((M 1 (ix 2)) + 1)) 45 _ dX9_lay_45 ⟨by unfold vM_lay; (repeat (first | rw [if_pos (by assumption)] | rw [if_neg (by assumption)])) <;> first | rfl , by unfold sM_lay; (repeat (first | rw [if_pos (by assumption)] | rw [if_neg (by assumption)])) <;> first | rfl | exact (need_id (by assumption)).symm⟩
    · refine x_aload_n C (pc := 18) dX9_lay_18 0 rfl rfl ?_
      refine x_iconst C (pc := 19) (v := 1) dX9_lay_19 (by decide) ?_
      refine x_callVi C (pc := 20) [.int 1] (fun l D => c_X9_meets l D G M 1 in1_6) (me_0 G _) rfl ml_X9_143 co_X9_meets im_X9_meets se_X9_meets in_X9 hy_X9_meets (by decide) (by decide) (Nat.le_of_ble_eq_true rfl) dX9_lay_20 rfl (kx ?_)
      refine x_eqX (X' := (ux (ux M 100 0 1) 1 (ix 1) ((M 1 (ix 1)) + 1))) rfl ?_
      exact ret (-3) (ux (ux M 100 0 1) 1 (ix 1) ((M 1 (ix 1)) + 1)) 23 _ dX9_lay_23 ⟨by unfold vM_lay; (repeat (first | rw [if_pos (by assumption)] | rw [if_neg (by assumption)])) <;> first | rfl , by unfold sM_lay; (repeat (first | rw [if_pos (by assumption)] | rw [if_neg (by assumption)])) <;> first | rfl | exact (need_id (by assumption)).symm⟩
  · refine x_iconst C (pc := 7) (v := (-1)) dX9_lay_7 (by decide) ?_
    exact ret (-1) M 8 _ dX9_lay_8 ⟨by unfold vM_lay; (repeat (first | rw [if_pos (by assumption)] | rw [if_neg (by assumption)])) <;> first | rfl , by unfold sM_lay; (repeat (first | rw [if_pos (by assumption)] | rw [if_neg (by assumption)])) <;> first | rfl | exact (need_id (by assumption)).symm⟩
set_option maxHeartbeats 4000000 in
set_option maxRecDepth 100000 in
theorem c_X9_prices (l : Launch) (D : va_G) (G : Gx) (M : St) (s : Int32) : Ci l yX9_prices cX9_prices 3 (some .int) 2 (mw G) D (tyG G) [.ref (G.1 0), .int s] M (fun r X1 => r = (vM_prices M s) ∧ X1 = (sM_prices M s)) := by
  refine m_i (nL := 3) (lv := [(0, .ref (G.1 0)), (1, .int s)]) [.ref (G.1 0), .int s] RX9 rfl (mw_adr G) (by decide +kernel) (Nat.le_of_ble_eq_true rfl) rfl (fun K C ret => ?_)
  refine x_iload_n C (pc := 0) dX9_prices_0 1 rfl rfl ?_
  refine x_bipush C (pc := 1) (v := (-9)) dX9_prices_1 (by decide) ?_
  refine x_icmp_eq C (pc := 3) (tgt := 15) dX9_prices_3 (by decide) (fun c3 => ?_) (fun c3 => ?_)
  · refine x_iload_n C (pc := 15) dX9_prices_15 1 rfl rfl ?_
    refine x_bipush C (pc := 16) (v := (-9)) dX9_prices_16 (by decide) ?_
    refine x_icmp_eq C (pc := 18) (tgt := 36) dX9_prices_18 (by decide) (fun c18 => ?_) (fun c18 => absurd c3 c18)
    refine x_aload_n C (pc := 36) dX9_prices_36 0 rfl rfl ?_
    refine mG_priceSheet C fl_X9_112 dX9_prices_37 ?_
    refine x_istore_n C (pc := 40) dX9_prices_40 [(0, .ref (G.1 0)), (1, .int s), (2, .int (M 104 0))] [1, 2, 0] rfl (by decide) rfl ?_
    refine x_aload_n C (pc := 41) dX9_prices_41 0 rfl rfl ?_
    refine x_iload_n C (pc := 42) dX9_prices_42 1 rfl rfl ?_
    refine mP_priceSheet C fl_X9_112 (v := s) dX9_prices_43 ?_
    refine x_iload_n C (pc := 46) dX9_prices_46 2 rfl rfl ?_
    exact ret (M 104 0) (ux M 104 0 s) 47 _ dX9_prices_47 ⟨by unfold vM_prices; (repeat (first | rw [if_pos (by assumption)] | rw [if_neg (by assumption)])) <;> first | rfl , by unfold sM_prices; (repeat (first | rw [if_pos (by assumption)] | rw [if_neg (by assumption)])) <;> first | rfl | exact (need_id (by assumption)).symm⟩
  · refine x_iload_n C (pc := 6) dX9_prices_6 1 rfl rfl ?_
    refine x_callSi C (pc := 7) [.int s] (fun l D => c_X9_isSheet l D G M s ) ml_X9_158 co_X9_isSheet st_X9_isSheet in_X9 hy_X9_isSheet.2 (by decide) (by decide) (Nat.le_of_ble_eq_true rfl) dX9_prices_7 rfl (kx ?_)
    refine x_if_ne C (pc := 10) (tgt := 15) dX9_prices_10 (by decide) (fun c10 => ?_) (fun c10 => ?_)
    · refine x_iload_n C (pc := 15) dX9_prices_15 1 rfl rfl ?_
      refine x_bipush C (pc := 16) (v := (-9)) dX9_prices_16 (by decide) ?_
      refine x_icmp_eq C (pc := 18) (tgt := 36) dX9_prices_18 (by decide) (fun c18 => absurd c18 c3) (fun c18 => ?_)
      have hs : vp_in s 4 := vinS_in c10
      refine x_aload_n C (pc := 21) dX9_prices_21 0 rfl rfl ?_
      refine mG_sheetSize C fl_X9_44 dX9_prices_22 ?_
      refine x_iload_n C (pc := 25) dX9_prices_25 1 rfl rfl ?_
      refine mL_sheetSize C dX9_prices_26 (by assumption) ?_
      refine x_if_ge C (pc := 27) (tgt := 36) dX9_prices_27 (by decide) (fun c27 => ?_) (fun c27 => ?_)
      · refine x_aload_n C (pc := 36) dX9_prices_36 0 rfl rfl ?_
        refine mG_priceSheet C fl_X9_112 dX9_prices_37 ?_
        refine x_istore_n C (pc := 40) dX9_prices_40 [(0, .ref (G.1 0)), (1, .int s), (2, .int (M 104 0))] [1, 2, 0] rfl (by decide) rfl ?_
        refine x_aload_n C (pc := 41) dX9_prices_41 0 rfl rfl ?_
        refine x_iload_n C (pc := 42) dX9_prices_42 1 rfl rfl ?_
        refine mP_priceSheet C fl_X9_112 (v := s) dX9_prices_43 ?_
        refine x_iload_n C (pc := 46) dX9_prices_46 2 rfl rfl ?_
        exact ret (M 104 0) (ux M 104 0 s) 47 _ dX9_prices_47 ⟨by unfold vM_prices; (repeat (first | rw [if_pos (by assumption)] | rw [if_neg (by assumption)])) <;> first | rfl , by unfold sM_prices; (repeat (first | rw [if_pos (by assumption)] | rw [if_neg (by assumption)])) <;> first | rfl | exact (need_id (by assumption)).symm⟩
      · refine x_aload_n C (pc := 30) dX9_prices_30 0 rfl rfl ?_
        refine x_iconst C (pc := 31) (v := 1) dX9_prices_31 (by decide) ?_
        refine x_callVi C (pc := 32) [.int 1] (fun l D => c_X9_meets l D G M 1 in1_6) (me_0 G _) rfl ml_X9_143 co_X9_meets im_X9_meets se_X9_meets in_X9 hy_X9_meets (by decide) (by decide) (Nat.le_of_ble_eq_true rfl) dX9_prices_32 rfl (kx ?_)
        refine x_eqX (X' := (ux (ux M 100 0 1) 1 (ix 1) ((M 1 (ix 1)) + 1))) rfl ?_
        exact ret (-3) (ux (ux M 100 0 1) 1 (ix 1) ((M 1 (ix 1)) + 1)) 35 _ dX9_prices_35 ⟨by unfold vM_prices; (repeat (first | rw [if_pos (by assumption)] | rw [if_neg (by assumption)])) <;> first | rfl , by unfold sM_prices; (repeat (first | rw [if_pos (by assumption)] | rw [if_neg (by assumption)])) <;> first | rfl | exact (need_id (by assumption)).symm⟩
    · refine x_iconst C (pc := 13) (v := (-1)) dX9_prices_13 (by decide) ?_
      exact ret (-1) M 14 _ dX9_prices_14 ⟨by unfold vM_prices; (repeat (first | rw [if_pos (by assumption)] | rw [if_neg (by assumption)])) <;> first | rfl , by unfold sM_prices; (repeat (first | rw [if_pos (by assumption)] | rw [if_neg (by assumption)])) <;> first | rfl | exact (need_id (by assumption)).symm⟩
theorem price_m1 {M : St} (hZ : ∀ j, j < 4 → (M 12) j = (-1) ∨ ∃ z, z ≤ 16 ∧ (M 12) j = nI z) (ht : vp_in (M 104 0) 4) (h0 : 0 ≤ (M 12) (ix (M 104 0))) (h1 : ¬ (M 12) (ix (M 104 0)) = 0) : ∃ z, 0 < z ∧ z ≤ 16 ∧ (M 12) (ix (M 104 0)) = nI z := by
  rcases hZ _ (in_ix ht) with e | ⟨z, hz, e⟩
  · rw [e] at h0; exact absurd h0 (by decide)
  · exact ⟨z, Nat.pos_of_ne_zero (fun q => h1 (by rw [e, q]; rfl)), hz, e⟩

set_option maxHeartbeats 4000000 in
set_option maxRecDepth 100000 in
theorem c_X9_priceOf (l : Launch) (D : va_G) (G : Gx) (k : Nat) (M : St) (n : Int32) (ht : (M 104 0) ≠ (-9) → vp_in (M 104 0) 4) (hZ : ∀ j, j < 4 → (M 12) j = (-1) ∨ ∃ z, z ≤ 16 ∧ (M 12) j = nI z) (hn0 : n = nI k) (hk : k < 2 ^ 31) : Ci l yX9_priceOf cX9_priceOf 4 (some .int) 0 (mw G) D (tyG G) [.ref (G.1 0), .int n] M (fun r X1 => r = (vM_priceOf M n) ∧ X1 = M) := by
  refine m_i (nL := 4) (lv := [(0, .ref (G.1 0)), (1, .int n)]) [.ref (G.1 0), .int n] RX9 rfl (mw_adr G) (by decide +kernel) (Nat.le_of_ble_eq_true rfl) rfl (fun K C ret => ?_)
  refine x_aload_n C (pc := 0) dX9_priceOf_0 0 rfl rfl ?_
  refine mG_priceSheet C fl_X9_112 dX9_priceOf_1 ?_
  refine x_bipush C (pc := 4) (v := (-9)) dX9_priceOf_4 (by decide) ?_
  refine x_icmp_eq C (pc := 6) (tgt := 21) dX9_priceOf_6 (by decide) (fun c6 => ?_) (fun c6 => ?_)
  · refine x_iconst C (pc := 21) (v := 4) dX9_priceOf_21 (by decide) ?_
    refine x_iload_n C (pc := 22) dX9_priceOf_22 1 rfl rfl ?_
    refine x_imul C (pc := 23) dX9_priceOf_23 ?_
    refine x_iload_n C (pc := 24) dX9_priceOf_24 1 rfl rfl ?_
    refine x_imul C (pc := 25) dX9_priceOf_25 ?_
    exact ret ((4 * n) * n) M 26 _ dX9_priceOf_26 ⟨by unfold vM_priceOf; (repeat (first | rw [if_pos (by assumption)] | rw [if_neg (by assumption)])) <;> first | rfl , rfl⟩
  · have hT := ht c6
    refine x_aload_n C (pc := 9) dX9_priceOf_9 0 rfl rfl ?_
    refine mG_sheetSize C fl_X9_44 dX9_priceOf_10 ?_
    refine x_aload_n C (pc := 13) dX9_priceOf_13 0 rfl rfl ?_
    refine mG_priceSheet C fl_X9_112 dX9_priceOf_14 ?_
    refine mL_sheetSize C dX9_priceOf_17 (by assumption) ?_
    refine x_if_ge C (pc := 18) (tgt := 27) dX9_priceOf_18 (by decide) (fun c18 => ?_) (fun c18 => ?_)
    · refine x_aload_n C (pc := 27) dX9_priceOf_27 0 rfl rfl ?_
      refine mG_sheetSize C fl_X9_44 dX9_priceOf_28 ?_
      refine x_aload_n C (pc := 31) dX9_priceOf_31 0 rfl rfl ?_
      refine mG_priceSheet C fl_X9_112 dX9_priceOf_32 ?_
      refine mL_sheetSize C dX9_priceOf_35 (by assumption) ?_
      refine x_istore_n C (pc := 36) dX9_priceOf_36 [(0, .ref (G.1 0)), (1, .int n), (2, .int (M 12 (ix (M 104 0))))] [1, 2, 0] rfl (by decide) rfl ?_
      refine x_iload_n C (pc := 37) dX9_priceOf_37 2 rfl rfl ?_
      refine x_if_ne C (pc := 38) (tgt := 43) dX9_priceOf_38 (by decide) (fun c38 => ?_) (fun c38 => ?_)
      · obtain ⟨z, hz0, hz16, hz⟩ := price_m1 hZ hT c18 c38
        refine x_aload_n C (pc := 43) dX9_priceOf_43 0 rfl rfl ?_
        refine mG_sheets C fl_X9_47 dX9_priceOf_44 ?_
        refine x_bipush C (pc := 47) (v := 16) dX9_priceOf_47 (by decide) ?_
        refine x_aload_n C (pc := 49) dX9_priceOf_49 0 rfl rfl ?_
        refine mG_priceSheet C fl_X9_112 dX9_priceOf_50 ?_
        refine x_imul C (pc := 53) dX9_priceOf_53 ?_
        refine x_iload_n C (pc := 54) dX9_priceOf_54 1 rfl rfl ?_
        refine x_iload_n C (pc := 55) dX9_priceOf_55 2 rfl rfl ?_
        refine x_icmp_ge C (pc := 56) (tgt := 63) dX9_priceOf_56 (by decide) (fun c56 => ?_) (fun c56 => ?_)
        · have h64 : vp_in (16 * (M 104 0) + ((M 12) (ix (M 104 0)) - 1)) 64 := in16 hT (by rw [hz, nI_m1 hz0]; exact vp_in_nI (by omega) (by decide))
          refine x_iload_n C (pc := 63) dX9_priceOf_63 2 rfl rfl ?_
          refine x_iconst C (pc := 64) (v := 1) dX9_priceOf_64 (by decide) ?_
          refine x_isub C (pc := 65) dX9_priceOf_65 ?_
          refine x_iadd C (pc := 66) dX9_priceOf_66 ?_
          refine mL_sheets C dX9_priceOf_67 (by assumption) ?_
          refine x_istore_n C (pc := 68) dX9_priceOf_68 [(0, .ref (G.1 0)), (1, .int n), (2, .int (M 12 (ix (M 104 0)))), (3, .int (M 13 (ix ((16 * (M 104 0)) + ((M 12 (ix (M 104 0))) - 1)))))] [1, 2, 3, 0] rfl (by decide) rfl ?_
          refine x_iload_n C (pc := 69) dX9_priceOf_69 3 rfl rfl ?_
          refine x_if_ge C (pc := 70) (tgt := 77) dX9_priceOf_70 (by decide) (fun c70 => ?_) (fun c70 => ?_)
          · refine x_iload_n C (pc := 77) dX9_priceOf_77 3 rfl rfl ?_
            exact ret (M 13 (ix ((16 * (M 104 0)) + ((M 12 (ix (M 104 0))) - 1)))) M 78 _ dX9_priceOf_78 ⟨by unfold vM_priceOf; (repeat (first | rw [if_pos (by assumption)] | rw [if_neg (by assumption)])) <;> first | rfl , rfl⟩
          · refine x_iconst C (pc := 73) (v := 0) dX9_priceOf_73 (by decide) ?_
            refine x_goto C (pc := 74) (tgt := 78) dX9_priceOf_74 (by decide) ?_
            exact ret 0 M 78 _ dX9_priceOf_78 ⟨by unfold vM_priceOf; (repeat (first | rw [if_pos (by assumption)] | rw [if_neg (by assumption)])) <;> first | rfl , rfl⟩
        · have hkz : k < z := ltN hn0 hz c56 hk
          have h64 : vp_in (16 * (M 104 0) + n) 64 := in16 hT (by rw [hn0]; exact vp_in_nI (by omega) (by decide))
          refine x_iload_n C (pc := 59) dX9_priceOf_59 1 rfl rfl ?_
          refine x_goto C (pc := 60) (tgt := 66) dX9_priceOf_60 (by decide) ?_
          refine x_iadd C (pc := 66) dX9_priceOf_66 ?_
          refine mL_sheets C dX9_priceOf_67 (by assumption) ?_
          refine x_istore_n C (pc := 68) dX9_priceOf_68 [(0, .ref (G.1 0)), (1, .int n), (2, .int (M 12 (ix (M 104 0)))), (3, .int (M 13 (ix ((16 * (M 104 0)) + n))))] [1, 2, 3, 0] rfl (by decide) rfl ?_
          refine x_iload_n C (pc := 69) dX9_priceOf_69 3 rfl rfl ?_
          refine x_if_ge C (pc := 70) (tgt := 77) dX9_priceOf_70 (by decide) (fun c70 => ?_) (fun c70 => ?_)
          · refine x_iload_n C (pc := 77) dX9_priceOf_77 3 rfl rfl ?_
            exact ret (M 13 (ix ((16 * (M 104 0)) + n))) M 78 _ dX9_priceOf_78 ⟨by unfold vM_priceOf; (repeat (first | rw [if_pos (by assumption)] | rw [if_neg (by assumption)])) <;> first | rfl , rfl⟩
          · refine x_iconst C (pc := 73) (v := 0) dX9_priceOf_73 (by decide) ?_
            refine x_goto C (pc := 74) (tgt := 78) dX9_priceOf_74 (by decide) ?_
            exact ret 0 M 78 _ dX9_priceOf_78 ⟨by unfold vM_priceOf; (repeat (first | rw [if_pos (by assumption)] | rw [if_neg (by assumption)])) <;> first | rfl , rfl⟩
      · refine x_iconst C (pc := 41) (v := 0) dX9_priceOf_41 (by decide) ?_
        exact ret 0 M 42 _ dX9_priceOf_42 ⟨by unfold vM_priceOf; (repeat (first | rw [if_pos (by assumption)] | rw [if_neg (by assumption)])) <;> first | rfl , rfl⟩
    · refine x_iconst C (pc := 21) (v := 4) dX9_priceOf_21 (by decide) ?_
      refine x_iload_n C (pc := 22) dX9_priceOf_22 1 rfl rfl ?_
      refine x_imul C (pc := 23) dX9_priceOf_23 ?_
      refine x_iload_n C (pc := 24) dX9_priceOf_24 1 rfl rfl ?_
      refine x_imul C (pc := 25) dX9_priceOf_25 ?_
      exact ret ((4 * n) * n) M 26 _ dX9_priceOf_26 ⟨by unfold vM_priceOf; (repeat (first | rw [if_pos (by assumption)] | rw [if_neg (by assumption)])) <;> first | rfl , rfl⟩
set_option maxHeartbeats 4000000 in
set_option maxRecDepth 100000 in
theorem c_X9_price (l : Launch) (D : va_G) (G : Gx) (M : St) (n : Int32) (ht : (M 104 0) ≠ (-9) → vp_in (M 104 0) 4) (hZ : ∀ j, j < 4 → (M 12) j = (-1) ∨ ∃ z, z ≤ 16 ∧ (M 12) j = nI z) : Ci l yX9_price cX9_price 2 (some .int) 1 (mw G) D (tyG G) [.ref (G.1 0), .int n] M (fun r X1 => r = (vM_price M n) ∧ X1 = M) := by
  refine m_i (nL := 2) (lv := [(0, .ref (G.1 0)), (1, .int n)]) [.ref (G.1 0), .int n] RX9 rfl (mw_adr G) (by decide +kernel) (Nat.le_of_ble_eq_true rfl) rfl (fun K C ret => ?_)
  refine x_iload_n C (pc := 0) dX9_price_0 1 rfl rfl ?_
  refine x_iconst C (pc := 1) (v := 0) dX9_price_1 (by decide) ?_
  refine x_bipush C (pc := 2) (v := 15) dX9_price_2 (by decide) ?_
  refine x_callSi C (pc := 4) [.int n, .int 0, .int 15] (fun l D => c_X9_in l D G M n 0 15 ) ml_X9_122 co_X9_in st_X9_in in_X9 hy_X9_in.2 (by decide) (by decide) (Nat.le_of_ble_eq_true rfl) dX9_price_4 rfl (kx ?_)
  refine x_if_eq C (pc := 7) (tgt := 18) dX9_price_7 (by decide) (fun c7 => ?_) (fun c7 => ?_)
  · refine x_iconst C (pc := 18) (v := (-1)) dX9_price_18 (by decide) ?_
    exact ret (-1) M 19 _ dX9_price_19 ⟨by unfold vM_price; (repeat (first | rw [if_pos (by assumption)] | rw [if_neg (by assumption)])) <;> first | rfl , rfl⟩
  · obtain ⟨k, hk, hkn⟩ := nI_of (show ¬ n < 0 from fun h => c7 (by unfold vin; rw [if_pos h]))
    refine x_aload_n C (pc := 10) dX9_price_10 0 rfl rfl ?_
    refine x_iload_n C (pc := 11) dX9_price_11 1 rfl rfl ?_
    refine x_callVi C (pc := 12) [.int n] (fun l D => c_X9_priceOf l D G k M n ht hZ hkn hk) (me_0 G _) rfl ml_X9_161 co_X9_priceOf im_X9_priceOf se_X9_priceOf in_X9 hy_X9_priceOf (by decide) (by decide) (Nat.le_of_ble_eq_true rfl) dX9_price_12 rfl (kx ?_)
    refine x_goto C (pc := 15) (tgt := 19) dX9_price_15 (by decide) ?_
    exact ret (vM_priceOf M n) M 19 _ dX9_price_19 ⟨by unfold vM_price; (repeat (first | rw [if_pos (by assumption)] | rw [if_neg (by assumption)])) <;> first | rfl , rfl⟩
set_option maxHeartbeats 4000000 in
set_option maxRecDepth 100000 in
theorem c_X9_absent (l : Launch) (D : va_G) (G : Gx) (E : Nat) (M : St) (w : Int32) (a : Int32) (hE : (M 101 0) = nI E) (hE16 : E ≤ 16) : Ci l yX9_absent cX9_absent 5 (some .int) 3 (mw G) D (tyG G) [.ref (G.1 0), .int w, .int a] M (fun r X1 => r = (vM_absent M w) ∧ X1 = (sM_absent M w a)) := by
  refine m_i (nL := 5) (lv := [(0, .ref (G.1 0)), (1, .int w), (2, .int a)]) [.ref (G.1 0), .int w, .int a] RX9 rfl (mw_adr G) (by decide +kernel) (Nat.le_of_ble_eq_true rfl) rfl (fun K C ret => ?_)
  refine x_aload_n C (pc := 0) dX9_absent_0 0 rfl rfl ?_
  refine x_iconst C (pc := 1) (v := 1) dX9_absent_1 (by decide) ?_
  refine x_iload_n C (pc := 2) dX9_absent_2 1 rfl rfl ?_
  refine x_callVi C (pc := 3) [.int 1, .int w] (fun l D => c_X9_need l D G E M 1 w hE hE16) (me_0 G _) rfl ml_X9_150 co_X9_need im_X9_need se_X9_need in_X9 hy_X9_need (by decide) (by decide) (Nat.le_of_ble_eq_true rfl) dX9_absent_3 rfl (kx ?_)
  refine x_istore_n C (pc := 6) dX9_absent_6 [(0, .ref (G.1 0)), (1, .int w), (2, .int a), (3, .int (vM_need M 1 w))] [1, 2, 3, 0] rfl (by decide) rfl ?_
  refine x_iload_n C (pc := 7) dX9_absent_7 3 rfl rfl ?_
  refine x_if_ge C (pc := 8) (tgt := 13) dX9_absent_8 (by decide) (fun c8 => ?_) (fun c8 => ?_)
  · have hw : vp_in w 16 := isOne_in (need_kn c8).1 hE hE16
    refine x_eqX (X' := M) (need_id c8) ?_
    refine x_aload_n C (pc := 13) dX9_absent_13 0 rfl rfl ?_
    refine mG_isAbsent C fl_X9_26 dX9_absent_14 ?_
    refine x_iload_n C (pc := 17) dX9_absent_17 1 rfl rfl ?_
    refine mL_isAbsent C dX9_absent_18 (by assumption) ?_
    refine x_if_eq C (pc := 19) (tgt := 26) dX9_absent_19 (by decide) (fun c19 => ?_) (fun c19 => ?_)
    · refine x_iconst C (pc := 26) (v := 0) dX9_absent_26 (by decide) ?_
      refine x_istore C (pc := 27) dX9_absent_27 [(0, .ref (G.1 0)), (1, .int w), (2, .int a), (3, .int (vM_need M 1 w)), (4, .int 0)] [1, 2, 3, 4, 0] (by decide) rfl ?_
      refine x_aload_n C (pc := 29) dX9_absent_29 0 rfl rfl ?_
      refine mG_isAbsent C fl_X9_26 dX9_absent_30 ?_
      refine x_iload_n C (pc := 33) dX9_absent_33 1 rfl rfl ?_
      refine x_iload_n C (pc := 34) dX9_absent_34 2 rfl rfl ?_
      refine mS_isAbsent C dX9_absent_35 (by assumption) ?_
      refine x_iload C (pc := 36) dX9_absent_36 4 rfl ?_
      exact ret 0 (ux M 6 (ix w) (vp_nar .boolean a)) 38 _ dX9_absent_38 ⟨by unfold vM_absent; (repeat (first | rw [if_pos (by assumption)] | rw [if_neg (by assumption)])) <;> first | rfl , by unfold sM_absent; (repeat (first | rw [if_pos (by assumption)] | rw [if_neg (by assumption)])) <;> first | rfl | exact (need_id (by assumption)).symm⟩
    · refine x_iconst C (pc := 22) (v := 1) dX9_absent_22 (by decide) ?_
      refine x_goto C (pc := 23) (tgt := 27) dX9_absent_23 (by decide) ?_
      refine x_istore C (pc := 27) dX9_absent_27 [(0, .ref (G.1 0)), (1, .int w), (2, .int a), (3, .int (vM_need M 1 w)), (4, .int 1)] [1, 2, 3, 4, 0] (by decide) rfl ?_
      refine x_aload_n C (pc := 29) dX9_absent_29 0 rfl rfl ?_
      refine mG_isAbsent C fl_X9_26 dX9_absent_30 ?_
      refine x_iload_n C (pc := 33) dX9_absent_33 1 rfl rfl ?_
      refine x_iload_n C (pc := 34) dX9_absent_34 2 rfl rfl ?_
      refine mS_isAbsent C dX9_absent_35 (by assumption) ?_
      refine x_iload C (pc := 36) dX9_absent_36 4 rfl ?_
      exact ret 1 (ux M 6 (ix w) (vp_nar .boolean a)) 38 _ dX9_absent_38 ⟨by unfold vM_absent; (repeat (first | rw [if_pos (by assumption)] | rw [if_neg (by assumption)])) <;> first | rfl , by unfold sM_absent; (repeat (first | rw [if_pos (by assumption)] | rw [if_neg (by assumption)])) <;> first | rfl | exact (need_id (by assumption)).symm⟩
  · refine x_iload_n C (pc := 11) dX9_absent_11 3 rfl rfl ?_
    exact ret (vM_need M 1 w) (sM_need M 1 w) 12 _ dX9_absent_12 ⟨by unfold vM_absent; (repeat (first | rw [if_pos (by assumption)] | rw [if_neg (by assumption)])) <;> first | rfl , by unfold sM_absent; (repeat (first | rw [if_pos (by assumption)] | rw [if_neg (by assumption)])) <;> first | rfl | exact (need_id (by assumption)).symm⟩
set_option maxHeartbeats 4000000 in
set_option maxRecDepth 100000 in
theorem c_X9_cost (l : Launch) (D : va_G) (G : Gx) (M : St)  : Ci l yX9_cost cX9_cost 1 (some .int) 0 (mw G) D (tyG G) [.ref (G.1 0)] M (fun r X1 => r = (M 109 0) ∧ X1 = M) := by
  refine m_i (nL := 1) (lv := [(0, .ref (G.1 0))]) [.ref (G.1 0)] RX9 rfl (mw_adr G) (by decide +kernel) (Nat.le_of_ble_eq_true rfl) rfl (fun K C ret => ?_)
  refine x_aload_n C (pc := 0) dX9_cost_0 0 rfl rfl ?_
  refine mG_cost C fl_X9_194 dX9_cost_1 ?_
  exact ret (M 109 0) M 4 _ dX9_cost_4 ⟨rfl, rfl⟩
set_option maxHeartbeats 4000000 in
set_option maxRecDepth 100000 in
theorem c_X9_sat (l : Launch) (D : va_G) (G : Gx) (M : St)  : Ci l yX9_sat cX9_sat 1 (some .int) 0 (mw G) D (tyG G) [.ref (G.1 0)] M (fun r X1 => r = (M 110 0) ∧ X1 = M) := by
  refine m_i (nL := 1) (lv := [(0, .ref (G.1 0))]) [.ref (G.1 0)] RX9 rfl (mw_adr G) (by decide +kernel) (Nat.le_of_ble_eq_true rfl) rfl (fun K C ret => ?_)
  refine x_aload_n C (pc := 0) dX9_sat_0 0 rfl rfl ?_
  refine mG_satOut C fl_X9_197 dX9_sat_1 ?_
  exact ret (M 110 0) M 4 _ dX9_sat_4 ⟨rfl, rfl⟩
set_option maxHeartbeats 4000000 in
set_option maxRecDepth 100000 in
theorem c_X9_champion (l : Launch) (D : va_G) (G : Gx) (M : St)  : Ci l yX9_champion cX9_champion 1 (some .int) 0 (mw G) D (tyG G) [.ref (G.1 0)] M (fun r X1 => r = (M 118 0) ∧ X1 = M) := by
  refine m_i (nL := 1) (lv := [(0, .ref (G.1 0))]) [.ref (G.1 0)] RX9 rfl (mw_adr G) (by decide +kernel) (Nat.le_of_ble_eq_true rfl) rfl (fun K C ret => ?_)
  refine x_aload_n C (pc := 0) dX9_champion_0 0 rfl rfl ?_
  refine mG_champion C fl_X9_116 dX9_champion_1 ?_
  exact ret (M 118 0) M 4 _ dX9_champion_4 ⟨rfl, rfl⟩
theorem vinB_in {M : St} {k : Int32} {B : Nat} (h : ¬ vin k 0 ((M 107 0) - 1) = 0) (hB : (M 107 0) = nI B) (h120 : B ≤ 120) : vp_in k 120 ∧ ix k < B := by
  rw [hB] at h
  have h2 := vin_lt h (by omega)
  have h3 := in_ix h2
  refine ⟨?_, h3⟩
  rw [in_nI h2 (by omega)]
  exact vp_in_nI (by omega) (by decide)
theorem upd_same (f : Nat → Int32) (k : Nat) (v : Int32) : upd f k v k = v := by simp [upd]

set_option maxHeartbeats 4000000 in
set_option maxRecDepth 100000 in
theorem c_X9_result (l : Launch) (D : va_G) (G : Gx) (B : Nat) (M : St) (k : Int32) (u : Int32) (hBt : (M 107 0) = nI B) (hB120 : B ≤ 120) (hU : ∀ k, k < B → vp_in ((M 16) k) 16 ∧ vp_in ((M 17) k) 16) : Ci l yX9_result cX9_result 3 (some .int) 1 (mw G) D (tyG G) [.ref (G.1 0), .int k, .int u] M (fun r X1 => r = (vM_result M k) ∧ X1 = (sM_result M k u)) := by
  refine m_i (nL := 3) (lv := [(0, .ref (G.1 0)), (1, .int k), (2, .int u)]) [.ref (G.1 0), .int k, .int u] RX9 rfl (mw_adr G) (by decide +kernel) (Nat.le_of_ble_eq_true rfl) rfl (fun K C ret => ?_)
  refine x_iload_n C (pc := 0) dX9_result_0 1 rfl rfl ?_
  refine x_iconst C (pc := 1) (v := 0) dX9_result_1 (by decide) ?_
  refine x_aload_n C (pc := 2) dX9_result_2 0 rfl rfl ?_
  refine mG_bouts C fl_X9_170 dX9_result_3 ?_
  refine x_iconst C (pc := 6) (v := 1) dX9_result_6 (by decide) ?_
  refine x_isub C (pc := 7) dX9_result_7 ?_
  refine x_callSi C (pc := 8) [.int k, .int 0, .int ((M 107 0) - 1)] (fun l D => c_X9_in l D G M k 0 ((M 107 0) - 1) ) ml_X9_122 co_X9_in st_X9_in in_X9 hy_X9_in.2 (by decide) (by decide) (Nat.le_of_ble_eq_true rfl) dX9_result_8 rfl (kx ?_)
  refine x_if_ne C (pc := 11) (tgt := 16) dX9_result_11 (by decide) (fun c11 => ?_) (fun c11 => ?_)
  · obtain ⟨hk, hkB⟩ := vinB_in c11 hBt hB120
    have hUL := hU (ix k) hkB
    have hwi : vp_in (vM_wonB M k u) 16 := by
      unfold vM_wonB
      by_cases h : u = 0
      · rw [if_pos h]; exact hUL.2
      · rw [if_neg h]; exact hUL.1
    have hlo : vp_in (vM_losB M k u) 16 := by
      unfold vM_losB
      by_cases h : u = 0
      · rw [if_pos h]; exact hUL.1
      · rw [if_neg h]; exact hUL.2
    refine x_aload_n C (pc := 16) dX9_result_16 0 rfl rfl ?_
    refine mG_boutWon C fl_X9_63 dX9_result_17 ?_
    refine x_iload_n C (pc := 20) dX9_result_20 1 rfl rfl ?_
    refine mL_boutWon C dX9_result_21 (by assumption) ?_
    refine x_bipush C (pc := 22) (v := (-9)) dX9_result_22 (by decide) ?_
    refine x_icmp_eq C (pc := 24) (tgt := 30) dX9_result_24 (by decide) (fun c24 => ?_) (fun c24 => ?_)
    · refine x_aload_n C (pc := 30) dX9_result_30 0 rfl rfl ?_
      refine mG_boutWon C fl_X9_63 dX9_result_31 ?_
      refine x_iload_n C (pc := 34) dX9_result_34 1 rfl rfl ?_
      have J54 : WX K (mw G) 3 M 54 [(0, .ref (G.1 0)), (1, .int k), (2, .int u)] [.int (vM_wonB M k u), .int k, .ref (G.1 18)] := by
        refine mS_boutWon C dX9_result_54 (by assumption) ?_
        refine x_aload_n C (pc := 55) dX9_result_55 0 rfl rfl ?_
        refine mG_winsOf C fl_X9_29 dX9_result_56 ?_
        refine x_aload_n C (pc := 59) dX9_result_59 0 rfl rfl ?_
        refine mG_boutWon C fl_X9_63 dX9_result_60 ?_
        refine x_iload_n C (pc := 63) dX9_result_63 1 rfl rfl ?_
        refine mL_boutWon C dX9_result_64 (by assumption) ?_
        refine x_top (y := (vM_wonB M k u)) (ux_at _ _ _ _) ?_
        refine x_dup2 C (pc := 65) dX9_result_65 rfl rfl ?_
        refine mL_winsOf C dX9_result_66 (by assumption) ?_
        refine x_top (y := (M 7 (ix (vM_wonB M k u)))) rfl ?_
        refine x_iconst C (pc := 67) (v := 1) dX9_result_67 (by decide) ?_
        refine x_iadd C (pc := 68) dX9_result_68 ?_
        refine mS_winsOf C dX9_result_69 (by assumption) ?_
        refine x_aload_n C (pc := 70) dX9_result_70 0 rfl rfl ?_
        refine mG_lossesOf C fl_X9_32 dX9_result_71 ?_
        have J93 : WX K (mw G) 3 (ux (ux M 18 (ix k) (vM_wonB M k u)) 7 (ix (vM_wonB M k u)) ((M 7 (ix (vM_wonB M k u))) + 1)) 93 [(0, .ref (G.1 0)), (1, .int k), (2, .int u)] [.int (vM_losB M k u), .ref (G.1 8)] := by
          refine x_dup2 C (pc := 93) dX9_result_93 rfl rfl ?_
          refine mL_lossesOf C dX9_result_94 (by assumption) ?_
          refine x_top (y := (M 8 (ix (vM_losB M k u)))) rfl ?_
          refine x_iconst C (pc := 95) (v := 1) dX9_result_95 (by decide) ?_
          refine x_iadd C (pc := 96) dX9_result_96 ?_
          refine mS_lossesOf C dX9_result_97 (by assumption) ?_
          refine x_aload_n C (pc := 98) dX9_result_98 0 rfl rfl ?_
          refine x_dup C (pc := 99) dX9_result_99 rfl ?_
          refine mG_lacking C fl_X9_173 dX9_result_100 ?_
          refine x_top (y := (M 108 0)) rfl ?_
          refine x_iconst C (pc := 103) (v := 1) dX9_result_103 (by decide) ?_
          refine x_isub C (pc := 104) dX9_result_104 ?_
          refine mP_lacking C fl_X9_173 (v := (M 108 0) - 1) dX9_result_105 ?_
          refine x_iconst C (pc := 108) (v := 1) dX9_result_108 (by decide) ?_
          exact ret 1 (ux (ux (ux (ux M 18 (ix k) (vM_wonB M k u)) 7 (ix (vM_wonB M k u)) ((M 7 (ix (vM_wonB M k u))) + 1)) 8 (ix (vM_losB M k u)) ((M 8 (ix (vM_losB M k u))) + 1)) 108 0 ((M 108 0) - 1)) 109 _ dX9_result_109 ⟨by unfold vM_result; rw [if_neg c11, if_pos c24], by unfold sM_result; rw [if_neg c11, if_pos c24]; rfl⟩
        refine x_iload_n C (pc := 74) dX9_result_74 2 rfl rfl ?_
        refine x_if_eq C (pc := 75) (tgt := 87) dX9_result_75 (by decide) (fun c75 => ?_) (fun c75 => ?_)
        · refine x_aload_n C (pc := 87) dX9_result_87 0 rfl rfl ?_
          refine mG_boutUpper C fl_X9_57 dX9_result_88 ?_
          refine x_iload_n C (pc := 91) dX9_result_91 1 rfl rfl ?_
          refine mL_boutUpper C dX9_result_92 (by assumption) ?_
          refine x_top (y := (M 16 (ix k))) rfl ?_
          refine x_top (y := (vM_losB M k u)) (by unfold vM_losB; (repeat (first | rw [if_pos (by assumption)] | rw [if_neg (by assumption)])) <;> first | rfl ) ?_
          exact J93
        · refine x_aload_n C (pc := 78) dX9_result_78 0 rfl rfl ?_
          refine mG_boutLower C fl_X9_60 dX9_result_79 ?_
          refine x_iload_n C (pc := 82) dX9_result_82 1 rfl rfl ?_
          refine mL_boutLower C dX9_result_83 (by assumption) ?_
          refine x_top (y := (M 17 (ix k))) rfl ?_
          refine x_goto C (pc := 84) (tgt := 93) dX9_result_84 (by decide) ?_
          refine x_top (y := (vM_losB M k u)) (by unfold vM_losB; (repeat (first | rw [if_pos (by assumption)] | rw [if_neg (by assumption)])) <;> first | rfl ) ?_
          exact J93
      refine x_iload_n C (pc := 35) dX9_result_35 2 rfl rfl ?_
      refine x_if_eq C (pc := 36) (tgt := 48) dX9_result_36 (by decide) (fun c36 => ?_) (fun c36 => ?_)
      · refine x_aload_n C (pc := 48) dX9_result_48 0 rfl rfl ?_
        refine mG_boutLower C fl_X9_60 dX9_result_49 ?_
        refine x_iload_n C (pc := 52) dX9_result_52 1 rfl rfl ?_
        refine mL_boutLower C dX9_result_53 (by assumption) ?_
        refine x_top (y := (vM_wonB M k u)) (by unfold vM_wonB; (repeat (first | rw [if_pos (by assumption)] | rw [if_neg (by assumption)])) <;> first | rfl ) ?_
        exact J54
      · refine x_aload_n C (pc := 39) dX9_result_39 0 rfl rfl ?_
        refine mG_boutUpper C fl_X9_57 dX9_result_40 ?_
        refine x_iload_n C (pc := 43) dX9_result_43 1 rfl rfl ?_
        refine mL_boutUpper C dX9_result_44 (by assumption) ?_
        refine x_goto C (pc := 45) (tgt := 54) dX9_result_45 (by decide) ?_
        refine x_top (y := (vM_wonB M k u)) (by unfold vM_wonB; (repeat (first | rw [if_pos (by assumption)] | rw [if_neg (by assumption)])) <;> first | rfl ) ?_
        exact J54
    · refine x_bipush C (pc := 27) (v := (-4)) dX9_result_27 (by decide) ?_
      exact ret (-4) M 29 _ dX9_result_29 ⟨by unfold vM_result; (repeat (first | rw [if_pos (by assumption)] | rw [if_neg (by assumption)])) <;> first | rfl , by unfold sM_result; (repeat (first | rw [if_pos (by assumption)] | rw [if_neg (by assumption)])) <;> first | rfl | exact (need_id (by assumption)).symm⟩
  · refine x_iconst C (pc := 14) (v := (-1)) dX9_result_14 (by decide) ?_
    exact ret (-1) M 15 _ dX9_result_15 ⟨by unfold vM_result; (repeat (first | rw [if_pos (by assumption)] | rw [if_neg (by assumption)])) <;> first | rfl , by unfold sM_result; (repeat (first | rw [if_pos (by assumption)] | rw [if_neg (by assumption)])) <;> first | rfl | exact (need_id (by assumption)).symm⟩
set_option maxHeartbeats 4000000 in
set_option maxRecDepth 100000 in
theorem c_X9_boutTold (l : Launch) (D : va_G) (G : Gx) (M : St) (k : Int32) (what : Int32) (hk : vp_in k 120) : Ci l yX9_boutTold cX9_boutTold 3 (some .int) 0 (mw G) D (tyG G) [.ref (G.1 0), .int k, .int what] M (fun r X1 => r = (vM_boutTold M k what) ∧ X1 = M) := by
  refine m_i (nL := 3) (lv := [(0, .ref (G.1 0)), (1, .int k), (2, .int what)]) [.ref (G.1 0), .int k, .int what] RX9 rfl (mw_adr G) (by decide +kernel) (Nat.le_of_ble_eq_true rfl) rfl (fun K C ret => ?_)
  refine x_iload_n C (pc := 0) dX9_boutTold_0 2 rfl rfl ?_
  refine x_if_ne C (pc := 1) (tgt := 13) dX9_boutTold_1 (by decide) (fun c1 => ?_) (fun c1 => ?_)
  · refine x_iload_n C (pc := 13) dX9_boutTold_13 2 rfl rfl ?_
    refine x_iconst C (pc := 14) (v := 1) dX9_boutTold_14 (by decide) ?_
    refine x_icmp_ne C (pc := 15) (tgt := 27) dX9_boutTold_15 (by decide) (fun c15 => ?_) (fun c15 => ?_)
    · refine x_iload_n C (pc := 27) dX9_boutTold_27 2 rfl rfl ?_
      refine x_iconst C (pc := 28) (v := 2) dX9_boutTold_28 (by decide) ?_
      refine x_icmp_ne C (pc := 29) (tgt := 41) dX9_boutTold_29 (by decide) (fun c29 => ?_) (fun c29 => ?_)
      · refine x_aload_n C (pc := 41) dX9_boutTold_41 0 rfl rfl ?_
        refine mG_boutWon C fl_X9_63 dX9_boutTold_42 ?_
        refine x_iload_n C (pc := 45) dX9_boutTold_45 1 rfl rfl ?_
        refine mL_boutWon C dX9_boutTold_46 (by assumption) ?_
        exact ret (M 18 (ix k)) M 47 _ dX9_boutTold_47 ⟨by unfold vM_boutTold; (repeat (first | rw [if_pos (by assumption)] | rw [if_neg (by assumption)])) <;> first | rfl , rfl⟩
      · refine x_aload_n C (pc := 32) dX9_boutTold_32 0 rfl rfl ?_
        refine mG_boutLower C fl_X9_60 dX9_boutTold_33 ?_
        refine x_iload_n C (pc := 36) dX9_boutTold_36 1 rfl rfl ?_
        refine mL_boutLower C dX9_boutTold_37 (by assumption) ?_
        refine x_goto C (pc := 38) (tgt := 47) dX9_boutTold_38 (by decide) ?_
        exact ret (M 17 (ix k)) M 47 _ dX9_boutTold_47 ⟨by unfold vM_boutTold; (repeat (first | rw [if_pos (by assumption)] | rw [if_neg (by assumption)])) <;> first | rfl , rfl⟩
    · refine x_aload_n C (pc := 18) dX9_boutTold_18 0 rfl rfl ?_
      refine mG_boutUpper C fl_X9_57 dX9_boutTold_19 ?_
      refine x_iload_n C (pc := 22) dX9_boutTold_22 1 rfl rfl ?_
      refine mL_boutUpper C dX9_boutTold_23 (by assumption) ?_
      refine x_goto C (pc := 24) (tgt := 47) dX9_boutTold_24 (by decide) ?_
      exact ret (M 16 (ix k)) M 47 _ dX9_boutTold_47 ⟨by unfold vM_boutTold; (repeat (first | rw [if_pos (by assumption)] | rw [if_neg (by assumption)])) <;> first | rfl , rfl⟩
  · refine x_aload_n C (pc := 4) dX9_boutTold_4 0 rfl rfl ?_
    refine mG_boutDay C fl_X9_54 dX9_boutTold_5 ?_
    refine x_iload_n C (pc := 8) dX9_boutTold_8 1 rfl rfl ?_
    refine mL_boutDay C dX9_boutTold_9 (by assumption) ?_
    refine x_goto C (pc := 10) (tgt := 47) dX9_boutTold_10 (by decide) ?_
    exact ret (M 15 (ix k)) M 47 _ dX9_boutTold_47 ⟨by unfold vM_boutTold; (repeat (first | rw [if_pos (by assumption)] | rw [if_neg (by assumption)])) <;> first | rfl , rfl⟩
set_option maxHeartbeats 4000000 in
set_option maxRecDepth 100000 in
theorem c_X9_bout (l : Launch) (D : va_G) (G : Gx) (B : Nat) (M : St) (k : Int32) (what : Int32) (hBt : (M 107 0) = nI B) (hB120 : B ≤ 120) : Ci l yX9_bout cX9_bout 3 (some .int) 1 (mw G) D (tyG G) [.ref (G.1 0), .int k, .int what] M (fun r X1 => r = (vM_bout M k what) ∧ X1 = M) := by
  refine m_i (nL := 3) (lv := [(0, .ref (G.1 0)), (1, .int k), (2, .int what)]) [.ref (G.1 0), .int k, .int what] RX9 rfl (mw_adr G) (by decide +kernel) (Nat.le_of_ble_eq_true rfl) rfl (fun K C ret => ?_)
  refine x_iload_n C (pc := 0) dX9_bout_0 1 rfl rfl ?_
  refine x_iconst C (pc := 1) (v := 0) dX9_bout_1 (by decide) ?_
  refine x_aload_n C (pc := 2) dX9_bout_2 0 rfl rfl ?_
  refine mG_bouts C fl_X9_170 dX9_bout_3 ?_
  refine x_iconst C (pc := 6) (v := 1) dX9_bout_6 (by decide) ?_
  refine x_isub C (pc := 7) dX9_bout_7 ?_
  refine x_callSi C (pc := 8) [.int k, .int 0, .int ((M 107 0) - 1)] (fun l D => c_X9_in l D G M k 0 ((M 107 0) - 1) ) ml_X9_122 co_X9_in st_X9_in in_X9 hy_X9_in.2 (by decide) (by decide) (Nat.le_of_ble_eq_true rfl) dX9_bout_8 rfl (kx ?_)
  refine x_if_eq C (pc := 11) (tgt := 32) dX9_bout_11 (by decide) (fun c11 => ?_) (fun c11 => ?_)
  · refine x_iconst C (pc := 32) (v := (-1)) dX9_bout_32 (by decide) ?_
    exact ret (-1) M 33 _ dX9_bout_33 ⟨by unfold vM_bout; (repeat (first | rw [if_pos (by assumption)] | rw [if_neg (by assumption)])) <;> first | rfl , rfl⟩
  · refine x_iload_n C (pc := 14) dX9_bout_14 2 rfl rfl ?_
    refine x_iconst C (pc := 15) (v := 0) dX9_bout_15 (by decide) ?_
    refine x_iconst C (pc := 16) (v := 3) dX9_bout_16 (by decide) ?_
    refine x_callSi C (pc := 17) [.int what, .int 0, .int 3] (fun l D => c_X9_in l D G M what 0 3 ) ml_X9_122 co_X9_in st_X9_in in_X9 hy_X9_in.2 (by decide) (by decide) (Nat.le_of_ble_eq_true rfl) dX9_bout_17 rfl (kx ?_)
    refine x_if_eq C (pc := 20) (tgt := 32) dX9_bout_20 (by decide) (fun c20 => ?_) (fun c20 => ?_)
    · refine x_iconst C (pc := 32) (v := (-1)) dX9_bout_32 (by decide) ?_
      exact ret (-1) M 33 _ dX9_bout_33 ⟨by unfold vM_bout; (repeat (first | rw [if_pos (by assumption)] | rw [if_neg (by assumption)])) <;> first | rfl , rfl⟩
    · obtain ⟨hk, hkB⟩ := vinB_in c11 hBt hB120
      refine x_aload_n C (pc := 23) dX9_bout_23 0 rfl rfl ?_
      refine x_iload_n C (pc := 24) dX9_bout_24 1 rfl rfl ?_
      refine x_iload_n C (pc := 25) dX9_bout_25 2 rfl rfl ?_
      refine x_callVi C (pc := 26) [.int k, .int what] (fun l D => c_X9_boutTold l D G M k what (by assumption)) (me_0 G _) rfl ml_X9_204 co_X9_boutTold im_X9_boutTold se_X9_boutTold in_X9 hy_X9_boutTold (by decide) (by decide) (Nat.le_of_ble_eq_true rfl) dX9_bout_26 rfl (kx ?_)
      refine x_goto C (pc := 29) (tgt := 33) dX9_bout_29 (by decide) ?_
      exact ret (vM_boutTold M k what) M 33 _ dX9_bout_33 ⟨by unfold vM_bout; (repeat (first | rw [if_pos (by assumption)] | rw [if_neg (by assumption)])) <;> first | rfl , rfl⟩
theorem l12_in {x : Int32} {L : Nat} (hL : x = nI L) (h : L ≤ 12) (hne : ¬ x = 12) : vp_in x 12 := by
  rw [hL]
  exact vp_in_nI (Nat.lt_of_le_of_ne h (fun e => hne (by rw [hL, e]; rfl))) (by decide)

set_option maxHeartbeats 4000000 in
set_option maxRecDepth 100000 in
theorem c_X9_line (l : Launch) (D : va_G) (G : Gx) (L : Nat) (M : St) (lo : Int32) (hi : Int32) (up : Int32) (hL : (M 112 0) = nI L) (hL12 : L ≤ 12) : Ci l yX9_line cX9_line 4 (some .int) 1 (mw G) D (tyG G) [.ref (G.1 0), .int lo, .int hi, .int up] M (fun r X1 => r = (vM_line M lo hi up) ∧ X1 = (sM_line M lo hi up)) := by
  refine m_i (nL := 4) (lv := [(0, .ref (G.1 0)), (1, .int lo), (2, .int hi), (3, .int up)]) [.ref (G.1 0), .int lo, .int hi, .int up] RX9 rfl (mw_adr G) (by decide +kernel) (Nat.le_of_ble_eq_true rfl) rfl (fun K C ret => ?_)
  refine x_iload_n C (pc := 0) dX9_line_0 1 rfl rfl ?_
  refine x_iload_n C (pc := 1) dX9_line_1 2 rfl rfl ?_
  refine x_icmp_gt C (pc := 2) (tgt := 16) dX9_line_2 (by decide) (fun c2 => ?_) (fun c2 => ?_)
  · refine x_iconst C (pc := 16) (v := (-1)) dX9_line_16 (by decide) ?_
    exact ret (-1) M 17 _ dX9_line_17 ⟨by unfold vM_line; (repeat (first | rw [if_pos (by assumption)] | rw [if_neg (by assumption)])) <;> first | rfl , by unfold sM_line; (repeat (first | rw [if_pos (by assumption)] | rw [if_neg (by assumption)])) <;> first | rfl | exact (need_id (by assumption)).symm⟩
  · refine x_iload_n C (pc := 5) dX9_line_5 3 rfl rfl ?_
    refine x_bipush C (pc := 6) (v := (-15)) dX9_line_6 (by decide) ?_
    refine x_bipush C (pc := 8) (v := 15) dX9_line_8 (by decide) ?_
    refine x_callSi C (pc := 10) [.int up, .int (-15), .int 15] (fun l D => c_X9_in l D G M up (-15) 15 ) ml_X9_122 co_X9_in st_X9_in in_X9 hy_X9_in.2 (by decide) (by decide) (Nat.le_of_ble_eq_true rfl) dX9_line_10 rfl (kx ?_)
    refine x_if_ne C (pc := 13) (tgt := 18) dX9_line_13 (by decide) (fun c13 => ?_) (fun c13 => ?_)
    · refine x_aload_n C (pc := 18) dX9_line_18 0 rfl rfl ?_
      refine mG_lines C fl_X9_207 dX9_line_19 ?_
      refine x_bipush C (pc := 22) (v := 12) dX9_line_22 (by decide) ?_
      refine x_icmp_ne C (pc := 24) (tgt := 30) dX9_line_24 (by decide) (fun c24 => ?_) (fun c24 => ?_)
      · have hl := l12_in hL hL12 c24
        refine x_aload_n C (pc := 30) dX9_line_30 0 rfl rfl ?_
        refine mG_lineLow C fl_X9_76 dX9_line_31 ?_
        refine x_aload_n C (pc := 34) dX9_line_34 0 rfl rfl ?_
        refine mG_lines C fl_X9_207 dX9_line_35 ?_
        refine x_iload_n C (pc := 38) dX9_line_38 1 rfl rfl ?_
        refine mS_lineLow C dX9_line_39 (by assumption) ?_
        refine x_aload_n C (pc := 40) dX9_line_40 0 rfl rfl ?_
        refine mG_lineHigh C fl_X9_79 dX9_line_41 ?_
        refine x_aload_n C (pc := 44) dX9_line_44 0 rfl rfl ?_
        refine mG_lines C fl_X9_207 dX9_line_45 ?_
        refine x_top (y := (M 112 0)) rfl ?_
        refine x_iload_n C (pc := 48) dX9_line_48 2 rfl rfl ?_
        refine mS_lineHigh C dX9_line_49 (by assumption) ?_
        refine x_aload_n C (pc := 50) dX9_line_50 0 rfl rfl ?_
        refine mG_lineUp C fl_X9_82 dX9_line_51 ?_
        refine x_aload_n C (pc := 54) dX9_line_54 0 rfl rfl ?_
        refine mG_lines C fl_X9_207 dX9_line_55 ?_
        refine x_top (y := (M 112 0)) rfl ?_
        refine x_iload_n C (pc := 58) dX9_line_58 3 rfl rfl ?_
        refine mS_lineUp C dX9_line_59 (by assumption) ?_
        refine x_aload_n C (pc := 60) dX9_line_60 0 rfl rfl ?_
        refine x_dup C (pc := 61) dX9_line_61 rfl ?_
        refine mG_lines C fl_X9_207 dX9_line_62 ?_
        refine x_top (y := (M 112 0)) rfl ?_
        refine x_iconst C (pc := 65) (v := 1) dX9_line_65 (by decide) ?_
        refine x_iadd C (pc := 66) dX9_line_66 ?_
        refine mP_lines C fl_X9_207 (v := (M 112 0) + 1) dX9_line_67 ?_
        refine x_aload_n C (pc := 70) dX9_line_70 0 rfl rfl ?_
        refine mG_lines C fl_X9_207 dX9_line_71 ?_
        refine x_top (y := (M 112 0) + 1) rfl ?_
        refine x_iconst C (pc := 74) (v := 1) dX9_line_74 (by decide) ?_
        refine x_isub C (pc := 75) dX9_line_75 ?_
        exact ret (((M 112 0) + 1) - 1) (ux (ux (ux (ux M 22 (ix (M 112 0)) lo) 23 (ix (M 112 0)) hi) 24 (ix (M 112 0)) up) 112 0 ((M 112 0) + 1)) 76 _ dX9_line_76 ⟨by unfold vM_line; (repeat (first | rw [if_pos (by assumption)] | rw [if_neg (by assumption)])) <;> first | rfl , by unfold sM_line; (repeat (first | rw [if_pos (by assumption)] | rw [if_neg (by assumption)])) <;> first | rfl | exact (need_id (by assumption)).symm⟩
      · refine x_bipush C (pc := 27) (v := (-2)) dX9_line_27 (by decide) ?_
        exact ret (-2) M 29 _ dX9_line_29 ⟨by unfold vM_line; (repeat (first | rw [if_pos (by assumption)] | rw [if_neg (by assumption)])) <;> first | rfl , by unfold sM_line; (repeat (first | rw [if_pos (by assumption)] | rw [if_neg (by assumption)])) <;> first | rfl | exact (need_id (by assumption)).symm⟩
    · refine x_iconst C (pc := 16) (v := (-1)) dX9_line_16 (by decide) ?_
      exact ret (-1) M 17 _ dX9_line_17 ⟨by unfold vM_line; (repeat (first | rw [if_pos (by assumption)] | rw [if_neg (by assumption)])) <;> first | rfl , by unfold sM_line; (repeat (first | rw [if_pos (by assumption)] | rw [if_neg (by assumption)])) <;> first | rfl | exact (need_id (by assumption)).symm⟩
set_option maxHeartbeats 4000000 in
set_option maxRecDepth 100000 in
theorem c_X9_lineFor (l : Launch) (D : va_G) (G : Gx) (N : Nat) (M : St) (score : Int32) (many : Int32) (hN : N ≤ 12) (hm : many = nI N) : Ci l yX9_lineFor cX9_lineFor 4 (some .int) 1 (mw G) D (tyG G) [.ref (G.1 0), .int score, .int many] M (fun r X1 => r = (lfr (M 22) (M 23) score N 0) ∧ X1 = M) := by
  refine m_i (nL := 4) (lv := [(0, .ref (G.1 0)), (1, .int score), (2, .int many)]) [.ref (G.1 0), .int score, .int many] RX9 rfl (mw_adr G) (by decide +kernel) (Nat.le_of_ble_eq_true rfl) rfl (fun K C ret => ?_)
  refine x_iconst C (pc := 0) (v := 0) dX9_lineFor_0 (by decide) ?_
  refine x_istore_n C (pc := 1) dX9_lineFor_1 [(0, .ref (G.1 0)), (1, .int score), (2, .int many), (3, .int 0)] [1, 2, 3, 0] rfl (by decide) rfl ?_
  have L2 : ∀ (nu : Nat) (i : Int32) (j : Nat), (j ≤ N) → (i = nI j) → (lfr (M 22) (M 23) score N 0 = lfr (M 22) (M 23) score (N - j) j) → (N - j) < nu → WX K (mw G) 4 M 2 [(0, .ref (G.1 0)), (1, .int score), (2, .int many), (3, .int i)] [] := by
    intro nu
    induction nu with
    | zero => intro i j hj hi he hmu2; exact absurd hmu2 (Nat.not_lt_zero _)
    | succ n2 ih2 =>
      intro i j hj hi he hmu2
      refine x_iload_n C (pc := 2) dX9_lineFor_2 3 rfl rfl ?_
      refine x_iload_n C (pc := 3) dX9_lineFor_3 2 rfl rfl ?_
      refine x_icmp_ge C (pc := 4) (tgt := 34) dX9_lineFor_4 (by decide) (fun c4 => ?_) (fun c4 => ?_)
      · have hge : N ≤ j := geN hi hm c4 (by omega)
        refine x_bipush C (pc := 34) (v := (-9)) dX9_lineFor_34 (by decide) ?_
        exact ret (-9) M 36 _ dX9_lineFor_36 ⟨by rw [he, show N - j = 0 by omega, lfr], rfl⟩
      · have hlt : j < N := ltN hi hm c4 (by omega)
        have hin : vp_in i 12 := by rw [hi]; exact vp_in_nI (by omega) (by decide)
        have hix : ix i = j := by rw [hi]; exact ix_nI (by omega)
        have hs : N - j = (N - (j + 1)) + 1 := by omega
        refine x_iload_n C (pc := 7) dX9_lineFor_7 1 rfl rfl ?_
        refine x_aload_n C (pc := 8) dX9_lineFor_8 0 rfl rfl ?_
        refine mG_lineLow C fl_X9_76 dX9_lineFor_9 ?_
        refine x_iload_n C (pc := 12) dX9_lineFor_12 3 rfl rfl ?_
        refine mL_lineLow C dX9_lineFor_13 (by assumption) ?_
        refine x_aload_n C (pc := 14) dX9_lineFor_14 0 rfl rfl ?_
        refine mG_lineHigh C fl_X9_79 dX9_lineFor_15 ?_
        refine x_iload_n C (pc := 18) dX9_lineFor_18 3 rfl rfl ?_
        refine mL_lineHigh C dX9_lineFor_19 (by assumption) ?_
        refine x_callSi C (pc := 20) [.int score, .int (M 22 (ix i)), .int (M 23 (ix i))] (fun l D => c_X9_in l D G M score (M 22 (ix i)) (M 23 (ix i)) ) ml_X9_122 co_X9_in st_X9_in in_X9 hy_X9_in.2 (by decide) (by decide) (Nat.le_of_ble_eq_true rfl) dX9_lineFor_20 rfl (kx ?_)
        refine x_if_eq C (pc := 23) (tgt := 28) dX9_lineFor_23 (by decide) (fun c23 => ?_) (fun c23 => ?_)
        · refine x_iinc C (pc := 28) (v := i + 1) dX9_lineFor_28 3 [(0, .ref (G.1 0)), (1, .int score), (2, .int many), (3, .int (i + 1))] [1, 2, 3, 0] rfl (by rfl) (by decide) rfl ?_
          refine x_goto C (pc := 31) (tgt := 2) dX9_lineFor_31 (by decide) ?_
          exact ih2 (i + 1) (j + 1) (by omega) (by rw [hi]; exact nI_1 j) (by rw [he, hs]; exact lfr_skip (by rw [hix] at c23; exact c23)) (by omega)
        · refine x_iload_n C (pc := 26) dX9_lineFor_26 3 rfl rfl ?_
          exact ret i M 27 _ dX9_lineFor_27 ⟨by rw [he, hs, hi]; exact (lfr_hit (by rw [hix] at c23; exact c23)).symm, rfl⟩
  exact L2 _ 0 0 (Nat.zero_le _) rfl rfl (Nat.lt_succ_self _)
set_option maxHeartbeats 4000000 in
set_option maxRecDepth 100000 in
theorem c_X9_goesUp (l : Launch) (D : va_G) (G : Gx) (M : St) (w : Int32) (ln : Int32) (hw : vp_in w 16) (hl : ln ≠ (-9) → vp_in ln 12) : Ci l yX9_goesUp cX9_goesUp 4 (some .int) 0 (mw G) D (tyG G) [.ref (G.1 0), .int w, .int ln] M (fun r X1 => r = (vM_goesUp M w ln) ∧ X1 = M) := by
  refine m_i (nL := 4) (lv := [(0, .ref (G.1 0)), (1, .int w), (2, .int ln)]) [.ref (G.1 0), .int w, .int ln] RX9 rfl (mw_adr G) (by decide +kernel) (Nat.le_of_ble_eq_true rfl) rfl (fun K C ret => ?_)
  have J16 : WX K (mw G) 4 M 16 [(0, .ref (G.1 0)), (1, .int w), (2, .int ln)] [.int (vM_up M ln)] := by
    refine x_istore_n C (pc := 16) dX9_goesUp_16 [(0, .ref (G.1 0)), (1, .int w), (2, .int ln), (3, .int (vM_up M ln))] [1, 2, 3, 0] rfl (by decide) rfl ?_
    refine x_aload_n C (pc := 17) dX9_goesUp_17 0 rfl rfl ?_
    refine mG_kindOf C fl_X9_13 dX9_goesUp_18 ?_
    refine x_iload_n C (pc := 21) dX9_goesUp_21 1 rfl rfl ?_
    refine mL_kindOf C dX9_goesUp_22 (by assumption) ?_
    refine x_iconst C (pc := 23) (v := 1) dX9_goesUp_23 (by decide) ?_
    refine x_icmp_ne C (pc := 24) (tgt := 36) dX9_goesUp_24 (by decide) (fun c24 => ?_) (fun c24 => ?_)
    · refine x_aload_n C (pc := 36) dX9_goesUp_36 0 rfl rfl ?_
      refine mG_kindOf C fl_X9_13 dX9_goesUp_37 ?_
      refine x_iload_n C (pc := 40) dX9_goesUp_40 1 rfl rfl ?_
      refine mL_kindOf C dX9_goesUp_41 (by assumption) ?_
      refine x_iconst C (pc := 42) (v := 2) dX9_goesUp_42 (by decide) ?_
      refine x_icmp_ne C (pc := 43) (tgt := 56) dX9_goesUp_43 (by decide) (fun c43 => ?_) (fun c43 => ?_)
      · refine x_iload_n C (pc := 56) dX9_goesUp_56 3 rfl rfl ?_
        exact ret (vM_up M ln) M 57 _ dX9_goesUp_57 ⟨by unfold vM_goesUp; (repeat (first | rw [if_pos (by assumption)] | rw [if_neg (by assumption)])) <;> first | rfl , rfl⟩
      · refine x_iload_n C (pc := 46) dX9_goesUp_46 3 rfl rfl ?_
        refine x_if_le C (pc := 47) (tgt := 56) dX9_goesUp_47 (by decide) (fun c47 => ?_) (fun c47 => ?_)
        · refine x_iload_n C (pc := 56) dX9_goesUp_56 3 rfl rfl ?_
          exact ret (vM_up M ln) M 57 _ dX9_goesUp_57 ⟨by unfold vM_goesUp; (repeat (first | rw [if_pos (by assumption)] | rw [if_neg (by assumption)])) <;> first | rfl , rfl⟩
        · refine x_iconst C (pc := 50) (v := 2) dX9_goesUp_50 (by decide) ?_
          refine x_iload_n C (pc := 51) dX9_goesUp_51 3 rfl rfl ?_
          refine x_imul C (pc := 52) dX9_goesUp_52 ?_
          refine x_goto C (pc := 53) (tgt := 57) dX9_goesUp_53 (by decide) ?_
          exact ret (2 * (vM_up M ln)) M 57 _ dX9_goesUp_57 ⟨by unfold vM_goesUp; (repeat (first | rw [if_pos (by assumption)] | rw [if_neg (by assumption)])) <;> first | rfl , rfl⟩
    · refine x_iload_n C (pc := 27) dX9_goesUp_27 3 rfl rfl ?_
      refine x_iconst C (pc := 28) (v := (-1)) dX9_goesUp_28 (by decide) ?_
      refine x_icmp_ge C (pc := 29) (tgt := 36) dX9_goesUp_29 (by decide) (fun c29 => ?_) (fun c29 => ?_)
      · refine x_aload_n C (pc := 36) dX9_goesUp_36 0 rfl rfl ?_
        refine mG_kindOf C fl_X9_13 dX9_goesUp_37 ?_
        refine x_iload_n C (pc := 40) dX9_goesUp_40 1 rfl rfl ?_
        refine mL_kindOf C dX9_goesUp_41 (by assumption) ?_
        refine x_iconst C (pc := 42) (v := 2) dX9_goesUp_42 (by decide) ?_
        refine x_icmp_ne C (pc := 43) (tgt := 56) dX9_goesUp_43 (by decide) (fun c43 => ?_) (fun c43 => ?_)
        · refine x_iload_n C (pc := 56) dX9_goesUp_56 3 rfl rfl ?_
          exact ret (vM_up M ln) M 57 _ dX9_goesUp_57 ⟨by unfold vM_goesUp; (repeat (first | rw [if_pos (by assumption)] | rw [if_neg (by assumption)])) <;> first | rfl , rfl⟩
        · refine x_iload_n C (pc := 46) dX9_goesUp_46 3 rfl rfl ?_
          refine x_if_le C (pc := 47) (tgt := 56) dX9_goesUp_47 (by decide) (fun c47 => ?_) (fun c47 => ?_)
          · refine x_iload_n C (pc := 56) dX9_goesUp_56 3 rfl rfl ?_
            exact ret (vM_up M ln) M 57 _ dX9_goesUp_57 ⟨by unfold vM_goesUp; (repeat (first | rw [if_pos (by assumption)] | rw [if_neg (by assumption)])) <;> first | rfl , rfl⟩
          · refine x_iconst C (pc := 50) (v := 2) dX9_goesUp_50 (by decide) ?_
            refine x_iload_n C (pc := 51) dX9_goesUp_51 3 rfl rfl ?_
            refine x_imul C (pc := 52) dX9_goesUp_52 ?_
            refine x_goto C (pc := 53) (tgt := 57) dX9_goesUp_53 (by decide) ?_
            exact ret (2 * (vM_up M ln)) M 57 _ dX9_goesUp_57 ⟨by unfold vM_goesUp; (repeat (first | rw [if_pos (by assumption)] | rw [if_neg (by assumption)])) <;> first | rfl , rfl⟩
      · refine x_iconst C (pc := 32) (v := (-1)) dX9_goesUp_32 (by decide) ?_
        refine x_goto C (pc := 33) (tgt := 57) dX9_goesUp_33 (by decide) ?_
        exact ret (-1) M 57 _ dX9_goesUp_57 ⟨by unfold vM_goesUp; (repeat (first | rw [if_pos (by assumption)] | rw [if_neg (by assumption)])) <;> first | rfl , rfl⟩
  refine x_iload_n C (pc := 0) dX9_goesUp_0 2 rfl rfl ?_
  refine x_bipush C (pc := 1) (v := (-9)) dX9_goesUp_1 (by decide) ?_
  refine x_icmp_ne C (pc := 3) (tgt := 10) dX9_goesUp_3 (by decide) (fun c3 => ?_) (fun c3 => ?_)
  · have hL := hl c3
    refine x_aload_n C (pc := 10) dX9_goesUp_10 0 rfl rfl ?_
    refine mG_lineUp C fl_X9_82 dX9_goesUp_11 ?_
    refine x_iload_n C (pc := 14) dX9_goesUp_14 2 rfl rfl ?_
    refine mL_lineUp C dX9_goesUp_15 (by assumption) ?_
    refine x_top (y := (vM_up M ln)) (by unfold vM_up; (repeat (first | rw [if_pos (by assumption)] | rw [if_neg (by assumption)])) <;> first | rfl ) ?_
    exact J16
  · refine x_iconst C (pc := 6) (v := 0) dX9_goesUp_6 (by decide) ?_
    refine x_goto C (pc := 7) (tgt := 16) dX9_goesUp_7 (by decide) ?_
    refine x_top (y := (vM_up M ln)) (by unfold vM_up; (repeat (first | rw [if_pos (by assumption)] | rw [if_neg (by assumption)])) <;> first | rfl ) ?_
    exact J16
set_option maxHeartbeats 4000000 in
set_option maxRecDepth 100000 in
theorem c_X9_why (l : Launch) (D : va_G) (G : Gx) (E : Nat) (M : St) (w : Int32) (hE : (M 101 0) = nI E) (hE16 : E ≤ 16) : Ci l yX9_why cX9_why 3 (some .int) 3 (mw G) D (tyG G) [.ref (G.1 0), .int w] M (fun r X1 => r = (vM_why M w) ∧ X1 = (sM_need M 1 w)) := by
  refine m_i (nL := 3) (lv := [(0, .ref (G.1 0)), (1, .int w)]) [.ref (G.1 0), .int w] RX9 rfl (mw_adr G) (by decide +kernel) (Nat.le_of_ble_eq_true rfl) rfl (fun K C ret => ?_)
  refine x_aload_n C (pc := 0) dX9_why_0 0 rfl rfl ?_
  refine x_iconst C (pc := 1) (v := 1) dX9_why_1 (by decide) ?_
  refine x_iload_n C (pc := 2) dX9_why_2 1 rfl rfl ?_
  refine x_callVi C (pc := 3) [.int 1, .int w] (fun l D => c_X9_need l D G E M 1 w hE hE16) (me_0 G _) rfl ml_X9_150 co_X9_need im_X9_need se_X9_need in_X9 hy_X9_need (by decide) (by decide) (Nat.le_of_ble_eq_true rfl) dX9_why_3 rfl (kx ?_)
  refine x_istore_n C (pc := 6) dX9_why_6 [(0, .ref (G.1 0)), (1, .int w), (2, .int (vM_need M 1 w))] [1, 2, 0] rfl (by decide) rfl ?_
  refine x_iload_n C (pc := 7) dX9_why_7 2 rfl rfl ?_
  refine x_if_ge C (pc := 8) (tgt := 15) dX9_why_8 (by decide) (fun c8 => ?_) (fun c8 => ?_)
  · have hw : vp_in w 16 := isOne_in (need_kn c8).1 hE hE16
    refine x_eqX (X' := M) (need_id c8) ?_
    refine x_aload_n C (pc := 15) dX9_why_15 0 rfl rfl ?_
    refine mG_whyOf C fl_X9_85 dX9_why_16 ?_
    refine x_iload_n C (pc := 19) dX9_why_19 1 rfl rfl ?_
    refine mL_whyOf C dX9_why_20 (by assumption) ?_
    exact ret (M 25 (ix w)) M 21 _ dX9_why_21 ⟨by unfold vM_why; (repeat (first | rw [if_pos (by assumption)] | rw [if_neg (by assumption)])) <;> first | rfl , by first | rfl | exact (need_id (by assumption)).symm⟩
  · refine x_iload_n C (pc := 11) dX9_why_11 2 rfl rfl ?_
    refine x_goto C (pc := 12) (tgt := 21) dX9_why_12 (by decide) ?_
    exact ret (vM_need M 1 w) (sM_need M 1 w) 21 _ dX9_why_21 ⟨by unfold vM_why; (repeat (first | rw [if_pos (by assumption)] | rw [if_neg (by assumption)])) <;> first | rfl , by first | rfl | exact (need_id (by assumption)).symm⟩
set_option maxHeartbeats 4000000 in
set_option maxRecDepth 100000 in
theorem c_X9_rungBeside (l : Launch) (D : va_G) (G : Gx) (E : Nat) (M : St) (w : Int32) (hE : (M 101 0) = nI E) (hE16 : E ≤ 16) : Ci l yX9_rungBeside cX9_rungBeside 3 (some .int) 3 (mw G) D (tyG G) [.ref (G.1 0), .int w] M (fun r X1 => r = (vM_rungBeside M w) ∧ X1 = (sM_need M 1 w)) := by
  refine m_i (nL := 3) (lv := [(0, .ref (G.1 0)), (1, .int w)]) [.ref (G.1 0), .int w] RX9 rfl (mw_adr G) (by decide +kernel) (Nat.le_of_ble_eq_true rfl) rfl (fun K C ret => ?_)
  refine x_aload_n C (pc := 0) dX9_rungBeside_0 0 rfl rfl ?_
  refine x_iconst C (pc := 1) (v := 1) dX9_rungBeside_1 (by decide) ?_
  refine x_iload_n C (pc := 2) dX9_rungBeside_2 1 rfl rfl ?_
  refine x_callVi C (pc := 3) [.int 1, .int w] (fun l D => c_X9_need l D G E M 1 w hE hE16) (me_0 G _) rfl ml_X9_150 co_X9_need im_X9_need se_X9_need in_X9 hy_X9_need (by decide) (by decide) (Nat.le_of_ble_eq_true rfl) dX9_rungBeside_3 rfl (kx ?_)
  refine x_istore_n C (pc := 6) dX9_rungBeside_6 [(0, .ref (G.1 0)), (1, .int w), (2, .int (vM_need M 1 w))] [1, 2, 0] rfl (by decide) rfl ?_
  refine x_iload_n C (pc := 7) dX9_rungBeside_7 2 rfl rfl ?_
  refine x_if_ge C (pc := 8) (tgt := 15) dX9_rungBeside_8 (by decide) (fun c8 => ?_) (fun c8 => ?_)
  · have hw : vp_in w 16 := isOne_in (need_kn c8).1 hE hE16
    refine x_eqX (X' := M) (need_id c8) ?_
    refine x_aload_n C (pc := 15) dX9_rungBeside_15 0 rfl rfl ?_
    refine mG_besideRung C fl_X9_94 dX9_rungBeside_16 ?_
    refine x_iload_n C (pc := 19) dX9_rungBeside_19 1 rfl rfl ?_
    refine mL_besideRung C dX9_rungBeside_20 (by assumption) ?_
    exact ret (M 28 (ix w)) M 21 _ dX9_rungBeside_21 ⟨by unfold vM_rungBeside; (repeat (first | rw [if_pos (by assumption)] | rw [if_neg (by assumption)])) <;> first | rfl , by first | rfl | exact (need_id (by assumption)).symm⟩
  · refine x_iload_n C (pc := 11) dX9_rungBeside_11 2 rfl rfl ?_
    refine x_goto C (pc := 12) (tgt := 21) dX9_rungBeside_12 (by decide) ?_
    exact ret (vM_need M 1 w) (sM_need M 1 w) 21 _ dX9_rungBeside_21 ⟨by unfold vM_rungBeside; (repeat (first | rw [if_pos (by assumption)] | rw [if_neg (by assumption)])) <;> first | rfl , by first | rfl | exact (need_id (by assumption)).symm⟩
set_option maxHeartbeats 4000000 in
set_option maxRecDepth 100000 in
theorem c_X9_passed (l : Launch) (D : va_G) (G : Gx) (E : Nat) (M : St) (a : Int32) (b : Int32) (hE : (M 101 0) = nI E) (hE16 : E ≤ 16) : Ci l yX9_passed cX9_passed 4 (some .int) 2 (mw G) D (tyG G) [.ref (G.1 0), .int a, .int b] M (fun r X1 => r = (vM_passed M a b) ∧ X1 = (sM_passed M a b)) := by
  refine m_i (nL := 4) (lv := [(0, .ref (G.1 0)), (1, .int a), (2, .int b)]) [.ref (G.1 0), .int a, .int b] RX9 rfl (mw_adr G) (by decide +kernel) (Nat.le_of_ble_eq_true rfl) rfl (fun K C ret => ?_)
  refine x_aload_n C (pc := 0) dX9_passed_0 0 rfl rfl ?_
  refine x_iload_n C (pc := 1) dX9_passed_1 1 rfl rfl ?_
  refine x_callVi C (pc := 2) [.int a] (fun l D => c_X9_isOne l D G M a ) (me_0 G _) rfl ml_X9_139 co_X9_isOne im_X9_isOne se_X9_isOne in_X9 hy_X9_isOne (by decide) (by decide) (Nat.le_of_ble_eq_true rfl) dX9_passed_2 rfl (kx ?_)
  refine x_if_eq C (pc := 5) (tgt := 16) dX9_passed_5 (by decide) (fun c5 => ?_) (fun c5 => ?_)
  · refine x_iconst C (pc := 16) (v := (-1)) dX9_passed_16 (by decide) ?_
    exact ret (-1) M 17 _ dX9_passed_17 ⟨by unfold vM_passed; (repeat (first | rw [if_pos (by assumption)] | rw [if_neg (by assumption)])) <;> first | rfl , by unfold sM_passed; (repeat (first | rw [if_pos (by assumption)] | rw [if_neg (by assumption)])) <;> first | rfl ⟩
  · refine x_aload_n C (pc := 8) dX9_passed_8 0 rfl rfl ?_
    refine x_iload_n C (pc := 9) dX9_passed_9 2 rfl rfl ?_
    refine x_callVi C (pc := 10) [.int b] (fun l D => c_X9_isOne l D G M b ) (me_0 G _) rfl ml_X9_139 co_X9_isOne im_X9_isOne se_X9_isOne in_X9 hy_X9_isOne (by decide) (by decide) (Nat.le_of_ble_eq_true rfl) dX9_passed_10 rfl (kx ?_)
    refine x_if_ne C (pc := 13) (tgt := 18) dX9_passed_13 (by decide) (fun c13 => ?_) (fun c13 => ?_)
    · have ha : vp_in a 16 := isOne_in c5 hE hE16
      have hb : vp_in b 16 := isOne_in c13 hE hE16
      refine x_aload_n C (pc := 18) dX9_passed_18 0 rfl rfl ?_
      refine mG_hasLeft C fl_X9_22 dX9_passed_19 ?_
      refine x_iload_n C (pc := 22) dX9_passed_22 1 rfl rfl ?_
      refine mL_hasLeft C dX9_passed_23 (by assumption) ?_
      refine x_if_ne C (pc := 24) (tgt := 36) dX9_passed_24 (by decide) (fun c24 => ?_) (fun c24 => ?_)
      · refine x_aload_n C (pc := 36) dX9_passed_36 0 rfl rfl ?_
        refine x_iconst C (pc := 37) (v := 1) dX9_passed_37 (by decide) ?_
        refine x_callVi C (pc := 38) [.int 1] (fun l D => c_X9_meets l D G M 1 in1_6) (me_0 G _) rfl ml_X9_143 co_X9_meets im_X9_meets se_X9_meets in_X9 hy_X9_meets (by decide) (by decide) (Nat.le_of_ble_eq_true rfl) dX9_passed_38 rfl (kx ?_)
        refine x_eqX (X' := (ux (ux M 100 0 1) 1 (ix 1) ((M 1 (ix 1)) + 1))) rfl ?_
        exact ret (-3) (ux (ux M 100 0 1) 1 (ix 1) ((M 1 (ix 1)) + 1)) 41 _ dX9_passed_41 ⟨by unfold vM_passed; (repeat (first | rw [if_pos (by assumption)] | rw [if_neg (by assumption)])) <;> first | rfl , by unfold sM_passed; (repeat (first | rw [if_pos (by assumption)] | rw [if_neg (by assumption)])) <;> first | rfl ⟩
      · refine x_aload_n C (pc := 27) dX9_passed_27 0 rfl rfl ?_
        refine mG_hasLeft C fl_X9_22 dX9_passed_28 ?_
        refine x_iload_n C (pc := 31) dX9_passed_31 2 rfl rfl ?_
        refine mL_hasLeft C dX9_passed_32 (by assumption) ?_
        refine x_if_eq C (pc := 33) (tgt := 42) dX9_passed_33 (by decide) (fun c33 => ?_) (fun c33 => ?_)
        · refine x_aload_n C (pc := 42) dX9_passed_42 0 rfl rfl ?_
          refine mG_oldRung C fl_X9_88 dX9_passed_43 ?_
          refine x_iload_n C (pc := 46) dX9_passed_46 1 rfl rfl ?_
          refine mL_oldRung C dX9_passed_47 (by assumption) ?_
          refine x_bipush C (pc := 48) (v := (-9)) dX9_passed_48 (by decide) ?_
          refine x_icmp_eq C (pc := 50) (tgt := 68) dX9_passed_50 (by decide) (fun c50 => ?_) (fun c50 => ?_)
          · refine x_iconst C (pc := 68) (v := 0) dX9_passed_68 (by decide) ?_
            refine x_istore_n C (pc := 69) dX9_passed_69 [(0, .ref (G.1 0)), (1, .int a), (2, .int b), (3, .int 0)] [1, 2, 3, 0] rfl (by decide) rfl ?_
            refine x_iload_n C (pc := 70) dX9_passed_70 3 rfl rfl ?_
            refine x_if_eq C (pc := 71) (tgt := 108) dX9_passed_71 (by decide) (fun _ => ?_) (fun h => absurd h (by decide))
            refine x_iconst C (pc := 108) (v := 0) dX9_passed_108 (by decide) ?_
            exact ret 0 M 109 _ dX9_passed_109 ⟨by unfold vM_passed; rw [if_neg c5, if_neg c13, if_pos c24, if_pos c33]; unfold vM_ov; (repeat (first | rw [if_pos (by assumption)] | rw [if_neg (by assumption)])) <;> rfl, by unfold sM_passed; (repeat (first | rw [if_pos (by assumption)] | rw [if_neg (by assumption)])) <;> first | rfl ⟩
          · refine x_aload_n C (pc := 53) dX9_passed_53 0 rfl rfl ?_
            refine mG_oldRung C fl_X9_88 dX9_passed_54 ?_
            refine x_iload_n C (pc := 57) dX9_passed_57 2 rfl rfl ?_
            refine mL_oldRung C dX9_passed_58 (by assumption) ?_
            refine x_bipush C (pc := 59) (v := (-9)) dX9_passed_59 (by decide) ?_
            refine x_icmp_eq C (pc := 61) (tgt := 68) dX9_passed_61 (by decide) (fun c61 => ?_) (fun c61 => ?_)
            · refine x_iconst C (pc := 68) (v := 0) dX9_passed_68 (by decide) ?_
              refine x_istore_n C (pc := 69) dX9_passed_69 [(0, .ref (G.1 0)), (1, .int a), (2, .int b), (3, .int 0)] [1, 2, 3, 0] rfl (by decide) rfl ?_
              refine x_iload_n C (pc := 70) dX9_passed_70 3 rfl rfl ?_
              refine x_if_eq C (pc := 71) (tgt := 108) dX9_passed_71 (by decide) (fun _ => ?_) (fun h => absurd h (by decide))
              refine x_iconst C (pc := 108) (v := 0) dX9_passed_108 (by decide) ?_
              exact ret 0 M 109 _ dX9_passed_109 ⟨by unfold vM_passed; rw [if_neg c5, if_neg c13, if_pos c24, if_pos c33]; unfold vM_ov; (repeat (first | rw [if_pos (by assumption)] | rw [if_neg (by assumption)])) <;> rfl, by unfold sM_passed; (repeat (first | rw [if_pos (by assumption)] | rw [if_neg (by assumption)])) <;> first | rfl ⟩
            · refine x_iconst C (pc := 64) (v := 1) dX9_passed_64 (by decide) ?_
              refine x_goto C (pc := 65) (tgt := 69) dX9_passed_65 (by decide) ?_
              refine x_istore_n C (pc := 69) dX9_passed_69 [(0, .ref (G.1 0)), (1, .int a), (2, .int b), (3, .int 1)] [1, 2, 3, 0] rfl (by decide) rfl ?_
              refine x_iload_n C (pc := 70) dX9_passed_70 3 rfl rfl ?_
              refine x_if_eq C (pc := 71) (tgt := 108) dX9_passed_71 (by decide) (fun h => absurd h (by decide)) (fun _ => ?_)
              refine x_aload_n C (pc := 74) dX9_passed_74 0 rfl rfl ?_
              refine mG_oldRung C fl_X9_88 dX9_passed_75 ?_
              refine x_iload_n C (pc := 78) dX9_passed_78 1 rfl rfl ?_
              refine mL_oldRung C dX9_passed_79 (by assumption) ?_
              refine x_aload_n C (pc := 80) dX9_passed_80 0 rfl rfl ?_
              refine mG_oldRung C fl_X9_88 dX9_passed_81 ?_
              refine x_iload_n C (pc := 84) dX9_passed_84 2 rfl rfl ?_
              refine mL_oldRung C dX9_passed_85 (by assumption) ?_
              refine x_icmp_le C (pc := 86) (tgt := 108) dX9_passed_86 (by decide) (fun c86 => ?_) (fun c86 => ?_)
              · refine x_iconst C (pc := 108) (v := 0) dX9_passed_108 (by decide) ?_
                exact ret 0 M 109 _ dX9_passed_109 ⟨by unfold vM_passed; rw [if_neg c5, if_neg c13, if_pos c24, if_pos c33]; unfold vM_ov; (repeat (first | rw [if_pos (by assumption)] | rw [if_neg (by assumption)])) <;> rfl, by unfold sM_passed; (repeat (first | rw [if_pos (by assumption)] | rw [if_neg (by assumption)])) <;> first | rfl ⟩
              · refine x_aload_n C (pc := 89) dX9_passed_89 0 rfl rfl ?_
                refine mG_writtenRung C fl_X9_91 dX9_passed_90 ?_
                refine x_iload_n C (pc := 93) dX9_passed_93 1 rfl rfl ?_
                refine mL_writtenRung C dX9_passed_94 (by assumption) ?_
                refine x_aload_n C (pc := 95) dX9_passed_95 0 rfl rfl ?_
                refine mG_writtenRung C fl_X9_91 dX9_passed_96 ?_
                refine x_iload_n C (pc := 99) dX9_passed_99 2 rfl rfl ?_
                refine mL_writtenRung C dX9_passed_100 (by assumption) ?_
                refine x_icmp_ge C (pc := 101) (tgt := 108) dX9_passed_101 (by decide) (fun c101 => ?_) (fun c101 => ?_)
                · refine x_iconst C (pc := 108) (v := 0) dX9_passed_108 (by decide) ?_
                  exact ret 0 M 109 _ dX9_passed_109 ⟨by unfold vM_passed; rw [if_neg c5, if_neg c13, if_pos c24, if_pos c33]; unfold vM_ov; (repeat (first | rw [if_pos (by assumption)] | rw [if_neg (by assumption)])) <;> rfl, by unfold sM_passed; (repeat (first | rw [if_pos (by assumption)] | rw [if_neg (by assumption)])) <;> first | rfl ⟩
                · refine x_iconst C (pc := 104) (v := 1) dX9_passed_104 (by decide) ?_
                  refine x_goto C (pc := 105) (tgt := 109) dX9_passed_105 (by decide) ?_
                  exact ret 1 M 109 _ dX9_passed_109 ⟨by unfold vM_passed; rw [if_neg c5, if_neg c13, if_pos c24, if_pos c33]; unfold vM_ov; (repeat (first | rw [if_pos (by assumption)] | rw [if_neg (by assumption)])) <;> rfl, by unfold sM_passed; (repeat (first | rw [if_pos (by assumption)] | rw [if_neg (by assumption)])) <;> first | rfl ⟩
        · refine x_aload_n C (pc := 36) dX9_passed_36 0 rfl rfl ?_
          refine x_iconst C (pc := 37) (v := 1) dX9_passed_37 (by decide) ?_
          refine x_callVi C (pc := 38) [.int 1] (fun l D => c_X9_meets l D G M 1 in1_6) (me_0 G _) rfl ml_X9_143 co_X9_meets im_X9_meets se_X9_meets in_X9 hy_X9_meets (by decide) (by decide) (Nat.le_of_ble_eq_true rfl) dX9_passed_38 rfl (kx ?_)
          refine x_eqX (X' := (ux (ux M 100 0 1) 1 (ix 1) ((M 1 (ix 1)) + 1))) rfl ?_
          exact ret (-3) (ux (ux M 100 0 1) 1 (ix 1) ((M 1 (ix 1)) + 1)) 41 _ dX9_passed_41 ⟨by unfold vM_passed; (repeat (first | rw [if_pos (by assumption)] | rw [if_neg (by assumption)])) <;> first | rfl , by unfold sM_passed; (repeat (first | rw [if_pos (by assumption)] | rw [if_neg (by assumption)])) <;> first | rfl ⟩
    · refine x_iconst C (pc := 16) (v := (-1)) dX9_passed_16 (by decide) ?_
      exact ret (-1) M 17 _ dX9_passed_17 ⟨by unfold vM_passed; (repeat (first | rw [if_pos (by assumption)] | rw [if_neg (by assumption)])) <;> first | rfl , by unfold sM_passed; (repeat (first | rw [if_pos (by assumption)] | rw [if_neg (by assumption)])) <;> first | rfl ⟩
set_option maxHeartbeats 4000000 in
set_option maxRecDepth 100000 in
theorem c_X9_left (l : Launch) (D : va_G) (G : Gx) (M : St)  (h0 : (M 117 0) = 1 → vp_in ((M 33) 0) 16) : Ci l yX9_left cX9_left 1 (some .int) 0 (mw G) D (tyG G) [.ref (G.1 0)] M (fun r X1 => r = (vM_left M) ∧ X1 = (sM_left M)) := by
  refine m_i (nL := 1) (lv := [(0, .ref (G.1 0))]) [.ref (G.1 0)] RX9 rfl (mw_adr G) (by decide +kernel) (Nat.le_of_ble_eq_true rfl) rfl (fun K C ret => ?_)
  refine x_aload_n C (pc := 0) dX9_left_0 0 rfl rfl ?_
  refine mG_playMany C fl_X9_216 dX9_left_1 ?_
  refine x_iconst C (pc := 4) (v := 1) dX9_left_4 (by decide) ?_
  refine x_icmp_ne C (pc := 5) (tgt := 38) dX9_left_5 (by decide) (fun c5 => ?_) (fun c5 => ?_)
  · refine x_aload_n C (pc := 38) dX9_left_38 0 rfl rfl ?_
    refine mG_playMany C fl_X9_216 dX9_left_39 ?_
    exact ret (M 117 0) M 42 _ dX9_left_42 ⟨by unfold vM_left; (repeat (first | rw [if_pos (by assumption)] | rw [if_neg (by assumption)])) <;> first | rfl , by unfold sM_left; (repeat (first | rw [if_pos (by assumption)] | rw [if_neg (by assumption)])) <;> first | rfl | exact (need_id (by assumption)).symm⟩
  · have hr0 : vp_in ((M 33) 0) 16 := h0 (by assumption)
    refine x_aload_n C (pc := 8) dX9_left_8 0 rfl rfl ?_
    refine x_aload_n C (pc := 9) dX9_left_9 0 rfl rfl ?_
    refine mG_play C fl_X9_109 dX9_left_10 ?_
    refine x_iconst C (pc := 13) (v := 0) dX9_left_13 (by decide) ?_
    refine mL_play C dX9_left_14 (vp_in_nI (n := 0) (by decide) (by decide)) ?_
    refine mP_champion C fl_X9_116 (v := (M 33 (ix 0))) dX9_left_15 ?_
    refine x_aload_n C (pc := 18) dX9_left_18 0 rfl rfl ?_
    refine mG_titles C fl_X9_35 dX9_left_19 ?_
    refine x_aload_n C (pc := 22) dX9_left_22 0 rfl rfl ?_
    refine mG_champion C fl_X9_116 dX9_left_23 ?_
    refine x_top (y := (M 33 (ix 0))) rfl ?_
    refine x_dup2 C (pc := 26) dX9_left_26 rfl rfl ?_
    refine mL_titles C dX9_left_27 (by assumption) ?_
    refine x_top (y := (M 9 (ix (M 33 (ix 0))))) rfl ?_
    refine x_iconst C (pc := 28) (v := 1) dX9_left_28 (by decide) ?_
    refine x_iadd C (pc := 29) dX9_left_29 ?_
    refine mS_titles C dX9_left_30 (by assumption) ?_
    refine x_aload_n C (pc := 31) dX9_left_31 0 rfl rfl ?_
    refine x_iconst C (pc := 32) (v := 0) dX9_left_32 (by decide) ?_
    refine mP_playMany C fl_X9_216 (v := 0) dX9_left_33 ?_
    refine x_iconst C (pc := 36) (v := 1) dX9_left_36 (by decide) ?_
    exact ret 1 (ux (ux (ux M 118 0 (M 33 (ix 0))) 9 (ix (M 33 (ix 0))) ((M 9 (ix (M 33 (ix 0)))) + 1)) 117 0 0) 37 _ dX9_left_37 ⟨by unfold vM_left; (repeat (first | rw [if_pos (by assumption)] | rw [if_neg (by assumption)])) <;> first | rfl , by unfold sM_left; (repeat (first | rw [if_pos (by assumption)] | rw [if_neg (by assumption)])) <;> first | rfl | exact (need_id (by assumption)).symm⟩
set_option maxHeartbeats 4000000 in
set_option maxRecDepth 100000 in
theorem c_X9_meets_ (l : Launch) (D : va_G) (G : Gx) (M : St) (a : Int32) : Ci l yX9_meets_ cX9_meets_ 2 (some .int) 0 (mw G) D (tyG G) [.ref (G.1 0), .int a] M (fun r X1 => r = (vM_meets M a) ∧ X1 = M) := by
  refine m_i (nL := 2) (lv := [(0, .ref (G.1 0)), (1, .int a)]) [.ref (G.1 0), .int a] RX9 rfl (mw_adr G) (by decide +kernel) (Nat.le_of_ble_eq_true rfl) rfl (fun K C ret => ?_)
  refine x_aload_n C (pc := 0) dX9_meets__0 0 rfl rfl ?_
  refine mG_playMany C fl_X9_216 dX9_meets__1 ?_
  refine x_iconst C (pc := 4) (v := 2) dX9_meets__4 (by decide) ?_
  refine x_icmp_ge C (pc := 5) (tgt := 13) dX9_meets__5 (by decide) (fun c5 => ?_) (fun c5 => ?_)
  · refine x_aload_n C (pc := 13) dX9_meets__13 0 rfl rfl ?_
    refine mG_play C fl_X9_109 dX9_meets__14 ?_
    refine x_iload_n C (pc := 17) dX9_meets__17 1 rfl rfl ?_
    refine x_if_eq C (pc := 18) (tgt := 25) dX9_meets__18 (by decide) (fun c18 => ?_) (fun c18 => ?_)
    · refine x_iconst C (pc := 25) (v := 0) dX9_meets__25 (by decide) ?_
      refine mL_play C dX9_meets__26 (vp_in_nI (n := 0) (by decide) (by decide)) ?_
      exact ret (M 33 (ix 0)) M 27 _ dX9_meets__27 ⟨by unfold vM_meets; (repeat (first | rw [if_pos (by assumption)] | rw [if_neg (by assumption)])) <;> first | rfl , rfl⟩
    · refine x_iconst C (pc := 21) (v := 1) dX9_meets__21 (by decide) ?_
      refine x_goto C (pc := 22) (tgt := 26) dX9_meets__22 (by decide) ?_
      refine mL_play C dX9_meets__26 (vp_in_nI (n := 1) (by decide) (by decide)) ?_
      exact ret (M 33 (ix 1)) M 27 _ dX9_meets__27 ⟨by unfold vM_meets; (repeat (first | rw [if_pos (by assumption)] | rw [if_neg (by assumption)])) <;> first | rfl , rfl⟩
  · refine x_bipush C (pc := 8) (v := (-9)) dX9_meets__8 (by decide) ?_
    refine x_goto C (pc := 10) (tgt := 27) dX9_meets__10 (by decide) ?_
    exact ret (-9) M 27 _ dX9_meets__27 ⟨by unfold vM_meets; (repeat (first | rw [if_pos (by assumption)] | rw [if_neg (by assumption)])) <;> first | rfl , rfl⟩
set_option maxHeartbeats 4000000 in
set_option maxRecDepth 100000 in
theorem c_X9_count (l : Launch) (D : va_G) (G : Gx) (M : St) (what : Int32) : Ci l yX9_count cX9_count 2 (some .int) 0 (mw G) D (tyG G) [.ref (G.1 0), .int what] M (fun r X1 => r = (vM_count M what) ∧ X1 = M) := by
  refine m_i (nL := 2) (lv := [(0, .ref (G.1 0)), (1, .int what)]) [.ref (G.1 0), .int what] RX9 rfl (mw_adr G) (by decide +kernel) (Nat.le_of_ble_eq_true rfl) rfl (fun K C ret => ?_)
  refine x_iload_n C (pc := 0) dX9_count_0 1 rfl rfl ?_
  rcases tsw what 7 (by decide) with h1 | ⟨j1, hj1, h1⟩
  · refine x_tout C (pc := 1) (tgt := 99) dX9_count_1 h1 (by decide) ?_
    have q1_0 : what ≠ 0 := sw_ne h1 0 (by decide) (by decide)
    have q1_1 : what ≠ 1 := sw_ne h1 1 (by decide) (by decide)
    have q1_2 : what ≠ 2 := sw_ne h1 2 (by decide) (by decide)
    have q1_3 : what ≠ 3 := sw_ne h1 3 (by decide) (by decide)
    have q1_4 : what ≠ 4 := sw_ne h1 4 (by decide) (by decide)
    have q1_5 : what ≠ 5 := sw_ne h1 5 (by decide) (by decide)
    have q1_6 : what ≠ 6 := sw_ne h1 6 (by decide) (by decide)
    have q1_7 : what ≠ 7 := sw_ne h1 7 (by decide) (by decide)
    refine x_iconst C (pc := 99) (v := (-1)) dX9_count_99 (by decide) ?_
    exact ret (-1) M 100 _ dX9_count_100 ⟨by simp [vM_count, *], rfl⟩
  · rcases (show j1 = 0 ∨ j1 = 1 ∨ j1 = 2 ∨ j1 = 3 ∨ j1 = 4 ∨ j1 = 5 ∨ j1 = 6 ∨ j1 = 7 by omega) with e1 | e1 | e1 | e1 | e1 | e1 | e1 | e1
    · subst e1
      have q1 : what = 0 := sw_eq h1 (by decide)
      refine x_tin C (pc := 1) (off := 47) (tgt := 48) dX9_count_1 (by rw [h1]; decide) (by rw [h1]; decide) (by rw [h1]; rfl) (by decide) ?_
      refine x_aload_n C (pc := 48) dX9_count_48 0 rfl rfl ?_
      refine mG_ever C fl_X9_129 dX9_count_49 ?_
      exact ret (M 101 0) M 52 _ dX9_count_52 ⟨by simp [vM_count, *], rfl⟩
    · subst e1
      have q1 : what = 1 := sw_eq h1 (by decide)
      refine x_tin C (pc := 1) (off := 52) (tgt := 53) dX9_count_1 (by rw [h1]; decide) (by rw [h1]; decide) (by rw [h1]; rfl) (by decide) ?_
      refine x_aload_n C (pc := 53) dX9_count_53 0 rfl rfl ?_
      refine mG_there C fl_X9_126 dX9_count_54 ?_
      exact ret (M 102 0) M 57 _ dX9_count_57 ⟨by simp [vM_count, *], rfl⟩
    · subst e1
      have q1 : what = 2 := sw_eq h1 (by decide)
      refine x_tin C (pc := 1) (off := 57) (tgt := 58) dX9_count_1 (by rw [h1]; decide) (by rw [h1]; decide) (by rw [h1]; rfl) (by decide) ?_
      refine x_aload_n C (pc := 58) dX9_count_58 0 rfl rfl ?_
      refine mG_drawn C fl_X9_167 dX9_count_59 ?_
      exact ret (M 106 0) M 62 _ dX9_count_62 ⟨by simp [vM_count, *], rfl⟩
    · subst e1
      have q1 : what = 3 := sw_eq h1 (by decide)
      refine x_tin C (pc := 1) (off := 62) (tgt := 63) dX9_count_1 (by rw [h1]; decide) (by rw [h1]; decide) (by rw [h1]; rfl) (by decide) ?_
      refine x_aload_n C (pc := 63) dX9_count_63 0 rfl rfl ?_
      refine mG_isMeet C fl_X9_132 dX9_count_64 ?_
      refine x_if_eq C (pc := 67) (tgt := 77) dX9_count_67 (by decide) (fun c67 => ?_) (fun c67 => ?_)
      · refine x_iconst C (pc := 77) (v := 0) dX9_count_77 (by decide) ?_
        exact ret 0 M 78 _ dX9_count_78 ⟨by simp [vM_count, *], rfl⟩
      · refine x_aload_n C (pc := 70) dX9_count_70 0 rfl rfl ?_
        refine mG_days C fl_X9_164 dX9_count_71 ?_
        refine x_goto C (pc := 74) (tgt := 78) dX9_count_74 (by decide) ?_
        exact ret (M 105 0) M 78 _ dX9_count_78 ⟨by simp [vM_count, *], rfl⟩
    · subst e1
      have q1 : what = 4 := sw_eq h1 (by decide)
      refine x_tin C (pc := 1) (off := 78) (tgt := 79) dX9_count_1 (by rw [h1]; decide) (by rw [h1]; decide) (by rw [h1]; rfl) (by decide) ?_
      refine x_aload_n C (pc := 79) dX9_count_79 0 rfl rfl ?_
      refine mG_bouts C fl_X9_170 dX9_count_80 ?_
      exact ret (M 107 0) M 83 _ dX9_count_83 ⟨by simp [vM_count, *], rfl⟩
    · subst e1
      have q1 : what = 5 := sw_eq h1 (by decide)
      refine x_tin C (pc := 1) (off := 83) (tgt := 84) dX9_count_1 (by rw [h1]; decide) (by rw [h1]; decide) (by rw [h1]; rfl) (by decide) ?_
      refine x_aload_n C (pc := 84) dX9_count_84 0 rfl rfl ?_
      refine mG_lacking C fl_X9_173 dX9_count_85 ?_
      exact ret (M 108 0) M 88 _ dX9_count_88 ⟨by simp [vM_count, *], rfl⟩
    · subst e1
      have q1 : what = 6 := sw_eq h1 (by decide)
      refine x_tin C (pc := 1) (off := 88) (tgt := 89) dX9_count_1 (by rw [h1]; decide) (by rw [h1]; decide) (by rw [h1]; rfl) (by decide) ?_
      refine x_aload_n C (pc := 89) dX9_count_89 0 rfl rfl ?_
      refine mG_lines C fl_X9_207 dX9_count_90 ?_
      exact ret (M 112 0) M 93 _ dX9_count_93 ⟨by simp [vM_count, *], rfl⟩
    · subst e1
      have q1 : what = 7 := sw_eq h1 (by decide)
      refine x_tin C (pc := 1) (off := 93) (tgt := 94) dX9_count_1 (by rw [h1]; decide) (by rw [h1]; decide) (by rw [h1]; rfl) (by decide) ?_
      refine x_aload_n C (pc := 94) dX9_count_94 0 rfl rfl ?_
      refine mG_writtenTimes C fl_X9_226 dX9_count_95 ?_
      exact ret (M 113 0) M 98 _ dX9_count_98 ⟨by simp [vM_count, *], rfl⟩
set_option maxHeartbeats 4000000 in
set_option maxRecDepth 100000 in
theorem c_X9_addBout (l : Launch) (D : va_G) (G : Gx) (M : St) (a : Int32) (b : Int32) (hb : vp_in (M 107 0) 120) : Cv l yX9_addBout cX9_addBout 3 none 0 (mw G) D (tyG G) [.ref (G.1 0), .int a, .int b] M (fun X1 => X1 = (sM_addBout M a b)) := by
  refine m_v (nL := 3) (lv := [(0, .ref (G.1 0)), (1, .int a), (2, .int b)]) [.ref (G.1 0), .int a, .int b] RX9 rfl (mw_adr G) (by decide +kernel) (Nat.le_of_ble_eq_true rfl) rfl (fun K C ret => ?_)
  refine x_aload_n C (pc := 0) dX9_addBout_0 0 rfl rfl ?_
  refine mG_boutDay C fl_X9_54 dX9_addBout_1 ?_
  refine x_aload_n C (pc := 4) dX9_addBout_4 0 rfl rfl ?_
  refine mG_bouts C fl_X9_170 dX9_addBout_5 ?_
  refine x_aload_n C (pc := 8) dX9_addBout_8 0 rfl rfl ?_
  refine mG_drawn C fl_X9_167 dX9_addBout_9 ?_
  refine mS_boutDay C dX9_addBout_12 (by assumption) ?_
  refine x_aload_n C (pc := 13) dX9_addBout_13 0 rfl rfl ?_
  refine mG_boutUpper C fl_X9_57 dX9_addBout_14 ?_
  refine x_aload_n C (pc := 17) dX9_addBout_17 0 rfl rfl ?_
  refine mG_bouts C fl_X9_170 dX9_addBout_18 ?_
  refine x_top (y := (M 107 0)) rfl ?_
  refine x_iload_n C (pc := 21) dX9_addBout_21 1 rfl rfl ?_
  refine mS_boutUpper C dX9_addBout_22 (by assumption) ?_
  refine x_aload_n C (pc := 23) dX9_addBout_23 0 rfl rfl ?_
  refine mG_boutLower C fl_X9_60 dX9_addBout_24 ?_
  refine x_aload_n C (pc := 27) dX9_addBout_27 0 rfl rfl ?_
  refine mG_bouts C fl_X9_170 dX9_addBout_28 ?_
  refine x_top (y := (M 107 0)) rfl ?_
  refine x_iload_n C (pc := 31) dX9_addBout_31 2 rfl rfl ?_
  refine mS_boutLower C dX9_addBout_32 (by assumption) ?_
  refine x_aload_n C (pc := 33) dX9_addBout_33 0 rfl rfl ?_
  refine mG_boutWon C fl_X9_63 dX9_addBout_34 ?_
  refine x_aload_n C (pc := 37) dX9_addBout_37 0 rfl rfl ?_
  refine mG_bouts C fl_X9_170 dX9_addBout_38 ?_
  refine x_top (y := (M 107 0)) rfl ?_
  refine x_bipush C (pc := 41) (v := (-9)) dX9_addBout_41 (by decide) ?_
  refine mS_boutWon C dX9_addBout_43 (by assumption) ?_
  refine x_aload_n C (pc := 44) dX9_addBout_44 0 rfl rfl ?_
  refine x_dup C (pc := 45) dX9_addBout_45 rfl ?_
  refine mG_bouts C fl_X9_170 dX9_addBout_46 ?_
  refine x_top (y := (M 107 0)) rfl ?_
  refine x_iconst C (pc := 49) (v := 1) dX9_addBout_49 (by decide) ?_
  refine x_iadd C (pc := 50) dX9_addBout_50 ?_
  refine mP_bouts C fl_X9_170 (v := (M 107 0) + 1) dX9_addBout_51 ?_
  refine x_aload_n C (pc := 54) dX9_addBout_54 0 rfl rfl ?_
  refine x_dup C (pc := 55) dX9_addBout_55 rfl ?_
  refine mG_lacking C fl_X9_173 dX9_addBout_56 ?_
  refine x_top (y := (M 108 0)) rfl ?_
  refine x_iconst C (pc := 59) (v := 1) dX9_addBout_59 (by decide) ?_
  refine x_iadd C (pc := 60) dX9_addBout_60 ?_
  refine mP_lacking C fl_X9_173 (v := (M 108 0) + 1) dX9_addBout_61 ?_
  exact ret (ux (ux (ux (ux (ux (ux M 15 (ix (M 107 0)) (M 106 0)) 16 (ix (M 107 0)) a) 17 (ix (M 107 0)) b) 18 (ix (M 107 0)) (-9)) 107 0 ((M 107 0) + 1)) 108 0 ((M 108 0) + 1)) 64 _ dX9_addBout_64 rfl
