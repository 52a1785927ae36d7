
def scZ (wi lo sc : Nat → Int32) (n : Nat) : Nat → Int32 := fun i => if i < n then wi i - lo i else sc i
theorem scZ_step (wi lo sc : Nat → Int32) (n : Nat) : upd (scZ wi lo sc n) n (wi n - lo n) = scZ wi lo sc (n + 1) := by
  funext j
  simp only [scZ, upd]
  by_cases e : j = n
  · rw [if_pos e, e, if_pos (by omega)]
  · rw [if_neg e]
    by_cases h : j < n
    · rw [if_pos h, if_pos (by omega)]
    · rw [if_neg h, if_neg (by omega)]
theorem scZ_0 (wi lo sc : Nat → Int32) : scZ wi lo sc 0 = sc := by
  funext j
  simp [scZ]
/-- the first loop of anew -/
def am1 (M : St) (j : Nat) : St := sr (sr (sr (sr M 31 (scZ (M 7) (M 8) (M 31) j)) 25 (zr (M 25) (-9) j)) 26 (zr (M 26) (-9) j)) 27 (zr (M 27) (-9) j)
theorem am1_0 (M : St) : M = am1 M 0 := by
  unfold am1
  rw [scZ_0, zr_0, zr_0, zr_0, sr_self]
  rw [sr_self]
  rw [sr_self]
  rw [sr_self]
def mBL (M : St) (w : Int32) (L : Nat) : Int32 := lfr (M 22) (M 23) ((M 7) (ix w) - (M 8) (ix w)) L 0
def mkV (kd up : Int32) : Int32 := if kd = 1 then (if (-1) ≤ up then (if kd = 2 then (if up ≤ 0 then 0 else up) else 0) else 1) else if kd = 2 then (if up ≤ 0 then 0 else up) else 0
def whL (M : St) (L : Nat) : Nat → Nat → Int32
  | 0 => zr (M 25) (-9) 16
  | r + 1 => upd (whL M L r) (ix ((M 11) r)) (mBL M ((M 11) r) L)
def mkL (M : St) (L : Nat) : Nat → Nat → Int32
  | 0 => (M 10)
  | r + 1 => upd (mkL M L r) (ix ((M 11) r)) (mkL M L r (ix ((M 11) r)) + mkV ((M 2) (ix ((M 11) r))) (vM_up M (mBL M ((M 11) r) L)))
/-- the second loop -/
def am2 (M : St) (L j : Nat) : St := sr (sr (sr (sr (am1 M 16) 32 (recF (M 11) (M 32) j)) 26 (recB (M 11) (zr (M 26) (-9) 16) j)) 25 (whL M L j)) 10 (mkL M L j)
theorem am2_0 (M : St) (L : Nat) : am1 M 16 = am2 M L 0 := by
  unfold am2
  rw [recF_0, recB, whL, mkL]
  rw [show sr (am1 M 16) 32 (M 32) = am1 M 16 from sr_self (am1 M 16) 32]
  rw [show sr (am1 M 16) 26 (zr (M 26) (-9) 16) = am1 M 16 from sr_self (am1 M 16) 26]
  rw [show sr (am1 M 16) 25 (zr (M 25) (-9) 16) = am1 M 16 from sr_self (am1 M 16) 25]
  exact (sr_self (am1 M 16) 10).symm
def am3 (M : St) (L N : Nat) : St := sM_order (am2 M L N) L N
def ctL (od f : Nat → Int32) : Nat → Int32
  | 0 => 0
  | r + 1 => ctL od f r + (if f (ix (od r)) = nI r then 0 else 1)
def am4 (M : St) (L N j : Nat) : St := sr (sr (am3 M L N) 11 (recF (am3 M L N 30) (M 11) j)) 27 (recB (am3 M L N 30) (zr (M 27) (-9) 16) j)
theorem am4_0 (M : St) (L N : Nat) : am3 M L N = am4 M L N 0 := by
  unfold am4
  rw [recF_0, recB]
  rw [show sr (am3 M L N) 11 (M 11) = am3 M L N from sr_self (am3 M L N) 11]
  exact (sr_self (am3 M L N) 27).symm
def vM_anew (M : St) (L N : Nat) : Int32 := if (M 103 0) = 0 then (-4) else if (M 106 0) < (M 105 0) then (-4) else if 0 < (M 108 0) then (-4) else if (M 117 0) ≤ 1 then ctL (am3 M L N 30) (recB (M 11) (zr (M 26) (-9) 16) N) N else (-4)
def sM_anew1 (M : St) (L N : Nat) : St := ux (ux (ux (ux (am4 M L N N) 115 0 (M 112 0)) 113 0 ((M 113 0) + 1)) 114 0 1) 103 0 0
def sM_anew (M : St) (L N : Nat) : St := if (M 103 0) = 0 then M else if (M 106 0) < (M 105 0) then M else if 0 < (M 108 0) then M else if (M 117 0) ≤ 1 then sM_anew1 M L N else M
/-- beside -/
def bsc (M : St) (k : Int32) (w : Nat) : Int32 := (M 7) w - (M 8) w + (if nI w = (M 16) (ix k) then (if nI w = (M 18) (ix k) then (-1) else 1) else if nI w = (M 17) (ix k) then (if nI w = (M 18) (ix k) then (-1) else 1) else 0)
def wsB (M : St) (k x : Int32) : Int32 := if x = (M 16) (ix k) then 1 else if x = (M 17) (ix k) then 1 else 0
def wsC (M : St) (k x : Int32) : Int32 := if wsB M k x = 0 then 0 else if x = (M 18) (ix k) then (-1) else 1
theorem wsC_eq (M : St) (k : Int32) (w : Nat) : (M 7) w - (M 8) w + wsC M k (nI w) = bsc M k w := by
  unfold wsC wsB bsc
  by_cases h1 : nI w = (M 16) (ix k)
  · simp only [if_pos h1]; rw [if_neg (by decide)]
  · simp only [if_neg h1]
    by_cases h2 : nI w = (M 17) (ix k)
    · simp only [if_pos h2]; rw [if_neg (by decide)]
    · simp only [if_neg h2, if_true]
def bsZ (M : St) (k : Int32) (n : Nat) : Nat → Int32 := fun i => if i < n then bsc M k i else (M 31) i
theorem bsZ_step (M : St) (k : Int32) (n : Nat) : upd (bsZ M k n) n (bsc M k n) = bsZ M k (n + 1) := by
  funext j
  simp only [bsZ, upd]
  by_cases e : j = n
  · rw [if_pos e, e, if_pos (by omega)]
  · rw [if_neg e]
    by_cases h : j < n
    · rw [if_pos h, if_pos (by omega)]
    · rw [if_neg h, if_neg (by omega)]
def bm1 (M : St) (k : Int32) (j : Nat) : St := sr (sr M 31 (bsZ M k j)) 28 (zr (M 28) (-9) j)
theorem bm1_0 (M : St) (k : Int32) : M = bm1 M k 0 := by
  unfold bm1
  rw [zr_0, show bsZ M k 0 = (M 31) by funext j; simp [bsZ], sr_self]
  rw [sr_self]
def bm2 (M : St) (k : Int32) (L N : Nat) : St := sM_order (bm1 M k 16) L N
theorem bm2_0 (M : St) (k : Int32) (L N : Nat) : bm2 M k L N = sr (bm2 M k L N) 28 (recB (bm2 M k L N 30) (zr (M 28) (-9) 16) 0) := by
  rw [recB]
  exact (sr_self (bm2 M k L N) 28).symm
def vM_beside (M : St) (k : Int32) (L N : Nat) : Int32 := if vin k 0 ((M 107 0) - 1) = 0 then (-1) else if (M 114 0) = 0 then (-4) else ctL (bm2 M k L N 30) (M 27) N
def sM_beside (M : St) (k : Int32) (L N : Nat) : St := if vin k 0 ((M 107 0) - 1) = 0 then M else if (M 114 0) = 0 then M else sr (bm2 M k L N) 28 (recB (bm2 M k L N 30) (zr (M 28) (-9) 16) N)
theorem lfr_vin2 {M : St} {w bl : Int32} {L : Nat} (hL : L ≤ 12) (h : bl = mBL M w L) (hne : ¬ bl = (-9)) : vp_in bl 12 := by
  rw [h] at hne ⊢
  exact lfr_vin hL hne

set_option maxHeartbeats 4000000 in
set_option maxRecDepth 100000 in
theorem c_X9_anew (l : Launch) (D : va_G) (G : Gx) (L N : Nat) (M : St)  (hS : (M 102 0) = nI N) (hN16 : N ≤ 16) (hB : ∀ r, r < N → vp_in ((M 11) r) 16) (hL : (M 112 0) = nI L) (hL12 : L ≤ 12) : Ci l yX9_anew cX9_anew 4 (some .int) 3 (mw G) D (tyG G) [.ref (G.1 0)] M (fun r X1 => r = (vM_anew M L N) ∧ X1 = (sM_anew M L N)) := by
  refine m_i (nL := 4) (lv := [(0, .ref (G.1 0))]) [.ref (G.1 0)] RX9 rfl (mw_adr G) (by decide +kernel) (Nat.le_of_ble_eq_true rfl) rfl (fun K C ret => ?_)
  refine x_aload_n C (pc := 0) dX9_anew_0 0 rfl rfl ?_
  refine mG_isMeet C fl_X9_132 dX9_anew_1 ?_
  refine x_if_eq C (pc := 4) (tgt := 33) dX9_anew_4 (by decide) (fun c4 => ?_) (fun c4 => ?_)
  · refine x_bipush C (pc := 33) (v := (-4)) dX9_anew_33 (by decide) ?_
    exact ret (-4) M 35 _ dX9_anew_35 ⟨by unfold vM_anew; (repeat (first | rw [if_pos (by assumption)] | rw [if_neg (by assumption)])) <;> first | rfl , by unfold sM_anew; (repeat (first | rw [if_pos (by assumption)] | rw [if_neg (by assumption)])) <;> first | rfl ⟩
  · refine x_aload_n C (pc := 7) dX9_anew_7 0 rfl rfl ?_
    refine mG_drawn C fl_X9_167 dX9_anew_8 ?_
    refine x_aload_n C (pc := 11) dX9_anew_11 0 rfl rfl ?_
    refine mG_days C fl_X9_164 dX9_anew_12 ?_
    refine x_icmp_lt C (pc := 15) (tgt := 33) dX9_anew_15 (by decide) (fun c15 => ?_) (fun c15 => ?_)
    · refine x_bipush C (pc := 33) (v := (-4)) dX9_anew_33 (by decide) ?_
      exact ret (-4) M 35 _ dX9_anew_35 ⟨by unfold vM_anew; (repeat (first | rw [if_pos (by assumption)] | rw [if_neg (by assumption)])) <;> first | rfl , by unfold sM_anew; (repeat (first | rw [if_pos (by assumption)] | rw [if_neg (by assumption)])) <;> first | rfl ⟩
    · refine x_aload_n C (pc := 18) dX9_anew_18 0 rfl rfl ?_
      refine mG_lacking C fl_X9_173 dX9_anew_19 ?_
      refine x_if_gt C (pc := 22) (tgt := 33) dX9_anew_22 (by decide) (fun c22 => ?_) (fun c22 => ?_)
      · refine x_bipush C (pc := 33) (v := (-4)) dX9_anew_33 (by decide) ?_
        exact ret (-4) M 35 _ dX9_anew_35 ⟨by unfold vM_anew; (repeat (first | rw [if_pos (by assumption)] | rw [if_neg (by assumption)])) <;> first | rfl , by unfold sM_anew; (repeat (first | rw [if_pos (by assumption)] | rw [if_neg (by assumption)])) <;> first | rfl ⟩
      · refine x_aload_n C (pc := 25) dX9_anew_25 0 rfl rfl ?_
        refine mG_playMany C fl_X9_216 dX9_anew_26 ?_
        refine x_iconst C (pc := 29) (v := 1) dX9_anew_29 (by decide) ?_
        refine x_icmp_le C (pc := 30) (tgt := 36) dX9_anew_30 (by decide) (fun c30 => ?_) (fun c30 => ?_)
        · refine x_iconst C (pc := 36) (v := 0) dX9_anew_36 (by decide) ?_
          refine x_istore_n C (pc := 37) dX9_anew_37 [(0, .ref (G.1 0)), (1, .int 0)] [1, 0] rfl (by decide) rfl ?_
          have L38 : ∀ (nu : Nat) (i : Int32) (j : Nat), (j ≤ 16) → (i = nI j) → (16 - j) < nu → WX K (mw G) 4 (sr (sr (sr (sr M 31 (scZ (M 7) (M 8) (M 31) j)) 25 (zr (M 25) (-9) j)) 26 (zr (M 26) (-9) j)) 27 (zr (M 27) (-9) j)) 38 [(0, .ref (G.1 0)), (1, .int i)] [] := by
            intro nu
            induction nu with
            | zero => intro i j hj hi hmu38; exact absurd hmu38 (Nat.not_lt_zero _)
            | succ n38 ih38 =>
              intro i j hj hi hmu38
              refine x_iload_n C (pc := 38) dX9_anew_38 1 rfl rfl ?_
              refine x_bipush C (pc := 39) (v := 16) dX9_anew_39 (by decide) ?_
              refine x_icmp_ge C (pc := 41) (tgt := 93) dX9_anew_41 (by decide) (fun c41 => ?_) (fun c41 => ?_)
              · have hj16 : j = 16 := by have hge9 : 16 ≤ j := geN hi (rfl : (16 : Int32) = nI 16) c41 (by decide); omega
                refine x_eqX (X' := (am1 M 16)) (by rw [hj16]; rfl) ?_
                refine x_iconst C (pc := 93) (v := 0) dX9_anew_93 (by decide) ?_
                refine x_istore_n C (pc := 94) dX9_anew_94 [(0, .ref (G.1 0)), (1, .int 0)] [1, 0] rfl (by decide) rfl ?_
                have L95 : ∀ (nu : Nat) (i : Int32) (j : Nat), (j ≤ N) → (i = nI j) → (N - j) < nu → WX K (mw G) 4 (sr (sr (sr (sr (am1 M 16) 32 (recF (M 11) (M 32) j)) 26 (recB (M 11) (zr (M 26) (-9) 16) j)) 25 (whL M L j)) 10 (mkL M L j)) 95 [(0, .ref (G.1 0)), (1, .int i)] [] := by
                  intro nu
                  induction nu with
                  | zero => intro i j hj hi hmu95; exact absurd hmu95 (Nat.not_lt_zero _)
                  | succ n95 ih95 =>
                    intro i j hj hi hmu95
                    refine x_iload_n C (pc := 95) dX9_anew_95 1 rfl rfl ?_
                    refine x_aload_n C (pc := 96) dX9_anew_96 0 rfl rfl ?_
                    refine mG_there C fl_X9_126 dX9_anew_97 ?_
                    refine x_top (y := ((am1 M 16) 102 0)) rfl ?_
                    refine x_icmp_ge C (pc := 100) (tgt := 224) dX9_anew_100 (by decide) (fun c100 => ?_) (fun c100 => ?_)
                    · have hjN : j = N := by have := geN hi hS c100 (by omega); omega
                      have hbfin : ∀ r, r < N → vp_in (am2 M L N 32 r) 16 := fun r hr => by show vp_in (recF (M 11) (M 32) N r) 16; unfold recF; rw [if_pos hr]; exact hB r hr
                      have hodin : ∀ r, r < N → vp_in (am3 M L N 30 r) 16 := fun r hr => odL_in N hbfin r hr
                      clear hi hj
                      refine x_eqX (X' := (am2 M L N)) (by rw [hjN]; rfl) ?_
                      refine x_aload_n C (pc := 224) dX9_anew_224 0 rfl rfl ?_
                      refine x_aload_n C (pc := 225) dX9_anew_225 0 rfl rfl ?_
                      refine mG_boardBefore C fl_X9_106 dX9_anew_226 ?_
                      refine x_aload_n C (pc := 229) dX9_anew_229 0 rfl rfl ?_
                      refine mG_scores C fl_X9_103 dX9_anew_230 ?_
                      refine x_aload_n C (pc := 233) dX9_anew_233 0 rfl rfl ?_
                      refine mG_lines C fl_X9_207 dX9_anew_234 ?_
                      refine x_callVv C (pc := 237) [.ref (G.1 32), .ref (G.1 31), .int ((am2 M L N) 112 0)] (fun l D => c_X9_order l D G L N (am2 M L N) ((am2 M L N) 112 0) hS hN16 hbfin hL hL12) (me_0 G _) rfl ml_X9_219 co_X9_order im_X9_order se_X9_order in_X9 hy_X9_order (by decide) (by decide) (Nat.le_of_ble_eq_true rfl) dX9_anew_237 rfl (kxv ?_)
                      refine x_eqX (X' := (am3 M L N)) rfl ?_
                      refine x_iconst C (pc := 240) (v := 0) dX9_anew_240 (by decide) ?_
                      refine x_istore_n C (pc := 241) dX9_anew_241 [(0, .ref (G.1 0)), (1, .int 0)] [1, 0] rfl (by decide) rfl ?_
                      refine x_iconst C (pc := 242) (v := 0) dX9_anew_242 (by decide) ?_
                      refine x_istore_n C (pc := 243) dX9_anew_243 [(0, .ref (G.1 0)), (1, .int 0), (2, .int 0)] [1, 2, 0] rfl (by decide) rfl ?_
                      have L244 : ∀ (nu : Nat) (a : Int32) (i : Int32) (j : Nat), (j ≤ N) → (i = nI j) → (a = ctL (am3 M L N 30) (recB (M 11) (zr (M 26) (-9) 16) N) j) → (N - j) < nu → WX K (mw G) 4 (sr (sr (am3 M L N) 11 (recF (am3 M L N 30) (M 11) j)) 27 (recB (am3 M L N 30) (zr (M 27) (-9) 16) j)) 244 [(0, .ref (G.1 0)), (1, .int a), (2, .int i)] [] := by
                        intro nu
                        induction nu with
                        | zero => intro a i j hj hi ha hmu244; exact absurd hmu244 (Nat.not_lt_zero _)
                        | succ n244 ih244 =>
                          intro a i j hj hi ha hmu244
                          refine x_iload_n C (pc := 244) dX9_anew_244 2 rfl rfl ?_
                          refine x_aload_n C (pc := 245) dX9_anew_245 0 rfl rfl ?_
                          refine mG_there C fl_X9_126 dX9_anew_246 ?_
                          refine x_top (y := ((am3 M L N) 102 0)) rfl ?_
                          refine x_icmp_ge C (pc := 249) (tgt := 305) dX9_anew_249 (by decide) (fun c249 => ?_) (fun c249 => ?_)
                          · have hjN2 : j = N := by have := geN hi hS c249 (by omega); omega
                            refine x_eqX (X' := (am4 M L N N)) (by rw [hjN2]; rfl) ?_
                            refine x_aload_n C (pc := 305) dX9_anew_305 0 rfl rfl ?_
                            refine x_aload_n C (pc := 306) dX9_anew_306 0 rfl rfl ?_
                            refine mG_lines C fl_X9_207 dX9_anew_307 ?_
                            refine mP_writtenLines C fl_X9_223 (v := ((am4 M L N N) 112 0)) dX9_anew_310 ?_
                            refine x_aload_n C (pc := 313) dX9_anew_313 0 rfl rfl ?_
                            refine x_dup C (pc := 314) dX9_anew_314 rfl ?_
                            refine mG_writtenTimes C fl_X9_226 dX9_anew_315 ?_
                            refine x_top (y := ((am4 M L N N) 113 0)) rfl ?_
                            refine x_iconst C (pc := 318) (v := 1) dX9_anew_318 (by decide) ?_
                            refine x_iadd C (pc := 319) dX9_anew_319 ?_
                            refine mP_writtenTimes C fl_X9_226 (v := ((am4 M L N N) 113 0) + 1) dX9_anew_320 ?_
                            refine x_aload_n C (pc := 323) dX9_anew_323 0 rfl rfl ?_
                            refine x_iconst C (pc := 324) (v := 1) dX9_anew_324 (by decide) ?_
                            refine mP_isWritten C fl_X9_136 (v := 1) (by decide) (by decide) dX9_anew_325 ?_
                            refine x_aload_n C (pc := 328) dX9_anew_328 0 rfl rfl ?_
                            refine x_iconst C (pc := 329) (v := 0) dX9_anew_329 (by decide) ?_
                            refine mP_isMeet C fl_X9_132 (v := 0) (by decide) (by decide) dX9_anew_330 ?_
                            refine x_iload_n C (pc := 333) dX9_anew_333 1 rfl rfl ?_
                            exact ret a (ux (ux (ux (ux (am4 M L N N) 115 0 ((am4 M L N N) 112 0)) 113 0 (((am4 M L N N) 113 0) + 1)) 114 0 1) 103 0 0) 334 _ dX9_anew_334 ⟨by rw [ha, hjN2]; unfold vM_anew; rw [if_neg c4, if_neg c15, if_neg c22, if_pos c30], by unfold sM_anew; rw [if_neg c4, if_neg c15, if_neg c22, if_pos c30]; rfl⟩
                          · have hlt : j < N := ltN hi hS c249 (by omega)
                            have hin : vp_in i 16 := by rw [hi]; exact vp_in_nI (by omega) (by decide)
                            have hix : ix i = j := by rw [hi]; exact ix_nI (by omega)
                            have hin2 : vp_in (am3 M L N 30 (ix i)) 16 := by rw [hix]; exact hodin j hlt
                            refine x_aload_n C (pc := 252) dX9_anew_252 0 rfl rfl ?_
                            refine mG_rungs C fl_X9_41 dX9_anew_253 ?_
                            refine x_iload_n C (pc := 256) dX9_anew_256 2 rfl rfl ?_
                            refine x_aload_n C (pc := 257) dX9_anew_257 0 rfl rfl ?_
                            refine mG_ordered C fl_X9_100 dX9_anew_258 ?_
                            refine x_iload_n C (pc := 261) dX9_anew_261 2 rfl rfl ?_
                            refine mL_ordered C dX9_anew_262 (by assumption) ?_
                            refine x_top (y := ((am3 M L N) 30 (ix i))) rfl ?_
                            refine mS_rungs C dX9_anew_263 (by assumption) ?_
                            refine x_aload_n C (pc := 264) dX9_anew_264 0 rfl rfl ?_
                            refine mG_writtenRung C fl_X9_91 dX9_anew_265 ?_
                            refine x_aload_n C (pc := 268) dX9_anew_268 0 rfl rfl ?_
                            refine mG_ordered C fl_X9_100 dX9_anew_269 ?_
                            refine x_iload_n C (pc := 272) dX9_anew_272 2 rfl rfl ?_
                            refine mL_ordered C dX9_anew_273 (by assumption) ?_
                            refine x_top (y := ((am3 M L N) 30 (ix i))) rfl ?_
                            refine x_iload_n C (pc := 274) dX9_anew_274 2 rfl rfl ?_
                            refine mS_writtenRung C dX9_anew_275 (by assumption) ?_
                            refine x_iload_n C (pc := 276) dX9_anew_276 1 rfl rfl ?_
                            have J297 : WX K (mw G) 4 (ux (ux (sr (sr (am3 M L N) 11 (recF (am3 M L N 30) (M 11) j)) 27 (recB (am3 M L N 30) (zr (M 27) (-9) 16) j)) 11 (ix i) ((am3 M L N) 30 (ix i))) 27 (ix ((am3 M L N) 30 (ix i))) i) 297 [(0, .ref (G.1 0)), (1, .int a), (2, .int i)] [.int (if (recB (M 11) (zr (M 26) (-9) 16) N (ix (am3 M L N 30 (ix i)))) = i then 0 else 1), .int a] := by
                              refine x_iadd C (pc := 297) dX9_anew_297 ?_
                              refine x_istore_n C (pc := 298) dX9_anew_298 [(0, .ref (G.1 0)), (1, .int (a + (if (recB (M 11) (zr (M 26) (-9) 16) N (ix (am3 M L N 30 (ix i)))) = i then 0 else 1))), (2, .int i)] [1, 0, 2] rfl (by decide) rfl ?_
                              refine x_iinc C (pc := 299) (v := i + 1) dX9_anew_299 2 [(0, .ref (G.1 0)), (1, .int (a + (if (recB (M 11) (zr (M 26) (-9) 16) N (ix (am3 M L N 30 (ix i)))) = i then 0 else 1))), (2, .int (i + 1))] [1, 2, 0] rfl (by rfl) (by decide) rfl ?_
                              refine x_goto C (pc := 302) (tgt := 244) dX9_anew_302 (by decide) ?_
                              refine x_eqX (X' := (sr (sr (am3 M L N) 11 (recF (am3 M L N 30) (M 11) (j + 1))) 27 (recB (am3 M L N 30) (zr (M 27) (-9) 16) (j + 1)))) (by rw [hix, hi]; (repeat (first | rw [ux_srs] | rw [ux_srn _ _ _ _ (by decide)])); rw [recF_step, recB]) ?_
                              exact ih244 (a + (if (recB (M 11) (zr (M 26) (-9) 16) N (ix (am3 M L N 30 (ix i)))) = i then 0 else 1)) (i + 1) (j + 1) (by omega) (by rw [hi]; exact nI_1 j) (by rw [ctL, ha, hix, hi]) (by omega)
                            refine x_aload_n C (pc := 277) dX9_anew_277 0 rfl rfl ?_
                            refine mG_oldRung C fl_X9_88 dX9_anew_278 ?_
                            refine x_aload_n C (pc := 281) dX9_anew_281 0 rfl rfl ?_
                            refine mG_ordered C fl_X9_100 dX9_anew_282 ?_
                            refine x_iload_n C (pc := 285) dX9_anew_285 2 rfl rfl ?_
                            refine mL_ordered C dX9_anew_286 (by assumption) ?_
                            refine x_top (y := ((am3 M L N) 30 (ix i))) rfl ?_
                            refine mL_oldRung C dX9_anew_287 (by assumption) ?_
                            refine x_top (y := ((am3 M L N) 26 (ix ((am3 M L N) 30 (ix i))))) rfl ?_
                            refine x_top (y := (recB (M 11) (zr (M 26) (-9) 16) N (ix (am3 M L N 30 (ix i))))) (rfl) ?_
                            refine x_iload_n C (pc := 288) dX9_anew_288 2 rfl rfl ?_
                            refine x_icmp_ne C (pc := 289) (tgt := 296) dX9_anew_289 (by decide) (fun c289 => ?_) (fun c289 => ?_)
                            · refine x_iconst C (pc := 296) (v := 1) dX9_anew_296 (by decide) ?_
                              refine x_top (y := (if (recB (M 11) (zr (M 26) (-9) 16) N (ix (am3 M L N 30 (ix i)))) = i then 0 else 1)) ((if_neg c289).symm) ?_
                              exact J297
                            · refine x_iconst C (pc := 292) (v := 0) dX9_anew_292 (by decide) ?_
                              refine x_goto C (pc := 293) (tgt := 297) dX9_anew_293 (by decide) ?_
                              refine x_top (y := (if (recB (M 11) (zr (M 26) (-9) 16) N (ix (am3 M L N 30 (ix i)))) = i then 0 else 1)) ((if_pos c289).symm) ?_
                              exact J297
                      refine x_eqX (X' := (sr (sr (am3 M L N) 11 (recF (am3 M L N 30) (M 11) 0)) 27 (recB (am3 M L N 30) (zr (M 27) (-9) 16) 0))) (am4_0 M L N) ?_
                      exact L244 _ 0 0 0 (Nat.zero_le _) rfl rfl (Nat.lt_succ_self _)
                    · have hlt : j < N := ltN hi hS c100 (by omega)
                      have hin : vp_in i 16 := by rw [hi]; exact vp_in_nI (by omega) (by decide)
                      have hix : ix i = j := by rw [hi]; exact ix_nI (by omega)
                      have hin2 : vp_in ((M 11) (ix i)) 16 := by rw [hix]; exact hB j hlt
                      refine x_aload_n C (pc := 103) dX9_anew_103 0 rfl rfl ?_
                      refine mG_rungs C fl_X9_41 dX9_anew_104 ?_
                      refine x_iload_n C (pc := 107) dX9_anew_107 1 rfl rfl ?_
                      refine mL_rungs C dX9_anew_108 (by assumption) ?_
                      refine x_top (y := ((am1 M 16) 11 (ix i))) rfl ?_
                      refine x_istore_n C (pc := 109) dX9_anew_109 [(0, .ref (G.1 0)), (1, .int i), (2, .int ((am1 M 16) 11 (ix i)))] [1, 2, 0] rfl (by decide) rfl ?_
                      refine x_aload_n C (pc := 110) dX9_anew_110 0 rfl rfl ?_
                      refine mG_boardBefore C fl_X9_106 dX9_anew_111 ?_
                      refine x_iload_n C (pc := 114) dX9_anew_114 1 rfl rfl ?_
                      refine x_iload_n C (pc := 115) dX9_anew_115 2 rfl rfl ?_
                      refine mS_boardBefore C dX9_anew_116 (by assumption) ?_
                      refine x_aload_n C (pc := 117) dX9_anew_117 0 rfl rfl ?_
                      refine mG_oldRung C fl_X9_88 dX9_anew_118 ?_
                      refine x_iload_n C (pc := 121) dX9_anew_121 2 rfl rfl ?_
                      refine x_iload_n C (pc := 122) dX9_anew_122 1 rfl rfl ?_
                      refine mS_oldRung C dX9_anew_123 (by assumption) ?_
                      refine x_aload_n C (pc := 124) dX9_anew_124 0 rfl rfl ?_
                      refine mG_whyOf C fl_X9_85 dX9_anew_125 ?_
                      refine x_iload_n C (pc := 128) dX9_anew_128 2 rfl rfl ?_
                      refine x_aload_n C (pc := 129) dX9_anew_129 0 rfl rfl ?_
                      refine x_aload_n C (pc := 130) dX9_anew_130 0 rfl rfl ?_
                      refine mG_scores C fl_X9_103 dX9_anew_131 ?_
                      refine x_iload_n C (pc := 134) dX9_anew_134 2 rfl rfl ?_
                      refine mL_scores C dX9_anew_135 (by assumption) ?_
                      refine x_top (y := ((am1 M 16) 31 (ix ((am1 M 16) 11 (ix i))))) rfl ?_
                      refine x_aload_n C (pc := 136) dX9_anew_136 0 rfl rfl ?_
                      refine mG_lines C fl_X9_207 dX9_anew_137 ?_
                      refine x_top (y := ((am1 M 16) 112 0)) rfl ?_
                      refine x_callVi C (pc := 140) [.int ((am1 M 16) 31 (ix ((am1 M 16) 11 (ix i)))), .int ((am1 M 16) 112 0)] (fun l D => c_X9_lineFor l D G L (ux (ux (sr (sr (sr (sr (am1 M 16) 32 (recF (M 11) (M 32) j)) 26 (recB (M 11) (zr (M 26) (-9) 16) j)) 25 (whL M L j)) 10 (mkL M L j)) 32 (ix i) ((am1 M 16) 11 (ix i))) 26 (ix ((am1 M 16) 11 (ix i))) i) ((am1 M 16) 31 (ix ((am1 M 16) 11 (ix i)))) ((am1 M 16) 112 0) hL12 hL) (me_0 G _) rfl ml_X9_210 co_X9_lineFor im_X9_lineFor se_X9_lineFor in_X9 hy_X9_lineFor (by decide) (by decide) (Nat.le_of_ble_eq_true rfl) dX9_anew_140 rfl (kx ?_)
                      obtain ⟨bl, hbl⟩ : ∃ z, z = (mBL M (M 11 (ix i)) L) := ⟨_, rfl⟩
                      refine x_top (y := bl) (by rw [hbl]; show lfr _ _ (scZ (M 7) (M 8) (M 31) 16 (ix (M 11 (ix i)))) L 0 = _; unfold scZ; rw [if_pos (in_ix hin2)]; rfl) ?_
                      refine mS_whyOf C dX9_anew_143 (by assumption) ?_
                      have J170 : WX K (mw G) 4 (ux (ux (ux (sr (sr (sr (sr (am1 M 16) 32 (recF (M 11) (M 32) j)) 26 (recB (M 11) (zr (M 26) (-9) 16) j)) 25 (whL M L j)) 10 (mkL M L j)) 32 (ix i) ((am1 M 16) 11 (ix i))) 26 (ix ((am1 M 16) 11 (ix i))) i) 25 (ix ((am1 M 16) 11 (ix i))) bl) 170 [(0, .ref (G.1 0)), (1, .int i), (2, .int ((am1 M 16) 11 (ix i)))] [.int (vM_up M bl)] := by
                        refine x_istore_n C (pc := 170) dX9_anew_170 [(0, .ref (G.1 0)), (1, .int i), (2, .int ((am1 M 16) 11 (ix i))), (3, .int (vM_up M bl))] [1, 2, 3, 0] rfl (by decide) rfl ?_
                        refine x_aload_n C (pc := 171) dX9_anew_171 0 rfl rfl ?_
                        refine mG_marks C fl_X9_38 dX9_anew_172 ?_
                        refine x_iload_n C (pc := 175) dX9_anew_175 2 rfl rfl ?_
                        refine x_dup2 C (pc := 176) dX9_anew_176 rfl rfl ?_
                        refine mL_marks C dX9_anew_177 (by assumption) ?_
                        refine x_top (y := ((mkL M L j) (ix ((am1 M 16) 11 (ix i))))) rfl ?_
                        have J216 : WX K (mw G) 4 (ux (ux (ux (sr (sr (sr (sr (am1 M 16) 32 (recF (M 11) (M 32) j)) 26 (recB (M 11) (zr (M 26) (-9) 16) j)) 25 (whL M L j)) 10 (mkL M L j)) 32 (ix i) ((am1 M 16) 11 (ix i))) 26 (ix ((am1 M 16) 11 (ix i))) i) 25 (ix ((am1 M 16) 11 (ix i))) bl) 216 [(0, .ref (G.1 0)), (1, .int i), (2, .int ((am1 M 16) 11 (ix i))), (3, .int (vM_up M bl))] [.int (mkV (M 2 (ix (M 11 (ix i)))) (vM_up M bl)), .int ((mkL M L j) (ix ((am1 M 16) 11 (ix i)))), .int ((am1 M 16) 11 (ix i)), .ref (G.1 10)] := by
                          refine x_iadd C (pc := 216) dX9_anew_216 ?_
                          refine mS_marks C dX9_anew_217 (by assumption) ?_
                          refine x_iinc C (pc := 218) (v := i + 1) dX9_anew_218 1 [(0, .ref (G.1 0)), (1, .int (i + 1)), (2, .int ((am1 M 16) 11 (ix i))), (3, .int (vM_up M bl))] [1, 0, 2, 3] rfl (by rfl) (by decide) rfl ?_
                          refine x_goto C (pc := 221) (tgt := 95) dX9_anew_221 (by decide) ?_
                          refine x_sub [(0, .ref (G.1 0)), (1, .int (i + 1))] [0, 1] rfl ?_
                          refine x_eqX (X' := (sr (sr (sr (sr (am1 M 16) 32 (recF (M 11) (M 32) (j + 1))) 26 (recB (M 11) (zr (M 26) (-9) 16) (j + 1))) 25 (whL M L (j + 1))) 10 (mkL M L (j + 1)))) (by rw [hbl, hix, hi, show am1 M 16 11 = (M 11) from rfl]; (repeat (first | rw [ux_srs] | rw [ux_srn _ _ _ _ (by decide)])); rw [recF_step, recB, whL, mkL]) ?_
                          exact ih95 (i + 1) (j + 1) (by omega) (by rw [hi]; exact nI_1 j) (by omega)
                        refine x_aload_n C (pc := 178) dX9_anew_178 0 rfl rfl ?_
                        refine mG_kindOf C fl_X9_13 dX9_anew_179 ?_
                        refine x_iload_n C (pc := 182) dX9_anew_182 2 rfl rfl ?_
                        refine mL_kindOf C dX9_anew_183 (by assumption) ?_
                        refine x_top (y := ((am1 M 16) 2 (ix ((am1 M 16) 11 (ix i))))) rfl ?_
                        refine x_iconst C (pc := 184) (v := 1) dX9_anew_184 (by decide) ?_
                        refine x_icmp_ne C (pc := 185) (tgt := 197) dX9_anew_185 (by decide) (fun c185 => ?_) (fun c185 => ?_)
                        · refine x_aload_n C (pc := 197) dX9_anew_197 0 rfl rfl ?_
                          refine mG_kindOf C fl_X9_13 dX9_anew_198 ?_
                          refine x_iload_n C (pc := 201) dX9_anew_201 2 rfl rfl ?_
                          refine mL_kindOf C dX9_anew_202 (by assumption) ?_
                          refine x_top (y := ((am1 M 16) 2 (ix ((am1 M 16) 11 (ix i))))) rfl ?_
                          refine x_iconst C (pc := 203) (v := 2) dX9_anew_203 (by decide) ?_
                          refine x_icmp_ne C (pc := 204) (tgt := 215) dX9_anew_204 (by decide) (fun c204 => ?_) (fun c204 => ?_)
                          · refine x_iconst C (pc := 215) (v := 0) dX9_anew_215 (by decide) ?_
                            refine x_top (y := (mkV (M 2 (ix (M 11 (ix i)))) (vM_up M bl))) (by unfold mkV; (repeat (first | rw [if_pos (by assumption)] | rw [if_neg (by assumption)])) <;> first | rfl ) ?_
                            exact J216
                          · refine x_iload_n C (pc := 207) dX9_anew_207 3 rfl rfl ?_
                            refine x_if_le C (pc := 208) (tgt := 215) dX9_anew_208 (by decide) (fun c208 => ?_) (fun c208 => ?_)
                            · refine x_iconst C (pc := 215) (v := 0) dX9_anew_215 (by decide) ?_
                              refine x_top (y := (mkV (M 2 (ix (M 11 (ix i)))) (vM_up M bl))) (by unfold mkV; (repeat (first | rw [if_pos (by assumption)] | rw [if_neg (by assumption)])) <;> first | rfl ) ?_
                              exact J216
                            · refine x_iload_n C (pc := 211) dX9_anew_211 3 rfl rfl ?_
                              refine x_goto C (pc := 212) (tgt := 216) dX9_anew_212 (by decide) ?_
                              refine x_top (y := (mkV (M 2 (ix (M 11 (ix i)))) (vM_up M bl))) (by unfold mkV; (repeat (first | rw [if_pos (by assumption)] | rw [if_neg (by assumption)])) <;> first | rfl ) ?_
                              exact J216
                        · refine x_iload_n C (pc := 188) dX9_anew_188 3 rfl rfl ?_
                          refine x_iconst C (pc := 189) (v := (-1)) dX9_anew_189 (by decide) ?_
                          refine x_icmp_ge C (pc := 190) (tgt := 197) dX9_anew_190 (by decide) (fun c190 => ?_) (fun c190 => ?_)
                          · refine x_aload_n C (pc := 197) dX9_anew_197 0 rfl rfl ?_
                            refine mG_kindOf C fl_X9_13 dX9_anew_198 ?_
                            refine x_iload_n C (pc := 201) dX9_anew_201 2 rfl rfl ?_
                            refine mL_kindOf C dX9_anew_202 (by assumption) ?_
                            refine x_top (y := ((am1 M 16) 2 (ix ((am1 M 16) 11 (ix i))))) rfl ?_
                            refine x_iconst C (pc := 203) (v := 2) dX9_anew_203 (by decide) ?_
                            refine x_icmp_ne C (pc := 204) (tgt := 215) dX9_anew_204 (by decide) (fun c204 => ?_) (fun c204 => ?_)
                            · refine x_iconst C (pc := 215) (v := 0) dX9_anew_215 (by decide) ?_
                              refine x_top (y := (mkV (M 2 (ix (M 11 (ix i)))) (vM_up M bl))) (by unfold mkV; (repeat (first | rw [if_pos (by assumption)] | rw [if_neg (by assumption)])) <;> first | rfl ) ?_
                              exact J216
                            · refine x_iload_n C (pc := 207) dX9_anew_207 3 rfl rfl ?_
                              refine x_if_le C (pc := 208) (tgt := 215) dX9_anew_208 (by decide) (fun c208 => ?_) (fun c208 => ?_)
                              · refine x_iconst C (pc := 215) (v := 0) dX9_anew_215 (by decide) ?_
                                refine x_top (y := (mkV (M 2 (ix (M 11 (ix i)))) (vM_up M bl))) (by unfold mkV; (repeat (first | rw [if_pos (by assumption)] | rw [if_neg (by assumption)])) <;> first | rfl ) ?_
                                exact J216
                              · refine x_iload_n C (pc := 211) dX9_anew_211 3 rfl rfl ?_
                                refine x_goto C (pc := 212) (tgt := 216) dX9_anew_212 (by decide) ?_
                                refine x_top (y := (mkV (M 2 (ix (M 11 (ix i)))) (vM_up M bl))) (by unfold mkV; (repeat (first | rw [if_pos (by assumption)] | rw [if_neg (by assumption)])) <;> first | rfl ) ?_
                                exact J216
                          · refine x_iconst C (pc := 193) (v := 1) dX9_anew_193 (by decide) ?_
                            refine x_goto C (pc := 194) (tgt := 216) dX9_anew_194 (by decide) ?_
                            refine x_top (y := (mkV (M 2 (ix (M 11 (ix i)))) (vM_up M bl))) (by unfold mkV; (repeat (first | rw [if_pos (by assumption)] | rw [if_neg (by assumption)])) <;> first | rfl ) ?_
                            exact J216
                      refine x_aload_n C (pc := 144) dX9_anew_144 0 rfl rfl ?_
                      refine mG_whyOf C fl_X9_85 dX9_anew_145 ?_
                      refine x_iload_n C (pc := 148) dX9_anew_148 2 rfl rfl ?_
                      refine mL_whyOf C dX9_anew_149 (by assumption) ?_
                      refine x_top (y := bl) (ux_at _ _ _ _) ?_
                      refine x_bipush C (pc := 150) (v := (-9)) dX9_anew_150 (by decide) ?_
                      refine x_icmp_ne C (pc := 152) (tgt := 159) dX9_anew_152 (by decide) (fun c152 => ?_) (fun c152 => ?_)
                      · refine x_aload_n C (pc := 159) dX9_anew_159 0 rfl rfl ?_
                        refine mG_lineUp C fl_X9_82 dX9_anew_160 ?_
                        refine x_aload_n C (pc := 163) dX9_anew_163 0 rfl rfl ?_
                        refine mG_whyOf C fl_X9_85 dX9_anew_164 ?_
                        refine x_iload_n C (pc := 167) dX9_anew_167 2 rfl rfl ?_
                        refine mL_whyOf C dX9_anew_168 (by assumption) ?_
                        refine x_top (y := bl) (ux_at _ _ _ _) ?_
                        refine mL_lineUp C dX9_anew_169 (by exact lfr_vin2 hL12 hbl c152) ?_
                        refine x_top (y := ((am1 M 16) 24 (ix bl))) rfl ?_
                        refine x_top (y := (vM_up M bl)) (by unfold vM_up; (repeat (first | rw [if_pos (by assumption)] | rw [if_neg (by assumption)])) <;> first | rfl ) ?_
                        exact J170
                      · refine x_iconst C (pc := 155) (v := 0) dX9_anew_155 (by decide) ?_
                        refine x_goto C (pc := 156) (tgt := 170) dX9_anew_156 (by decide) ?_
                        refine x_top (y := (vM_up M bl)) (by unfold vM_up; (repeat (first | rw [if_pos (by assumption)] | rw [if_neg (by assumption)])) <;> first | rfl ) ?_
                        exact J170
                refine x_eqX (X' := (sr (sr (sr (sr (am1 M 16) 32 (recF (M 11) (M 32) 0)) 26 (recB (M 11) (zr (M 26) (-9) 16) 0)) 25 (whL M L 0)) 10 (mkL M L 0))) (am2_0 M L) ?_
                exact L95 _ 0 0 (Nat.zero_le _) rfl (Nat.lt_succ_self _)
              · have hlt : j < 16 := ltN hi (rfl : (16 : Int32) = nI 16) c41 (by omega)
                have hin : vp_in i 16 := by rw [hi]; exact vp_in_nI (by omega) (by decide)
                have hix : ix i = j := by rw [hi]; exact ix_nI (by omega)
                refine x_aload_n C (pc := 44) dX9_anew_44 0 rfl rfl ?_
                refine mG_scores C fl_X9_103 dX9_anew_45 ?_
                refine x_iload_n C (pc := 48) dX9_anew_48 1 rfl rfl ?_
                refine x_aload_n C (pc := 49) dX9_anew_49 0 rfl rfl ?_
                refine mG_winsOf C fl_X9_29 dX9_anew_50 ?_
                refine x_iload_n C (pc := 53) dX9_anew_53 1 rfl rfl ?_
                refine mL_winsOf C dX9_anew_54 (by assumption) ?_
                refine x_top (y := (M 7 (ix i))) rfl ?_
                refine x_aload_n C (pc := 55) dX9_anew_55 0 rfl rfl ?_
                refine mG_lossesOf C fl_X9_32 dX9_anew_56 ?_
                refine x_iload_n C (pc := 59) dX9_anew_59 1 rfl rfl ?_
                refine mL_lossesOf C dX9_anew_60 (by assumption) ?_
                refine x_top (y := (M 8 (ix i))) rfl ?_
                refine x_isub C (pc := 61) dX9_anew_61 ?_
                refine mS_scores C dX9_anew_62 (by assumption) ?_
                refine x_aload_n C (pc := 63) dX9_anew_63 0 rfl rfl ?_
                refine mG_whyOf C fl_X9_85 dX9_anew_64 ?_
                refine x_iload_n C (pc := 67) dX9_anew_67 1 rfl rfl ?_
                refine x_bipush C (pc := 68) (v := (-9)) dX9_anew_68 (by decide) ?_
                refine mS_whyOf C dX9_anew_70 (by assumption) ?_
                refine x_aload_n C (pc := 71) dX9_anew_71 0 rfl rfl ?_
                refine mG_oldRung C fl_X9_88 dX9_anew_72 ?_
                refine x_iload_n C (pc := 75) dX9_anew_75 1 rfl rfl ?_
                refine x_bipush C (pc := 76) (v := (-9)) dX9_anew_76 (by decide) ?_
                refine mS_oldRung C dX9_anew_78 (by assumption) ?_
                refine x_aload_n C (pc := 79) dX9_anew_79 0 rfl rfl ?_
                refine mG_writtenRung C fl_X9_91 dX9_anew_80 ?_
                refine x_iload_n C (pc := 83) dX9_anew_83 1 rfl rfl ?_
                refine x_bipush C (pc := 84) (v := (-9)) dX9_anew_84 (by decide) ?_
                refine mS_writtenRung C dX9_anew_86 (by assumption) ?_
                refine x_iinc C (pc := 87) (v := i + 1) dX9_anew_87 1 [(0, .ref (G.1 0)), (1, .int (i + 1))] [1, 0] rfl (by rfl) (by decide) rfl ?_
                refine x_goto C (pc := 90) (tgt := 38) dX9_anew_90 (by decide) ?_
                refine x_eqX (X' := (sr (sr (sr (sr M 31 (scZ (M 7) (M 8) (M 31) (j + 1))) 25 (zr (M 25) (-9) (j + 1))) 26 (zr (M 26) (-9) (j + 1))) 27 (zr (M 27) (-9) (j + 1)))) (by rw [hix]; (repeat (first | rw [ux_srs] | rw [ux_srn _ _ _ _ (by decide)])); rw [scZ_step, zr_step, zr_step, zr_step]) ?_
                exact ih38 (i + 1) (j + 1) (by omega) (by rw [hi]; exact nI_1 j) (by omega)
          refine x_eqX (X' := (sr (sr (sr (sr M 31 (scZ (M 7) (M 8) (M 31) 0)) 25 (zr (M 25) (-9) 0)) 26 (zr (M 26) (-9) 0)) 27 (zr (M 27) (-9) 0))) (am1_0 M) ?_
          exact L38 _ 0 0 (Nat.zero_le _) rfl (Nat.lt_succ_self _)
        · refine x_bipush C (pc := 33) (v := (-4)) dX9_anew_33 (by decide) ?_
          exact ret (-4) M 35 _ dX9_anew_35 ⟨by unfold vM_anew; (repeat (first | rw [if_pos (by assumption)] | rw [if_neg (by assumption)])) <;> first | rfl , by unfold sM_anew; (repeat (first | rw [if_pos (by assumption)] | rw [if_neg (by assumption)])) <;> first | rfl ⟩
set_option maxHeartbeats 4000000 in
set_option maxRecDepth 100000 in
theorem c_X9_beside (l : Launch) (D : va_G) (G : Gx) (B L N : Nat) (M : St) (k : Int32) (hBt : (M 107 0) = nI B) (hB120 : B ≤ 120) (hS : (M 102 0) = nI N) (hN16 : N ≤ 16) (hF : ∀ r, r < N → vp_in ((M 32) r) 16) (hL : (M 115 0) = nI L) (hL12 : L ≤ 12) : Ci l yX9_beside cX9_beside 4 (some .int) 3 (mw G) D (tyG G) [.ref (G.1 0), .int k] M (fun r X1 => r = (vM_beside M k L N) ∧ X1 = (sM_beside M k L N)) := by
  refine m_i (nL := 4) (lv := [(0, .ref (G.1 0)), (1, .int k)]) [.ref (G.1 0), .int k] RX9 rfl (mw_adr G) (by decide +kernel) (Nat.le_of_ble_eq_true rfl) rfl (fun K C ret => ?_)
  refine x_iload_n C (pc := 0) dX9_beside_0 1 rfl rfl ?_
  refine x_iconst C (pc := 1) (v := 0) dX9_beside_1 (by decide) ?_
  refine x_aload_n C (pc := 2) dX9_beside_2 0 rfl rfl ?_
  refine mG_bouts C fl_X9_170 dX9_beside_3 ?_
  refine x_iconst C (pc := 6) (v := 1) dX9_beside_6 (by decide) ?_
  refine x_isub C (pc := 7) dX9_beside_7 ?_
  refine x_callSi C (pc := 8) [.int k, .int 0, .int ((M 107 0) - 1)] (fun l D => c_X9_in l D G M k 0 ((M 107 0) - 1) ) ml_X9_122 co_X9_in st_X9_in in_X9 hy_X9_in.2 (by decide) (by decide) (Nat.le_of_ble_eq_true rfl) dX9_beside_8 rfl (kx ?_)
  refine x_if_ne C (pc := 11) (tgt := 16) dX9_beside_11 (by decide) (fun c11 => ?_) (fun c11 => ?_)
  · obtain ⟨hk, hkB⟩ := vinB_in c11 hBt hB120
    refine x_aload_n C (pc := 16) dX9_beside_16 0 rfl rfl ?_
    refine mG_isWritten C fl_X9_136 dX9_beside_17 ?_
    refine x_if_ne C (pc := 20) (tgt := 26) dX9_beside_20 (by decide) (fun c20 => ?_) (fun c20 => ?_)
    · refine x_iconst C (pc := 26) (v := 0) dX9_beside_26 (by decide) ?_
      refine x_istore_n C (pc := 27) dX9_beside_27 [(0, .ref (G.1 0)), (1, .int k), (2, .int 0)] [1, 2, 0] rfl (by decide) rfl ?_
      have L28 : ∀ (nu : Nat) (i : Int32) (j : Nat), (j ≤ 16) → (i = nI j) → (16 - j) < nu → WX K (mw G) 4 (sr (sr M 31 (bsZ M k j)) 28 (zr (M 28) (-9) j)) 28 [(0, .ref (G.1 0)), (1, .int k), (2, .int i)] [] := by
        intro nu
        induction nu with
        | zero => intro i j hj hi hmu28; exact absurd hmu28 (Nat.not_lt_zero _)
        | succ n28 ih28 =>
          intro i j hj hi hmu28
          refine x_iload_n C (pc := 28) dX9_beside_28 2 rfl rfl ?_
          refine x_bipush C (pc := 29) (v := 16) dX9_beside_29 (by decide) ?_
          refine x_icmp_ge C (pc := 31) (tgt := 117) dX9_beside_31 (by decide) (fun c31 => ?_) (fun c31 => ?_)
          · have hj16 : j = 16 := by have hge9 : 16 ≤ j := geN hi (rfl : (16 : Int32) = nI 16) c31 (by decide); omega
            have hodin : ∀ r, r < N → vp_in (bm2 M k L N 30 r) 16 := fun r hr => odL_in N hF r hr
            clear hi hj
            refine x_eqX (X' := (bm1 M k 16)) (by rw [hj16]; rfl) ?_
            refine x_aload_n C (pc := 117) dX9_beside_117 0 rfl rfl ?_
            refine x_aload_n C (pc := 118) dX9_beside_118 0 rfl rfl ?_
            refine mG_boardBefore C fl_X9_106 dX9_beside_119 ?_
            refine x_aload_n C (pc := 122) dX9_beside_122 0 rfl rfl ?_
            refine mG_scores C fl_X9_103 dX9_beside_123 ?_
            refine x_aload_n C (pc := 126) dX9_beside_126 0 rfl rfl ?_
            refine mG_writtenLines C fl_X9_223 dX9_beside_127 ?_
            refine x_callVv C (pc := 130) [.ref (G.1 32), .ref (G.1 31), .int ((bm1 M k 16) 115 0)] (fun l D => c_X9_order l D G L N (bm1 M k 16) ((bm1 M k 16) 115 0) hS hN16 hF hL hL12) (me_0 G _) rfl ml_X9_219 co_X9_order im_X9_order se_X9_order in_X9 hy_X9_order (by decide) (by decide) (Nat.le_of_ble_eq_true rfl) dX9_beside_130 rfl (kxv ?_)
            refine x_eqX (X' := (bm2 M k L N)) rfl ?_
            refine x_iconst C (pc := 133) (v := 0) dX9_beside_133 (by decide) ?_
            refine x_istore_n C (pc := 134) dX9_beside_134 [(0, .ref (G.1 0)), (1, .int k), (2, .int 0)] [1, 2, 0] rfl (by decide) rfl ?_
            refine x_iconst C (pc := 135) (v := 0) dX9_beside_135 (by decide) ?_
            refine x_istore_n C (pc := 136) dX9_beside_136 [(0, .ref (G.1 0)), (1, .int k), (2, .int 0), (3, .int 0)] [1, 2, 3, 0] rfl (by decide) rfl ?_
            have L137 : ∀ (nu : Nat) (a : Int32) (i : Int32) (j : Nat), (j ≤ N) → (i = nI j) → (a = ctL (bm2 M k L N 30) (M 27) j) → (N - j) < nu → WX K (mw G) 4 (sr (bm2 M k L N) 28 (recB (bm2 M k L N 30) (zr (M 28) (-9) 16) j)) 137 [(0, .ref (G.1 0)), (1, .int k), (2, .int a), (3, .int i)] [] := by
              intro nu
              induction nu with
              | zero => intro a i j hj hi ha hmu137; exact absurd hmu137 (Nat.not_lt_zero _)
              | succ n137 ih137 =>
                intro a i j hj hi ha hmu137
                refine x_iload_n C (pc := 137) dX9_beside_137 3 rfl rfl ?_
                refine x_aload_n C (pc := 138) dX9_beside_138 0 rfl rfl ?_
                refine mG_there C fl_X9_126 dX9_beside_139 ?_
                refine x_top (y := ((bm2 M k L N) 102 0)) rfl ?_
                refine x_icmp_ge C (pc := 142) (tgt := 186) dX9_beside_142 (by decide) (fun c142 => ?_) (fun c142 => ?_)
                · have hjN2 : j = N := by have := geN hi hS c142 (by omega); omega
                  refine x_iload_n C (pc := 186) dX9_beside_186 2 rfl rfl ?_
                  exact ret a (sr (bm2 M k L N) 28 (recB (bm2 M k L N 30) (zr (M 28) (-9) 16) j)) 187 _ dX9_beside_187 ⟨by rw [ha, hjN2]; unfold vM_beside; rw [if_neg c11, if_neg c20], by unfold sM_beside; rw [if_neg c11, if_neg c20, hjN2]⟩
                · have hlt : j < N := ltN hi hS c142 (by omega)
                  have hin : vp_in i 16 := by rw [hi]; exact vp_in_nI (by omega) (by decide)
                  have hix : ix i = j := by rw [hi]; exact ix_nI (by omega)
                  have hin2 : vp_in (bm2 M k L N 30 (ix i)) 16 := by rw [hix]; exact hodin j hlt
                  refine x_aload_n C (pc := 145) dX9_beside_145 0 rfl rfl ?_
                  refine mG_besideRung C fl_X9_94 dX9_beside_146 ?_
                  refine x_aload_n C (pc := 149) dX9_beside_149 0 rfl rfl ?_
                  refine mG_ordered C fl_X9_100 dX9_beside_150 ?_
                  refine x_iload_n C (pc := 153) dX9_beside_153 3 rfl rfl ?_
                  refine mL_ordered C dX9_beside_154 (by assumption) ?_
                  refine x_top (y := ((bm2 M k L N) 30 (ix i))) rfl ?_
                  refine x_iload_n C (pc := 155) dX9_beside_155 3 rfl rfl ?_
                  refine mS_besideRung C dX9_beside_156 (by assumption) ?_
                  refine x_iload_n C (pc := 157) dX9_beside_157 2 rfl rfl ?_
                  have J178 : WX K (mw G) 4 (ux (sr (bm2 M k L N) 28 (recB (bm2 M k L N 30) (zr (M 28) (-9) 16) j)) 28 (ix ((bm2 M k L N) 30 (ix i))) i) 178 [(0, .ref (G.1 0)), (1, .int k), (2, .int a), (3, .int i)] [.int (if (M 27 (ix (bm2 M k L N 30 (ix i)))) = i then 0 else 1), .int a] := by
                    refine x_iadd C (pc := 178) dX9_beside_178 ?_
                    refine x_istore_n C (pc := 179) dX9_beside_179 [(0, .ref (G.1 0)), (1, .int k), (2, .int (a + (if (M 27 (ix (bm2 M k L N 30 (ix i)))) = i then 0 else 1))), (3, .int i)] [1, 2, 0, 3] rfl (by decide) rfl ?_
                    refine x_iinc C (pc := 180) (v := i + 1) dX9_beside_180 3 [(0, .ref (G.1 0)), (1, .int k), (2, .int (a + (if (M 27 (ix (bm2 M k L N 30 (ix i)))) = i then 0 else 1))), (3, .int (i + 1))] [1, 2, 3, 0] rfl (by rfl) (by decide) rfl ?_
                    refine x_goto C (pc := 183) (tgt := 137) dX9_beside_183 (by decide) ?_
                    refine x_eqX (X' := (sr (bm2 M k L N) 28 (recB (bm2 M k L N 30) (zr (M 28) (-9) 16) (j + 1)))) (by rw [hix, hi, ux_srs, recB]) ?_
                    exact ih137 (a + (if (M 27 (ix (bm2 M k L N 30 (ix i)))) = i then 0 else 1)) (i + 1) (j + 1) (by omega) (by rw [hi]; exact nI_1 j) (by rw [ctL, ha, hix, hi]) (by omega)
                  refine x_aload_n C (pc := 158) dX9_beside_158 0 rfl rfl ?_
                  refine mG_writtenRung C fl_X9_91 dX9_beside_159 ?_
                  refine x_aload_n C (pc := 162) dX9_beside_162 0 rfl rfl ?_
                  refine mG_ordered C fl_X9_100 dX9_beside_163 ?_
                  refine x_iload_n C (pc := 166) dX9_beside_166 3 rfl rfl ?_
                  refine mL_ordered C dX9_beside_167 (by assumption) ?_
                  refine x_top (y := ((bm2 M k L N) 30 (ix i))) rfl ?_
                  refine mL_writtenRung C dX9_beside_168 (by assumption) ?_
                  refine x_top (y := ((bm2 M k L N) 27 (ix ((bm2 M k L N) 30 (ix i))))) rfl ?_
                  refine x_top (y := (M 27 (ix (bm2 M k L N 30 (ix i))))) (rfl) ?_
                  refine x_iload_n C (pc := 169) dX9_beside_169 3 rfl rfl ?_
                  refine x_icmp_ne C (pc := 170) (tgt := 177) dX9_beside_170 (by decide) (fun c170 => ?_) (fun c170 => ?_)
                  · refine x_iconst C (pc := 177) (v := 1) dX9_beside_177 (by decide) ?_
                    refine x_top (y := (if (M 27 (ix (bm2 M k L N 30 (ix i)))) = i then 0 else 1)) ((if_neg c170).symm) ?_
                    exact J178
                  · refine x_iconst C (pc := 173) (v := 0) dX9_beside_173 (by decide) ?_
                    refine x_goto C (pc := 174) (tgt := 178) dX9_beside_174 (by decide) ?_
                    refine x_top (y := (if (M 27 (ix (bm2 M k L N 30 (ix i)))) = i then 0 else 1)) ((if_pos c170).symm) ?_
                    exact J178
            refine x_eqX (X' := (sr (bm2 M k L N) 28 (recB (bm2 M k L N 30) (zr (M 28) (-9) 16) 0))) (bm2_0 M k L N) ?_
            exact L137 _ 0 0 0 (Nat.zero_le _) rfl rfl (Nat.lt_succ_self _)
          · have hlt : j < 16 := ltN hi (rfl : (16 : Int32) = nI 16) c31 (by omega)
            have hin : vp_in i 16 := by rw [hi]; exact vp_in_nI (by omega) (by decide)
            have hix : ix i = j := by rw [hi]; exact ix_nI (by omega)
            have J59 : WX K (mw G) 4 (sr (sr M 31 (bsZ M k j)) 28 (zr (M 28) (-9) j)) 59 [(0, .ref (G.1 0)), (1, .int k), (2, .int i)] [.int (wsB M k i)] := by
              refine x_istore_n C (pc := 59) dX9_beside_59 [(0, .ref (G.1 0)), (1, .int k), (2, .int i), (3, .int (wsB M k i))] [1, 2, 3, 0] rfl (by decide) rfl ?_
              refine x_aload_n C (pc := 60) dX9_beside_60 0 rfl rfl ?_
              refine mG_scores C fl_X9_103 dX9_beside_61 ?_
              refine x_iload_n C (pc := 64) dX9_beside_64 2 rfl rfl ?_
              refine x_aload_n C (pc := 65) dX9_beside_65 0 rfl rfl ?_
              refine mG_winsOf C fl_X9_29 dX9_beside_66 ?_
              refine x_iload_n C (pc := 69) dX9_beside_69 2 rfl rfl ?_
              refine mL_winsOf C dX9_beside_70 (by assumption) ?_
              refine x_top (y := (M 7 (ix i))) rfl ?_
              refine x_aload_n C (pc := 71) dX9_beside_71 0 rfl rfl ?_
              refine mG_lossesOf C fl_X9_32 dX9_beside_72 ?_
              refine x_iload_n C (pc := 75) dX9_beside_75 2 rfl rfl ?_
              refine mL_lossesOf C dX9_beside_76 (by assumption) ?_
              refine x_top (y := (M 8 (ix i))) rfl ?_
              refine x_isub C (pc := 77) dX9_beside_77 ?_
              have J101 : WX K (mw G) 4 (sr (sr M 31 (bsZ M k j)) 28 (zr (M 28) (-9) j)) 101 [(0, .ref (G.1 0)), (1, .int k), (2, .int i), (3, .int (wsB M k i))] [.int (wsC M k i), .int ((M 7 (ix i)) - (M 8 (ix i))), .int i, .ref (G.1 31)] := by
                refine x_iadd C (pc := 101) dX9_beside_101 ?_
                refine mS_scores C dX9_beside_102 (by assumption) ?_
                refine x_aload_n C (pc := 103) dX9_beside_103 0 rfl rfl ?_
                refine mG_besideRung C fl_X9_94 dX9_beside_104 ?_
                refine x_iload_n C (pc := 107) dX9_beside_107 2 rfl rfl ?_
                refine x_bipush C (pc := 108) (v := (-9)) dX9_beside_108 (by decide) ?_
                refine mS_besideRung C dX9_beside_110 (by assumption) ?_
                refine x_iinc C (pc := 111) (v := i + 1) dX9_beside_111 2 [(0, .ref (G.1 0)), (1, .int k), (2, .int (i + 1)), (3, .int (wsB M k i))] [1, 2, 0, 3] rfl (by rfl) (by decide) rfl ?_
                refine x_goto C (pc := 114) (tgt := 28) dX9_beside_114 (by decide) ?_
                refine x_sub [(0, .ref (G.1 0)), (1, .int k), (2, .int (i + 1))] [0, 1, 2] rfl ?_
                refine x_eqX (X' := (sr (sr M 31 (bsZ M k (j + 1))) 28 (zr (M 28) (-9) (j + 1)))) (by rw [hix, hi, wsC_eq]; (repeat (first | rw [ux_srs] | rw [ux_srn _ _ _ _ (by decide)])); rw [bsZ_step, zr_step]) ?_
                exact ih28 (i + 1) (j + 1) (by omega) (by rw [hi]; exact nI_1 j) (by omega)
              refine x_iload_n C (pc := 78) dX9_beside_78 3 rfl rfl ?_
              refine x_if_eq C (pc := 79) (tgt := 100) dX9_beside_79 (by decide) (fun c79 => ?_) (fun c79 => ?_)
              · refine x_iconst C (pc := 100) (v := 0) dX9_beside_100 (by decide) ?_
                refine x_top (y := (wsC M k i)) (by unfold wsC; (repeat (first | rw [if_pos (by assumption)] | rw [if_neg (by assumption)])) <;> first | rfl ) ?_
                exact J101
              · refine x_iload_n C (pc := 82) dX9_beside_82 2 rfl rfl ?_
                refine x_aload_n C (pc := 83) dX9_beside_83 0 rfl rfl ?_
                refine mG_boutWon C fl_X9_63 dX9_beside_84 ?_
                refine x_iload_n C (pc := 87) dX9_beside_87 1 rfl rfl ?_
                refine mL_boutWon C dX9_beside_88 (by assumption) ?_
                refine x_top (y := (M 18 (ix k))) rfl ?_
                refine x_icmp_ne C (pc := 89) (tgt := 96) dX9_beside_89 (by decide) (fun c89 => ?_) (fun c89 => ?_)
                · refine x_iconst C (pc := 96) (v := 1) dX9_beside_96 (by decide) ?_
                  refine x_goto C (pc := 97) (tgt := 101) dX9_beside_97 (by decide) ?_
                  refine x_top (y := (wsC M k i)) (by unfold wsC; (repeat (first | rw [if_pos (by assumption)] | rw [if_neg (by assumption)])) <;> first | rfl ) ?_
                  exact J101
                · refine x_iconst C (pc := 92) (v := (-1)) dX9_beside_92 (by decide) ?_
                  refine x_goto C (pc := 93) (tgt := 101) dX9_beside_93 (by decide) ?_
                  refine x_top (y := (wsC M k i)) (by unfold wsC; (repeat (first | rw [if_pos (by assumption)] | rw [if_neg (by assumption)])) <;> first | rfl ) ?_
                  exact J101
            refine x_iload_n C (pc := 34) dX9_beside_34 2 rfl rfl ?_
            refine x_aload_n C (pc := 35) dX9_beside_35 0 rfl rfl ?_
            refine mG_boutUpper C fl_X9_57 dX9_beside_36 ?_
            refine x_iload_n C (pc := 39) dX9_beside_39 1 rfl rfl ?_
            refine mL_boutUpper C dX9_beside_40 (by assumption) ?_
            refine x_top (y := (M 16 (ix k))) rfl ?_
            refine x_icmp_eq C (pc := 41) (tgt := 54) dX9_beside_41 (by decide) (fun c41 => ?_) (fun c41 => ?_)
            · refine x_iconst C (pc := 54) (v := 1) dX9_beside_54 (by decide) ?_
              refine x_goto C (pc := 55) (tgt := 59) dX9_beside_55 (by decide) ?_
              refine x_top (y := (wsB M k i)) (by unfold wsB; (repeat (first | rw [if_pos (by assumption)] | rw [if_neg (by assumption)])) <;> first | rfl ) ?_
              exact J59
            · refine x_iload_n C (pc := 44) dX9_beside_44 2 rfl rfl ?_
              refine x_aload_n C (pc := 45) dX9_beside_45 0 rfl rfl ?_
              refine mG_boutLower C fl_X9_60 dX9_beside_46 ?_
              refine x_iload_n C (pc := 49) dX9_beside_49 1 rfl rfl ?_
              refine mL_boutLower C dX9_beside_50 (by assumption) ?_
              refine x_top (y := (M 17 (ix k))) rfl ?_
              refine x_icmp_ne C (pc := 51) (tgt := 58) dX9_beside_51 (by decide) (fun c51 => ?_) (fun c51 => ?_)
              · refine x_iconst C (pc := 58) (v := 0) dX9_beside_58 (by decide) ?_
                refine x_top (y := (wsB M k i)) (by unfold wsB; (repeat (first | rw [if_pos (by assumption)] | rw [if_neg (by assumption)])) <;> first | rfl ) ?_
                exact J59
              · refine x_iconst C (pc := 54) (v := 1) dX9_beside_54 (by decide) ?_
                refine x_goto C (pc := 55) (tgt := 59) dX9_beside_55 (by decide) ?_
                refine x_top (y := (wsB M k i)) (by unfold wsB; (repeat (first | rw [if_pos (by assumption)] | rw [if_neg (by assumption)])) <;> first | rfl ) ?_
                exact J59
      refine x_eqX (X' := (sr (sr M 31 (bsZ M k 0)) 28 (zr (M 28) (-9) 0))) (bm1_0 M k) ?_
      exact L28 _ 0 0 (Nat.zero_le _) rfl (Nat.lt_succ_self _)
    · refine x_bipush C (pc := 23) (v := (-4)) dX9_beside_23 (by decide) ?_
      exact ret (-4) M 25 _ dX9_beside_25 ⟨by unfold vM_beside; (repeat (first | rw [if_pos (by assumption)] | rw [if_neg (by assumption)])) <;> first | rfl , by unfold sM_beside; (repeat (first | rw [if_pos (by assumption)] | rw [if_neg (by assumption)])) <;> first | rfl ⟩
  · refine x_iconst C (pc := 14) (v := (-1)) dX9_beside_14 (by decide) ?_
    exact ret (-1) M 15 _ dX9_beside_15 ⟨by unfold vM_beside; (repeat (first | rw [if_pos (by assumption)] | rw [if_neg (by assumption)])) <;> first | rfl , by unfold sM_beside; (repeat (first | rw [if_pos (by assumption)] | rw [if_neg (by assumption)])) <;> first | rfl ⟩
