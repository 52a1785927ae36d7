
def ME (c : Nat → Nat → Option Nat) (n : Nat) (wh : Nat → Int32) (M : St) : Nat → St
  | 0 => ux M 110 0 0
  | p + 1 => if fT c n p p = true then (match sel c n p (fT c n p) with
    | none => ux (ME c n wh M p) 110 0 (ME c n wh M p 110 0 ||| (1 <<< (wh p &&& 31)))
    | some q => sM_addBout (ME c n wh M p) (wh p) (wh q)) else ME c n wh M p
theorem addM_row (M : St) (u v : Int32) {a : Nat} (h1 : a ≠ 15) (h2 : a ≠ 16) (h3 : a ≠ 17) (h4 : a ≠ 18) (h5 : a ≠ 107) (h6 : a ≠ 108) : sM_addBout M u v a = M a := by
  unfold sM_addBout
  simp only [ux_ne _ _ _ h1, ux_ne _ _ _ h2, ux_ne _ _ _ h3, ux_ne _ _ _ h4, ux_ne _ _ _ h5, ux_ne _ _ _ h6]
theorem ME_row (c : Nat → Nat → Option Nat) (n : Nat) (wh : Nat → Int32) (M : St) {a : Nat} (h0 : a ≠ 110) (h1 : a ≠ 15) (h2 : a ≠ 16) (h3 : a ≠ 17) (h4 : a ≠ 18) (h5 : a ≠ 107) (h6 : a ≠ 108) : ∀ p, ME c n wh M p a = M a
  | 0 => ux_ne _ _ _ h0
  | p + 1 => by
    have ih := ME_row c n wh M h0 h1 h2 h3 h4 h5 h6 p
    by_cases hf : fT c n p p = true
    · cases hs : sel c n p (fT c n p) with
      | none =>
        rw [ME, if_pos hf, hs]
        show ux _ _ _ _ a = _
        rw [ux_ne _ _ _ h0, ih]
      | some q =>
        rw [ME, if_pos hf, hs]
        show sM_addBout _ _ _ a = _
        rw [addM_row _ _ _ h1 h2 h3 h4 h5 h6, ih]
    · rw [ME, if_neg hf, ih]
theorem ME_r1 (c : Nat → Nat → Option Nat) (n : Nat) (wh : Nat → Int32) (M : St) (p : Nat) {a : Nat} (h : a ∈ [19, 111, 20, 21, 102, 11, 6, 8, 106]) : ME c n wh M p a = M a := by
  simp only [List.mem_cons, List.not_mem_nil, or_false] at h
  rcases h with rfl | rfl | rfl | rfl | rfl | rfl | rfl | rfl | rfl <;> exact ME_row c n wh M (by decide) (by decide) (by decide) (by decide) (by decide) (by decide) (by decide) p
theorem ME_bouts (c : Nat → Nat → Option Nat) (n : Nat) (wh : Nat → Int32) (M : St) (B : Nat) (hB : (M 107 0) = nI B) : ∀ p, ME c n wh M p 107 0 = nI (B + cE c n p)
  | 0 => hB
  | p + 1 => by
    have ih := ME_bouts c n wh M B hB p
    unfold ME cE
    cases hf : fT c n p p with
    | false => simp only [Bool.false_eq_true, if_false]; exact ih
    | true =>
      simp only [if_true]
      cases hs : sel c n p (fT c n p) with
      | none => exact ih
      | some q =>
        show ME c n wh M p 107 0 + 1 = _
        rw [ih, nI_1]
        rfl
theorem stay (c : Nat → Nat → Option Nat) (n : Nat) (wh : Nat → Int32) (M : St) {p : Nat} : ∀ d, (∀ q, p ≤ q → q < p + d → fT c n p q = false) → fT c n (p + d) = fT c n p ∧ ME c n wh M (p + d) = ME c n wh M p ∧ cE c n (p + d) = cE c n p
  | 0, _ => ⟨rfl, rfl, rfl⟩
  | d + 1, h => by
    obtain ⟨h1, h2, h3⟩ := stay c n wh M d (fun q a b => h q a (by omega))
    have hf : fT c n (p + d) (p + d) = false := by rw [h1]; exact h (p + d) (by omega) (by omega)
    refine ⟨?_, ?_, ?_⟩
    · rw [show p + (d + 1) = (p + d) + 1 by omega, fT_off hf, h1]
    · rw [show p + (d + 1) = (p + d) + 1 by omega, ME, if_neg (by rw [hf]; decide), h2]
    · rw [show p + (d + 1) = (p + d) + 1 by omega, cE, if_neg (by rw [hf]; decide), h3]
def lsM (aw bd ls : Nat → Int32) : Nat → Nat → Int32
  | 0 => ls
  | r + 1 => upd (lsM aw bd ls r) (ix (bd r)) (lsM aw bd ls r (ix (bd r)) + (if aw (ix (bd r)) = 0 then 0 else 1))
def sM_enter (c : Nat → Nat → Option Nat) (n N : Nat) (wh : Nat → Int32) (M : St) : St := ux (sr (ME c n wh M n) 8 (lsM (M 6) (M 11) (M 8) N)) 106 0 ((M 106 0) + 1)
def cM (M : St) (B N : Nat) : Nat → Nat → Option Nat := fun p q => if vM_chg M (whM M N p) (whM M N q) B N = (-9) then none else some (ix (vM_chg M (whM M N p) (whM M N q) B N))
def isFM (a : Nat) : Bool := a == 19 || a == 20 || a == 21 || a == 111
def goDM (M : St) : Prop := ¬ (M 103 0) = 0 ∧ ¬ 0 < (M 108 0) ∧ ¬ (M 106 0) = (M 105 0)
def vM_draw (M : St) (B N : Nat) : Int32 := if (M 103 0) = 0 then (-4) else if 0 < (M 108 0) then (-4) else if (M 106 0) = (M 105 0) then (-4) else nI (cE (cM M B N) (nM M N) (nM M N))
def pM_draw (M : St) (B N : Nat) (M1 : St) : Prop := (¬ goDM M ∧ M1 = M) ∨ (goDM M ∧ ∃ Z, (∀ a, isFM a = false → Z a = ux M 109 0 (nI (lpc (cM M B N) (nM M N) (nM M N) (fun _ => true))) a) ∧ M1 = sM_enter (cM M B N) (nM M N) N (whM M N) Z)
theorem FCM_draw {M : St} {B N : Nat} (hN : N ≤ 16) (hch : ∀ p q, p < q → q < nM M N → vM_chg M (whM M N p) (whM M N q) B N = (-9) ∨ ∃ w, w ≤ 2000000 ∧ vM_chg M (whM M N p) (whM M N q) B N = nI w) : FCM (cM M B N) (nM M N) (lpM M B N) := by
  have hn : nM M N ≤ 16 := Nat.le_trans (plC_le _ _ _ _) hN
  refine ⟨hn, rfl, fun p q hp hq => ?_⟩
  have e : lpM M B N 20 (16 * p + q) = vM_chg M (whM M N p) (whM M N q) B N := by
    show pcR M (whM M N) B N (nM M N) (nM M N) (nM M N + 1) (16 * p + q) = _
    exact pcR_at (by omega) hp hq hn
  rw [e]
  unfold cM
  rcases hch p q hp hq with h | ⟨w, h1, h2⟩
  · exact Or.inl ⟨if_pos h, h⟩
  · exact Or.inr ⟨w, by rw [if_neg (by rw [h2]; exact nI_m9 (by omega)), h2, ix_nI (by omega)], h1, h2⟩
set_option maxHeartbeats 4000000 in
set_option maxRecDepth 100000 in
theorem c_X9_draw (l : Launch) (D : va_G) (G : Gx) (B N : Nat) (M : St)  (hS : (M 102 0) = nI N) (hN16 : N ≤ 16) (hB : ∀ r, r < N → vp_in ((M 11) r) 16) (hBt : (M 107 0) = nI B) (hB120 : B ≤ 120) (hB112 : goDM M → B + 8 ≤ 120) (ht : (M 104 0) ≠ (-9) → vp_in (M 104 0) 4) (hZ : ∀ j, j < 4 → (M 12) j = (-1) ∨ ∃ z, z ≤ 16 ∧ (M 12) j = nI z) (hk : ∀ p q, p < q → q < nM M N → ∃ k, k < 2 ^ 31 ∧ vM_abs ((M 7) (ix (whM M N p)) - (M 7) (ix (whM M N q))) = nI k) (hch : ∀ p q, p < q → q < nM M N → vM_chg M (whM M N p) (whM M N q) B N = (-9) ∨ ∃ w, w ≤ 2000000 ∧ vM_chg M (whM M N p) (whM M N q) B N = nI w) : Ci l yX9_draw cX9_draw 8 (some .int) 2 (mw G) D (tyG G) [.ref (G.1 0)] M (fun r X1 => r = vM_draw M B N ∧ pM_draw M B N X1) := by
  refine m_i (nL := 8) (lv := [(0, .ref (G.1 0))]) [.ref (G.1 0)] RX9 rfl (mw_adr G) (by decide +kernel) (Nat.le_of_ble_eq_true rfl) rfl (fun K C ret => ?_)
  refine x_aload_n C (pc := 0) dX9_draw_0 0 rfl rfl ?_
  refine mG_isMeet C fl_X9_132 dX9_draw_1 ?_
  refine x_if_eq C (pc := 4) (tgt := 25) dX9_draw_4 (by decide) (fun c4 => ?_) (fun c4 => ?_)
  · refine x_bipush C (pc := 25) (v := (-4)) dX9_draw_25 (by decide) ?_
    exact ret (-4) M 27 _ dX9_draw_27 ⟨by unfold vM_draw; rw [if_pos c4], Or.inl ⟨fun h => h.1 c4, rfl⟩⟩
  · refine x_aload_n C (pc := 7) dX9_draw_7 0 rfl rfl ?_
    refine mG_lacking C fl_X9_173 dX9_draw_8 ?_
    refine x_if_gt C (pc := 11) (tgt := 25) dX9_draw_11 (by decide) (fun c11 => ?_) (fun c11 => ?_)
    · refine x_bipush C (pc := 25) (v := (-4)) dX9_draw_25 (by decide) ?_
      exact ret (-4) M 27 _ dX9_draw_27 ⟨by unfold vM_draw; rw [if_neg c4, if_pos c11], Or.inl ⟨fun h => h.2.1 c11, rfl⟩⟩
    · refine x_aload_n C (pc := 14) dX9_draw_14 0 rfl rfl ?_
      refine mG_drawn C fl_X9_167 dX9_draw_15 ?_
      refine x_aload_n C (pc := 18) dX9_draw_18 0 rfl rfl ?_
      refine mG_days C fl_X9_164 dX9_draw_19 ?_
      refine x_icmp_ne C (pc := 22) (tgt := 28) dX9_draw_22 (by decide) (fun c22 => ?_) (fun c22 => ?_)
      · have hgo : goDM M := ⟨c4, c11, c22⟩
        have hFC := FCM_draw (B := B) hN16 hch
        have hB8 := hB112 hgo
        obtain ⟨n, hn⟩ : ∃ n, n = nM M N := ⟨_, rfl⟩
        obtain ⟨c, hc⟩ : ∃ c, c = cM M B N := ⟨_, rfl⟩
        rw [← hn, ← hc] at hFC
        obtain ⟨hn16, hpm, hpc⟩ := id hFC
        have h2p : 0 < 2 ^ n := Nat.pow_pos (by decide)
        have h216 : 2 ^ n ≤ 2 ^ 16 := Nat.pow_le_pow_right (by decide) hn16
        have hwin : ∀ r, r < n → vp_in (whM M N r) 16 := by rw [hn]; exact plR_in N hB
        refine x_aload_n C (pc := 28) dX9_draw_28 0 rfl rfl ?_
        refine x_callVv C (pc := 29) [] (fun l D => c_X9_layPairs l D G B N M hS hN16 hB hBt hB120 ht hZ hk) (me_0 G _) rfl ml_X9_188 co_X9_layPairs im_X9_layPairs se_X9_layPairs in_X9 hy_X9_layPairs (by decide) (by decide) (Nat.le_of_ble_eq_true rfl) dX9_draw_29 rfl (kxv ?_)
        refine x_aload_n C (pc := 32) dX9_draw_32 0 rfl rfl ?_
        refine x_callVv C (pc := 33) [] (fun l D => c_X9_layLeast l D G c n (lpM M B N) hFC) (me_0 G _) rfl ml_X9_191 co_X9_layLeast im_X9_layLeast se_X9_layLeast in_X9 hy_X9_layLeast (by decide) (by decide) (Nat.le_of_ble_eq_true rfl) dX9_draw_33 rfl (fun M33 h33 => ?_)
        obtain ⟨g33, h33e, hg33⟩ := h33
        have hp33 : M33 111 0 = nI n := by rw [h33e]; exact hpm
        refine x_iconst C (pc := 36) (v := 1) dX9_draw_36 (by decide) ?_
        refine x_aload_n C (pc := 37) dX9_draw_37 0 rfl rfl ?_
        refine mG_presentMany C fl_X9_182 dX9_draw_38 ?_
        refine x_ishl C (pc := 41) dX9_draw_41 ?_
        refine x_iconst C (pc := 42) (v := 1) dX9_draw_42 (by decide) ?_
        refine x_isub C (pc := 43) dX9_draw_43 ?_
        refine x_top (y := nI (2 ^ n - 1)) (by rw [hp33, nI_shl1 n (by omega)]; exact nI_m1 h2p) ?_
        refine x_istore_n C (pc := 44) dX9_draw_44 [(0, .ref (G.1 0)), (1, .int (nI (2 ^ n - 1)))] [1, 0] rfl (by decide) rfl ?_
        refine x_aload_n C (pc := 45) dX9_draw_45 0 rfl rfl ?_
        refine x_aload_n C (pc := 46) dX9_draw_46 0 rfl rfl ?_
        refine mG_leastOf C fl_X9_73 dX9_draw_47 ?_
        refine x_iload_n C (pc := 50) dX9_draw_50 1 rfl rfl ?_
        refine mL_leastOf C dX9_draw_51 (by exact vp_in_nI (by omega) (by decide)) ?_
        refine x_top (y := nI (lpc c n n (fun _ => true))) (by rw [ix_nI (by omega), h33e, sr_s, hg33 _ (by omega)]; congr 1; exact lpc_eq (Nat.le_refl _) (fun r _ h2 => by unfold fM; rw [Nat.testBit_two_pow_sub_one]; exact decide_eq_true h2)) ?_
        refine mP_cost C fl_X9_194 (v := (nI (lpc c n n (fun _ => true)))) dX9_draw_52 ?_
        refine x_aload_n C (pc := 55) dX9_draw_55 0 rfl rfl ?_
        refine x_iconst C (pc := 56) (v := 0) dX9_draw_56 (by decide) ?_
        refine mP_satOut C fl_X9_197 (v := 0) dX9_draw_57 ?_
        obtain ⟨N0, hN0⟩ : ∃ z, z = ux M33 109 0 (nI (lpc c n n (fun _ => true))) := ⟨_, rfl⟩
        have hZp : (N0 111 0) = nI n := by rw [hN0, h33e]; exact hpm
        have hZw : (N0 19) = whM M N := by rw [hN0, h33e]; rfl
        have hZl : (N0 21) = g33 := by rw [hN0, h33e]; rfl
        have hZc : (N0 20) = lpM M B N 20 := by rw [hN0, h33e]; rfl
        have hZb : (N0 107 0) = nI B := by rw [hN0, h33e]; exact hBt
        refine x_iconst C (pc := 60) (v := 0) dX9_draw_60 (by decide) ?_
        refine x_istore_n C (pc := 61) dX9_draw_61 [(0, .ref (G.1 0)), (1, .int (nI (2 ^ n - 1))), (2, .int 0)] [1, 2, 0] rfl (by decide) rfl ?_
        have L62 : ∀ (nu : Nat) (N1 : St) (s : Int32) (k : Int32) (m : Nat) (p : Nat), (s = nI m) → (m < 2 ^ n) → (∀ q, q < n → (m.testBit q = true ↔ p ≤ q ∧ fT c n p q = true)) → (p ≤ n) → (N1 = ME c n (whM M N) N0 p) → (k = nI (cE c n p)) → (n - p) < nu → WX K (mw G) 8 N1 62 [(0, .ref (G.1 0)), (1, .int s), (2, .int k)] [] := by
          intro nu
          induction nu with
          | zero => intro N1 s k m p hs hmn hbits hp hN hk hmu62; exact absurd hmu62 (Nat.not_lt_zero _)
          | succ n62 ih62 =>
            intro N1 s k m p hs hmn hbits hp hN hk hmu62
            refine x_iload_n C (pc := 62) dX9_draw_62 1 rfl rfl ?_
            refine x_if_eq C (pc := 63) (tgt := 242) dX9_draw_63 (by decide) (fun c63 => ?_) (fun c63 => ?_)
            · have hm0 : m = 0 := (nI_eq (by omega) (by decide : 0 < 2 ^ 31)).mp (by rw [← hs]; exact c63)
              have hst := stay c n (whM M N) N0 (p := p) (n - p) (fun q h1 h2 => by
                cases h3 : fT c n p q with
                | false => rfl
                | true =>
                  have h4 := (hbits q (by omega)).mpr ⟨h1, h3⟩
                  rw [hm0, Nat.zero_testBit] at h4; cases h4)
              rw [show p + (n - p) = n by omega] at hst
              obtain ⟨-, hME, hcE⟩ := hst
              rw [← hME] at hN
              rw [← hcE] at hk
              have hNs : (N1 102 0) = nI N := by rw [hN, ME_r1 _ _ _ _ _ (by decide), hN0, h33e]; exact hS
              have hNb : (N1 11) = (M 11) := by rw [hN, ME_r1 _ _ _ _ _ (by decide), hN0, h33e]; rfl
              have hNa : (N1 6) = (M 6) := by rw [hN, ME_r1 _ _ _ _ _ (by decide), hN0, h33e]; rfl
              have hNl : (N1 8) = (M 8) := by rw [hN, ME_r1 _ _ _ _ _ (by decide), hN0, h33e]; rfl
              have hNd : (N1 106 0) = (M 106 0) := by rw [hN, ME_r1 _ _ _ _ _ (by decide), hN0, h33e]; rfl
              refine x_iconst C (pc := 242) (v := 0) dX9_draw_242 (by decide) ?_
              refine x_istore_n C (pc := 243) dX9_draw_243 [(0, .ref (G.1 0)), (1, .int s), (2, .int k), (3, .int 0)] [1, 2, 3, 0] rfl (by decide) rfl ?_
              have L244 : ∀ (nu : Nat) (i : Int32) (j : Nat), (j ≤ N) → (i = nI j) → (N - j) < nu → WX K (mw G) 8 (sr N1 8 (lsM (M 6) (M 11) (M 8) j)) 244 [(0, .ref (G.1 0)), (2, .int k), (3, .int i)] [] := by
                intro nu
                induction nu with
                | zero => intro i j hj hi hmu244; exact absurd hmu244 (Nat.not_lt_zero _)
                | succ n244 ih244 =>
                  intro i j hj hi hmu244
                  refine x_iload_n C (pc := 244) dX9_draw_244 2 rfl rfl ?_
                  refine x_aload_n C (pc := 245) dX9_draw_245 0 rfl rfl ?_
                  refine mG_there C fl_X9_126 dX9_draw_246 ?_
                  refine x_top (y := (N1 102 0)) rfl ?_
                  refine x_icmp_ge C (pc := 249) (tgt := 291) dX9_draw_249 (by decide) (fun c249 => ?_) (fun c249 => ?_)
                  · have hjN : j = N := by have := geN hi hNs c249 (by omega); omega
                    refine x_aload_n C (pc := 291) dX9_draw_291 0 rfl rfl ?_
                    refine x_dup C (pc := 292) dX9_draw_292 rfl ?_
                    refine mG_drawn C fl_X9_167 dX9_draw_293 ?_
                    refine x_top (y := (N1 106 0)) rfl ?_
                    refine x_iconst C (pc := 296) (v := 1) dX9_draw_296 (by decide) ?_
                    refine x_iadd C (pc := 297) dX9_draw_297 ?_
                    refine mP_drawn C fl_X9_167 (v := (N1 106 0) + 1) dX9_draw_298 ?_
                    refine x_iload_n C (pc := 301) dX9_draw_301 1 rfl rfl ?_
                    exact ret k (ux (sr N1 8 (lsM (M 6) (M 11) (M 8) j)) 106 0 ((N1 106 0) + 1)) 302 _ dX9_draw_302 ⟨by unfold vM_draw; rw [if_neg c4, if_neg c11, if_neg c22, hk, hn, hc], Or.inr ⟨hgo, N0, fun e he => (by
                      rw [← hc, ← hn, hN0]
                      by_cases q : e = 109
                      · rw [q, ux_s, ux_s, h33e]; rfl
                      · rw [ux_ne _ _ _ q, ux_ne _ _ _ q, h33e]
                        have h3 := he
                        unfold isFM at h3
                        simp only [Bool.or_eq_false_iff, beq_eq_false_iff_ne] at h3
                        rw [sr_n _ _ h3.1.2]
                        unfold lpM gtM
                        rw [sr_n _ _ h3.1.1.2, ux_ne _ _ _ h3.2, sr_n _ _ h3.1.1.1]), by
                      rw [← hc, ← hn, hjN, hNd, hN]
                      unfold sM_enter
                      rw [show (N0 6) = (M 6) by rw [hN0, h33e]; rfl, show (N0 11) = (M 11) by rw [hN0, h33e]; rfl, show (N0 8) = (M 8) by rw [hN0, h33e]; rfl, show (N0 106 0) = (M 106 0) by rw [hN0, h33e]; rfl]⟩⟩
                  · have hlt : j < N := ltN hi hNs c249 (by omega)
                    have hin : vp_in i 16 := by rw [hi]; exact vp_in_nI (by omega) (by decide)
                    have hix : ix i = j := by rw [hi]; exact ix_nI (by omega)
                    have hin2 : vp_in ((N1 11) (ix i)) 16 := by rw [hNb, hix]; exact hB j hlt
                    refine x_aload_n C (pc := 252) dX9_draw_252 0 rfl rfl ?_
                    refine mG_lossesOf C fl_X9_32 dX9_draw_253 ?_
                    refine x_aload_n C (pc := 256) dX9_draw_256 0 rfl rfl ?_
                    refine mG_rungs C fl_X9_41 dX9_draw_257 ?_
                    refine x_iload_n C (pc := 260) dX9_draw_260 2 rfl rfl ?_
                    refine mL_rungs C dX9_draw_261 (by assumption) ?_
                    refine x_top (y := (N1 11 (ix i))) rfl ?_
                    refine x_dup2 C (pc := 262) dX9_draw_262 rfl rfl ?_
                    refine mL_lossesOf C dX9_draw_263 (by assumption) ?_
                    refine x_top (y := ((lsM (M 6) (M 11) (M 8) j) (ix (N1 11 (ix i))))) rfl ?_
                    have J283 : WX K (mw G) 8 (sr N1 8 (lsM (M 6) (M 11) (M 8) j)) 283 [(0, .ref (G.1 0)), (2, .int k), (3, .int i)] [.int (if (N1 6 (ix (N1 11 (ix i)))) = 0 then 0 else 1), .int ((lsM (M 6) (M 11) (M 8) j) (ix (N1 11 (ix i)))), .int (N1 11 (ix i)), .ref (G.1 8)] := by
                      refine x_iadd C (pc := 283) dX9_draw_283 ?_
                      refine mS_lossesOf C dX9_draw_284 (by assumption) ?_
                      refine x_iinc C (pc := 285) (v := i + 1) dX9_draw_285 2 [(0, .ref (G.1 0)), (2, .int k), (3, .int (i + 1))] [1, 2, 0] rfl (by rfl) (by decide) rfl ?_
                      refine x_goto C (pc := 288) (tgt := 244) dX9_draw_288 (by decide) ?_
                      refine x_eqX (X' := (sr N1 8 (lsM (M 6) (M 11) (M 8) (j + 1)))) (by rw [hNb, hNa, hix, ux_srs, lsM]) ?_
                      exact ih244 (i + 1) (j + 1) (by omega) (by rw [hi]; exact nI_1 j) (by omega)
                    refine x_aload_n C (pc := 264) dX9_draw_264 0 rfl rfl ?_
                    refine mG_isAbsent C fl_X9_26 dX9_draw_265 ?_
                    refine x_aload_n C (pc := 268) dX9_draw_268 0 rfl rfl ?_
                    refine mG_rungs C fl_X9_41 dX9_draw_269 ?_
                    refine x_iload_n C (pc := 272) dX9_draw_272 2 rfl rfl ?_
                    refine mL_rungs C dX9_draw_273 (by assumption) ?_
                    refine x_top (y := (N1 11 (ix i))) rfl ?_
                    refine mL_isAbsent C dX9_draw_274 (by assumption) ?_
                    refine x_top (y := (N1 6 (ix (N1 11 (ix i))))) rfl ?_
                    refine x_if_eq C (pc := 275) (tgt := 282) dX9_draw_275 (by decide) (fun c275 => ?_) (fun c275 => ?_)
                    · refine x_iconst C (pc := 282) (v := 0) dX9_draw_282 (by decide) ?_
                      refine x_top (y := (if (N1 6 (ix (N1 11 (ix i)))) = 0 then 0 else 1)) ((if_pos c275).symm) ?_
                      exact J283
                    · refine x_iconst C (pc := 278) (v := 1) dX9_draw_278 (by decide) ?_
                      refine x_goto C (pc := 279) (tgt := 283) dX9_draw_279 (by decide) ?_
                      refine x_top (y := (if (N1 6 (ix (N1 11 (ix i)))) = 0 then 0 else 1)) ((if_neg c275).symm) ?_
                      exact J283
              refine x_sub [(0, .ref (G.1 0)), (2, .int k), (3, .int 0)] [0, 2, 3] rfl ?_
              refine x_eqX (X' := (sr N1 8 (lsM (M 6) (M 11) (M 8) 0))) (by rw [lsM, ← hNl, sr_self]) ?_
              exact L244 _ 0 0 (Nat.zero_le _) rfl (Nat.lt_succ_self _)
            · have hm0 : 0 < m := Nat.pos_of_ne_zero (fun e => c63 (by rw [hs, e]; rfl))
              obtain ⟨a, han, ha, hl⟩ := fst_ex hm0 hmn
              have hm31 : m < 2 ^ 31 := by omega
              have hpa := (hbits a han).mp ha
              have hst := stay c n (whM M N) N0 (p := p) (a - p) (fun q h1 h2 => by
                cases h3 : fT c n p q with
                | false => rfl
                | true =>
                  have h4 := (hbits q (by omega)).mpr ⟨h1, h3⟩
                  rw [hl q (by omega)] at h4; cases h4)
              rw [show p + (a - p) = a by omega] at hst
              obtain ⟨hfT, hME, hcE⟩ := hst
              have hTa : fT c n a a = true := by rw [hfT]; exact hpa.2
              obtain ⟨m1, hmm1⟩ : ∃ m1, m1 = m ^^^ 2 ^ a := ⟨_, rfl⟩
              have hm1lt : m1 < m := by rw [hmm1]; exact xor_lt_self ha
              have hm131 : m1 < 2 ^ 31 := by omega
              have hm1n : m1 < 2 ^ n := by omega
              have hb1 : ∀ q, q < n → (m1.testBit q = true ↔ a + 1 ≤ q ∧ fT c n a q = true) := fun q hq => by
                rw [hmm1, xor_bit ha, hfT]
                by_cases e : q = a
                · rw [if_pos e]; constructor
                  · intro h; cases h
                  · intro h; omega
                · rw [if_neg e, hbits q hq]
                  constructor
                  · intro h; refine ⟨?_, h.2⟩
                    rcases Nat.lt_or_ge q a with h5 | h5
                    · have h6 := (hbits q hq).mpr h; rw [hl q h5] at h6; cases h6
                    · omega
                  · intro h; exact ⟨by omega, h.2⟩
              have hf1 : ∀ q, a < q → q < n → fM m1 q = fT c n a q := fun q h1 h2 => by
                have h3 := hb1 q h2
                unfold fM
                cases h4 : m1.testBit q with
                | true => exact (h3.mp h4).2.symm
                | false =>
                  cases h5 : fT c n a q with
                  | false => rfl
                  | true => have h6 := h3.mpr ⟨by omega, h5⟩; rw [h4] at h6; cases h6
              have hYp : (N1 111 0) = nI n := by rw [hN, ME_r1 _ _ _ _ _ (by decide)]; exact hZp
              have hYw : (N1 19) = whM M N := by rw [hN, ME_r1 _ _ _ _ _ (by decide)]; exact hZw
              have hYl : ∀ k, k < 2 ^ n → (N1 21) (ix (nI k)) = nI (lpc c n n (fM k)) := fun k hk => by rw [ix_nI (by omega), hN, ME_r1 _ _ _ _ _ (by decide), hZl]; exact hg33 k hk
              have hYc : (N1 20) = lpM M B N 20 := by rw [hN, ME_r1 _ _ _ _ _ (by decide)]; exact hZc
              have hmin : vp_in s 65536 := by rw [hs]; exact vp_in_nI (by omega) (by decide)
              have hm1low : ∀ q, q < a + 1 → m1.testBit q = false := fun q hq => by rw [hmm1]; exact low_xor ha hl hq
              have hset : (N1 21) (ix s) = nI (lpc c n (n - a) (fT c n a)) := by
                rw [hs, hYl m hmn]
                congr 1
                rw [lpc_skip (f := fM m) (j := n - a) n (by omega) (Nat.le_refl _) (fun q _ h2 => hl q (by omega))]
                refine lpc_eq (by omega) (fun q h1 h2 => ?_)
                by_cases e : q = a
                · rw [e, hTa]; exact ha
                · rw [← hf1 q (by omega) h2, hmm1, fM_rmv ha]
                  unfold rmv
                  rw [if_neg e]
              have hwa : (N1 19) (ix (nI a)) = whM M N a := by rw [hYw, ix_nI (by omega)]
              have hain : vp_in (nI a) 16 := vp_in_nI (by omega) (by decide)
              have hwin1 : vp_in (whM M N a) 16 := hwin a han
              have hLB := lpc_bound (c := c) (n := n) (n - a) (fT c n a)
              refine x_aload_n C (pc := 66) dX9_draw_66 0 rfl rfl ?_
              refine x_iload_n C (pc := 67) dX9_draw_67 1 rfl rfl ?_
              refine x_callVi C (pc := 68) [.int s] (fun l D => c_X9_first l D G m a N1 s hs hm31 (by omega) ha hl) (me_0 G _) rfl ml_X9_185 co_X9_first im_X9_first se_X9_first in_X9 hy_X9_first (by decide) (by decide) (Nat.le_of_ble_eq_true rfl) dX9_draw_68 rfl (kx ?_)
              refine x_istore_n C (pc := 71) dX9_draw_71 [(0, .ref (G.1 0)), (1, .int s), (2, .int k), (3, .int (nI a))] [1, 2, 3, 0] rfl (by decide) rfl ?_
              refine x_iload_n C (pc := 72) dX9_draw_72 1 rfl rfl ?_
              refine x_iconst C (pc := 73) (v := 1) dX9_draw_73 (by decide) ?_
              refine x_iload_n C (pc := 74) dX9_draw_74 3 rfl rfl ?_
              refine x_ishl C (pc := 75) dX9_draw_75 ?_
              refine x_iconst C (pc := 76) (v := (-1)) dX9_draw_76 (by decide) ?_
              refine x_ixor C (pc := 77) dX9_draw_77 ?_
              refine x_iand C (pc := 78) dX9_draw_78 ?_
              refine x_top (y := nI m1) (by rw [hs, nI_shl1 a (by omega), hmm1]; exact andnot hm31 (by omega) ha) ?_
              refine x_istore C (pc := 79) dX9_draw_79 [(0, .ref (G.1 0)), (1, .int s), (2, .int k), (3, .int (nI a)), (4, .int (nI m1))] [1, 2, 3, 4, 0] (by decide) rfl ?_
              have J179 : ∀ (mt2 : Int32), (mt2 = optI (sel c n a (fT c n a))) → WX K (mw G) 8 N1 179 [(0, .ref (G.1 0)), (1, .int s), (2, .int k), (3, .int (nI a)), (4, .int (nI m1)), (5, .int mt2)] [] := by
                intro mt2 hj179
                have J239 : ∀ (N2 : St) (s2 : Int32) (k2 : Int32) (m2 : Nat), (s2 = nI m2 ∧ m2 < 2 ^ n ∧ (∀ q, q < n → (m2.testBit q = true ↔ a + 1 ≤ q ∧ fT c n (a + 1) q = true)) ∧ N2 = ME c n (whM M N) N0 (a + 1) ∧ k2 = nI (cE c n (a + 1))) → WX K (mw G) 8 N2 239 [(0, .ref (G.1 0)), (1, .int s2), (2, .int k2)] [] := by
                  intro N2 s2 k2 m2 hj239
                  obtain ⟨hi1, hi2, hi3, hi4, hi5⟩ := hj239
                  refine x_goto C (pc := 239) (tgt := 62) dX9_draw_239 (by decide) ?_
                  exact ih62 N2 s2 k2 m2 (a + 1) hi1 hi2 hi3 (by omega) hi4 hi5 (by omega)
                refine x_iload C (pc := 179) dX9_draw_179 5 rfl ?_
                refine x_bipush C (pc := 181) (v := (-9)) dX9_draw_181 (by decide) ?_
                refine x_icmp_ne C (pc := 183) (tgt := 209) dX9_draw_183 (by decide) (fun c183 => ?_) (fun c183 => ?_)
                · obtain ⟨b, hsb⟩ : ∃ b, sel c n a (fT c n a) = some b := by
                    cases h : sel c n a (fT c n a) with
                    | none => rw [hj179, h] at c183; exact absurd rfl c183
                    | some b => exact ⟨b, rfl⟩
                  obtain ⟨hab, hbn, hTb, w, hcw, hsum⟩ := sel_some han hsb
                  have hmb : mt2 = nI b := by rw [hj179, hsb]; rfl
                  have hbx : ix (nI b) = b := ix_nI (by omega)
                  have hfb : m1.testBit b = true := (hb1 b hbn).mpr ⟨by omega, hTb⟩
                  have hbin : vp_in mt2 16 := by rw [hmb]; exact vp_in_nI (by omega) (by decide)
                  have hwb : (N1 19) b = whM M N b := by rw [hYw]
                  have hand : nI m1 &&& ((1 <<< (mt2 &&& 31)) ^^^ (-1)) = nI (m1 ^^^ 2 ^ b) := by rw [nI_shlN hmb (by omega)]; exact andnot hm131 (by omega) hfb
                  have hcb := cE_bound c n (a + 1) (by omega)
                  have hce : cE c n (a + 1) = cE c n a + 1 := by rw [cE, if_pos hTa, hsb]
                  have hbb : vp_in (N1 107 0) 120 := by
                    have h1 : (N1 107 0) = nI (B + cE c n p) := by rw [hN]; exact ME_bouts c n (whM M N) N0 B hZb p
                    rw [h1]
                    exact vp_in_nI (by omega) (by decide)
                  refine x_aload_n C (pc := 209) dX9_draw_209 0 rfl rfl ?_
                  refine x_aload_n C (pc := 210) dX9_draw_210 0 rfl rfl ?_
                  refine mG_present C fl_X9_66 dX9_draw_211 ?_
                  refine x_iload_n C (pc := 214) dX9_draw_214 3 rfl rfl ?_
                  refine mL_present C dX9_draw_215 (by exact hain) ?_
                  refine x_aload_n C (pc := 216) dX9_draw_216 0 rfl rfl ?_
                  refine mG_present C fl_X9_66 dX9_draw_217 ?_
                  refine x_iload C (pc := 220) dX9_draw_220 5 rfl ?_
                  refine mL_present C dX9_draw_222 (by exact hbin) ?_
                  refine x_callVv C (pc := 223) [.int (N1 19 (ix (nI a))), .int (N1 19 (ix mt2))] (fun l D => c_X9_addBout l D G N1 (N1 19 (ix (nI a))) (N1 19 (ix mt2)) hbb) (me_0 G _) rfl ml_X9_200 co_X9_addBout im_X9_addBout se_X9_addBout in_X9 hy_X9_addBout (by decide) (by decide) (Nat.le_of_ble_eq_true rfl) dX9_draw_223 rfl (kxv ?_)
                  refine x_iinc C (pc := 226) (v := k + 1) dX9_draw_226 2 [(0, .ref (G.1 0)), (1, .int s), (2, .int (k + 1)), (3, .int (nI a)), (4, .int (nI m1)), (5, .int mt2)] [1, 2, 0, 3, 4, 5] rfl (by rfl) (by decide) rfl ?_
                  refine x_iload C (pc := 229) dX9_draw_229 4 rfl ?_
                  refine x_iconst C (pc := 231) (v := 1) dX9_draw_231 (by decide) ?_
                  refine x_iload C (pc := 232) dX9_draw_232 5 rfl ?_
                  refine x_ishl C (pc := 234) dX9_draw_234 ?_
                  refine x_iconst C (pc := 235) (v := (-1)) dX9_draw_235 (by decide) ?_
                  refine x_ixor C (pc := 236) dX9_draw_236 ?_
                  refine x_iand C (pc := 237) dX9_draw_237 ?_
                  refine x_top (y := nI (m1 ^^^ 2 ^ b)) (hand) ?_
                  refine x_istore_n C (pc := 238) dX9_draw_238 [(0, .ref (G.1 0)), (1, .int (nI (m1 ^^^ 2 ^ b))), (2, .int (k + 1)), (3, .int (nI a)), (4, .int (nI m1)), (5, .int mt2)] [1, 0, 2, 3, 4, 5] rfl (by decide) rfl ?_
                  refine x_sub [(0, .ref (G.1 0)), (1, .int (nI (m1 ^^^ 2 ^ b))), (2, .int (k + 1))] [0, 1, 2] rfl ?_
                  exact J239 (sM_addBout N1 (N1 19 (ix (nI a))) (N1 19 (ix mt2))) (nI (m1 ^^^ 2 ^ b)) (k + 1) _ (⟨rfl, Nat.lt_trans (xor_lt_self hfb) hm1n, fun q hq => by
                    rw [xor_bit hfb, fT_some hTa hsb]
                    unfold rmv
                    by_cases e : q = b
                    · rw [if_pos e, if_pos e]; simp
                    · rw [if_neg e, if_neg e]; exact hb1 q hq, by
                    rw [ME, if_pos hTa, hsb, hME]
                    simp only
                    rw [hwa, hmb, hbx, hwb, hN], by
                    rw [cE, if_pos hTa, hsb, hcE, hk]
                    simp only
                    exact nI_1 _⟩)
                · have hsn : sel c n a (fT c n a) = none := by
                    cases h : sel c n a (fT c n a) with
                    | none => rfl
                    | some b => rw [hj179, h] at c183; exact absurd c183 (nI_m9 (by have := (sel_some han h).2.1; omega))
                  refine x_aload_n C (pc := 186) dX9_draw_186 0 rfl rfl ?_
                  refine x_dup C (pc := 187) dX9_draw_187 rfl ?_
                  refine mG_satOut C fl_X9_197 dX9_draw_188 ?_
                  refine x_iconst C (pc := 191) (v := 1) dX9_draw_191 (by decide) ?_
                  refine x_aload_n C (pc := 192) dX9_draw_192 0 rfl rfl ?_
                  refine mG_present C fl_X9_66 dX9_draw_193 ?_
                  refine x_iload_n C (pc := 196) dX9_draw_196 3 rfl rfl ?_
                  refine mL_present C dX9_draw_197 (by exact hain) ?_
                  refine x_ishl C (pc := 198) dX9_draw_198 ?_
                  refine x_ior C (pc := 199) dX9_draw_199 ?_
                  refine mP_satOut C fl_X9_197 (v := (N1 110 0) ||| (1 <<< ((N1 19 (ix (nI a))) &&& 31))) dX9_draw_200 ?_
                  refine x_iload C (pc := 203) dX9_draw_203 4 rfl ?_
                  refine x_istore_n C (pc := 205) dX9_draw_205 [(0, .ref (G.1 0)), (1, .int (nI m1)), (2, .int k), (3, .int (nI a)), (4, .int (nI m1)), (5, .int mt2)] [1, 0, 2, 3, 4, 5] rfl (by decide) rfl ?_
                  refine x_goto C (pc := 206) (tgt := 239) dX9_draw_206 (by decide) ?_
                  refine x_sub [(0, .ref (G.1 0)), (1, .int (nI m1)), (2, .int k)] [0, 1, 2] rfl ?_
                  exact J239 (ux N1 110 0 ((N1 110 0) ||| (1 <<< ((N1 19 (ix (nI a))) &&& 31)))) (nI m1) k _ (⟨rfl, hm1n, fun q hq => by rw [fT_none hsn]; exact hb1 q hq, by
                    rw [ME, if_pos hTa, hsn, hME]
                    simp only
                    rw [hwa, hN], by
                    rw [cE, if_pos hTa, hsn, hcE, hk]⟩)
              refine x_bipush C (pc := 81) (v := (-9)) dX9_draw_81 (by decide) ?_
              refine x_istore C (pc := 83) dX9_draw_83 [(0, .ref (G.1 0)), (1, .int s), (2, .int k), (3, .int (nI a)), (4, .int (nI m1)), (5, .int (-9))] [1, 2, 3, 4, 5, 0] (by decide) rfl ?_
              refine x_iload_n C (pc := 85) dX9_draw_85 3 rfl rfl ?_
              refine x_iconst C (pc := 86) (v := 1) dX9_draw_86 (by decide) ?_
              refine x_iadd C (pc := 87) dX9_draw_87 ?_
              refine x_istore C (pc := 88) dX9_draw_88 [(0, .ref (G.1 0)), (1, .int s), (2, .int k), (3, .int (nI a)), (4, .int (nI m1)), (5, .int (-9)), (6, .int ((nI a) + 1))] [1, 2, 3, 4, 5, 6, 0] (by decide) rfl ?_
              have L90 : ∀ (nu : Nat) (mt : Int32) (jj : Int32) (x : Nat), (a < x) → (x ≤ n) → (jj = nI x) → ((mt = (-9) ∧ sel c n a (fT c n a) = fm c a (fT c n a) (lpc c n (n - a - 1)) (lpc c n (n - a) (fT c n a)) (n - x) x) ∨ (∃ q, mt = nI q ∧ q < n ∧ sel c n a (fT c n a) = some q)) → (n - x) < nu → WX K (mw G) 8 N1 90 [(0, .ref (G.1 0)), (1, .int s), (2, .int k), (3, .int (nI a)), (4, .int (nI m1)), (5, .int mt), (6, .int jj)] [] := by
                intro nu
                induction nu with
                | zero => intro mt jj x hax hxn0 hx hmt hmu90; exact absurd hmu90 (Nat.not_lt_zero _)
                | succ n90 ih90 =>
                  intro mt jj x hax hxn0 hx hmt hmu90
                  refine x_iload C (pc := 90) dX9_draw_90 6 rfl ?_
                  refine x_aload_n C (pc := 92) dX9_draw_92 0 rfl rfl ?_
                  refine mG_presentMany C fl_X9_182 dX9_draw_93 ?_
                  refine x_icmp_ge C (pc := 96) (tgt := 179) dX9_draw_96 (by decide) (fun c96 => ?_) (fun c96 => ?_)
                  · refine x_sub [(0, .ref (G.1 0)), (1, .int s), (2, .int k), (3, .int (nI a)), (4, .int (nI m1)), (5, .int mt)] [0, 1, 2, 3, 4, 5] rfl ?_
                    exact J179 mt (by
                      have hxn : x = n := by have := geN hx hYp c96 (by omega); omega
                      rcases hmt with ⟨h1, h2⟩ | ⟨q, h1, h2, h3⟩
                      · rw [h2, h1, hxn, Nat.sub_self]; rfl
                      · rw [h3, h1]; rfl)
                  · refine x_iload C (pc := 99) dX9_draw_99 5 rfl ?_
                    refine x_bipush C (pc := 101) (v := (-9)) dX9_draw_101 (by decide) ?_
                    refine x_icmp_ne C (pc := 103) (tgt := 179) dX9_draw_103 (by decide) (fun c103 => ?_) (fun c103 => ?_)
                    · refine x_sub [(0, .ref (G.1 0)), (1, .int s), (2, .int k), (3, .int (nI a)), (4, .int (nI m1)), (5, .int mt)] [0, 1, 2, 3, 4, 5] rfl ?_
                      exact J179 mt (by
                        rcases hmt with ⟨h1, h2⟩ | ⟨q, h1, h2, h3⟩
                        · exact absurd h1 c103
                        · rw [h3, h1]; rfl)
                    · have hxn : x < n := ltN hx hYp c96 (by omega)
                      have hns : n - x = (n - (x + 1)) + 1 := by omega
                      have hmt2 : sel c n a (fT c n a) = fm c a (fT c n a) (lpc c n (n - a - 1)) (lpc c n (n - a) (fT c n a)) (n - x) x := by
                        rcases hmt with ⟨h1, h2⟩ | ⟨q, h1, h2, h3⟩
                        · exact h2
                        · rw [h1] at c103; exact absurd c103 (nI_m9 (by omega))
                      have hcq : (c a x = none ∧ (N1 20) (ix (16 * nI a + jj)) = (-9)) ∨ ∃ w, c a x = some w ∧ w ≤ 2000000 ∧ (N1 20) (ix (16 * nI a + jj)) = nI w := by
                        rw [i16 rfl hx, ix_nI (by omega), hYc]
                        exact hpc a x hax hxn
                      have h256 : vp_in (16 * nI a + jj) 256 := by rw [i16 rfl hx]; exact vp_in_nI (by omega) (by decide)
                      have J171 : ∀ (v3 : Int32), ((v3 = (-9) ∧ sel c n a (fT c n a) = fm c a (fT c n a) (lpc c n (n - a - 1)) (lpc c n (n - a) (fT c n a)) (n - (x + 1)) (x + 1)) ∨ (∃ q, v3 = nI q ∧ q < n ∧ sel c n a (fT c n a) = some q)) → WX K (mw G) 8 N1 171 [(0, .ref (G.1 0)), (1, .int s), (2, .int k), (3, .int (nI a)), (4, .int (nI m1)), (5, .int mt), (6, .int jj)] [.int v3] := by
                        intro v3 hj171
                        refine x_istore C (pc := 171) dX9_draw_171 [(0, .ref (G.1 0)), (1, .int s), (2, .int k), (3, .int (nI a)), (4, .int (nI m1)), (5, .int v3), (6, .int jj)] [1, 2, 3, 4, 5, 0, 6] (by decide) rfl ?_
                        refine x_iinc C (pc := 173) (v := jj + 1) dX9_draw_173 6 [(0, .ref (G.1 0)), (1, .int s), (2, .int k), (3, .int (nI a)), (4, .int (nI m1)), (5, .int v3), (6, .int (jj + 1))] [1, 2, 3, 4, 5, 6, 0] rfl (by rfl) (by decide) rfl ?_
                        refine x_goto C (pc := 176) (tgt := 90) dX9_draw_176 (by decide) ?_
                        exact ih90 v3 (jj + 1) (x + 1) (by omega) (by omega) (by rw [hx]; exact nI_1 x) hj171 (by omega)
                      refine x_aload_n C (pc := 106) dX9_draw_106 0 rfl rfl ?_
                      refine mG_pairCost C fl_X9_69 dX9_draw_107 ?_
                      refine x_bipush C (pc := 110) (v := 16) dX9_draw_110 (by decide) ?_
                      refine x_iload_n C (pc := 112) dX9_draw_112 3 rfl rfl ?_
                      refine x_imul C (pc := 113) dX9_draw_113 ?_
                      refine x_iload C (pc := 114) dX9_draw_114 6 rfl ?_
                      refine x_iadd C (pc := 116) dX9_draw_116 ?_
                      refine mL_pairCost C dX9_draw_117 (by exact h256) ?_
                      refine x_istore C (pc := 118) dX9_draw_118 [(0, .ref (G.1 0)), (1, .int s), (2, .int k), (3, .int (nI a)), (4, .int (nI m1)), (5, .int mt), (6, .int jj), (7, .int (N1 20 (ix ((16 * (nI a)) + jj))))] [1, 2, 3, 4, 5, 6, 7, 0] (by decide) rfl ?_
                      refine x_iload C (pc := 120) dX9_draw_120 4 rfl ?_
                      refine x_iload C (pc := 122) dX9_draw_122 6 rfl ?_
                      refine x_ishr C (pc := 124) dX9_draw_124 ?_
                      refine x_iconst C (pc := 125) (v := 1) dX9_draw_125 (by decide) ?_
                      refine x_iand C (pc := 126) dX9_draw_126 ?_
                      refine x_iconst C (pc := 127) (v := 1) dX9_draw_127 (by decide) ?_
                      refine x_icmp_ne C (pc := 128) (tgt := 169) dX9_draw_128 (by decide) (fun c128 => ?_) (fun c128 => ?_)
                      · refine x_bipush C (pc := 169) (v := (-9)) dX9_draw_169 (by decide) ?_
                        refine x_sub [(0, .ref (G.1 0)), (1, .int s), (2, .int k), (3, .int (nI a)), (4, .int (nI m1)), (5, .int mt), (6, .int jj)] [0, 1, 2, 3, 4, 5, 6] rfl ?_
                        exact J171 (-9) (Or.inl ⟨rfl, by rw [hmt2, hns]; exact fm_skip (fun h1 => absurd ((shr_tb (t := x) hm131 (by omega)).mpr (by rw [← hf1 x (by omega) hxn] at h1; exact h1)) (by rw [hx] at c128; exact c128))⟩)
                      · refine x_iload C (pc := 131) dX9_draw_131 7 rfl ?_
                        refine x_bipush C (pc := 133) (v := (-9)) dX9_draw_133 (by decide) ?_
                        refine x_icmp_eq C (pc := 135) (tgt := 169) dX9_draw_135 (by decide) (fun c135 => ?_) (fun c135 => ?_)
                        · refine x_bipush C (pc := 169) (v := (-9)) dX9_draw_169 (by decide) ?_
                          refine x_sub [(0, .ref (G.1 0)), (1, .int s), (2, .int k), (3, .int (nI a)), (4, .int (nI m1)), (5, .int mt), (6, .int jj)] [0, 1, 2, 3, 4, 5, 6] rfl ?_
                          exact J171 (-9) (Or.inl ⟨rfl, by rw [hmt2, hns]; exact fm_skip (fun _ w h2 => by
                            rcases hcq with h | ⟨v, h3, h4, h5⟩
                            · rw [h.1] at h2; cases h2
                            · rw [h5] at c135; exact absurd c135 (nI_m9 (by omega)))⟩)
                        · have hfx : fM m1 x = true := by rw [hx] at c128; exact (shr_tb hm131 (by omega)).mp c128
                          obtain ⟨w, hcw, hw2, hXw⟩ := hcq.resolve_left (fun h => c135 h.2)
                          have hand : nI m1 &&& ((1 <<< (jj &&& 31)) ^^^ (-1)) = nI (m1 ^^^ 2 ^ x) := by rw [nI_shlN hx (by omega)]; exact andnot hm131 (by omega) hfx
                          have hm2lt : m1 ^^^ 2 ^ x < m1 := xor_lt_self hfx
                          have hm2in : vp_in (nI (m1 ^^^ 2 ^ x)) 65536 := vp_in_nI (by omega) (by decide)
                          have hv : lpc c n n (fM (m1 ^^^ 2 ^ x)) = lpc c n (n - a - 1) (rmv (fT c n a) x) := by
                            rw [LM_val han (fun q hq => by rw [xor_bit hfx, if_neg (by omega)]; exact hm1low q hq)]
                            exact lpc_eq (by omega) (fun i h3 h4 => by rw [fM_rmv hfx]; unfold rmv; rw [hf1 i (by omega) h4])
                          have hLb := lpc_bound (c := c) (n := n) (n - a - 1) (rmv (fT c n a) x)
                          have hsum : (N1 20) (ix (16 * nI a + jj)) + (N1 21) (ix (nI (m1 ^^^ 2 ^ x))) = nI (w + lpc c n (n - a - 1) (rmv (fT c n a) x)) := by rw [hXw, hYl _ (by omega), hv, nI_add]
                          refine x_iload C (pc := 138) dX9_draw_138 7 rfl ?_
                          refine x_aload_n C (pc := 140) dX9_draw_140 0 rfl rfl ?_
                          refine mG_leastOf C fl_X9_73 dX9_draw_141 ?_
                          refine x_iload C (pc := 144) dX9_draw_144 4 rfl ?_
                          refine x_iconst C (pc := 146) (v := 1) dX9_draw_146 (by decide) ?_
                          refine x_iload C (pc := 147) dX9_draw_147 6 rfl ?_
                          refine x_ishl C (pc := 149) dX9_draw_149 ?_
                          refine x_iconst C (pc := 150) (v := (-1)) dX9_draw_150 (by decide) ?_
                          refine x_ixor C (pc := 151) dX9_draw_151 ?_
                          refine x_iand C (pc := 152) dX9_draw_152 ?_
                          refine x_top (y := nI (m1 ^^^ 2 ^ x)) (hand) ?_
                          refine mL_leastOf C dX9_draw_153 (by exact hm2in) ?_
                          refine x_iadd C (pc := 154) dX9_draw_154 ?_
                          refine x_aload_n C (pc := 155) dX9_draw_155 0 rfl rfl ?_
                          refine mG_leastOf C fl_X9_73 dX9_draw_156 ?_
                          refine x_iload_n C (pc := 159) dX9_draw_159 1 rfl rfl ?_
                          refine mL_leastOf C dX9_draw_160 (by exact hmin) ?_
                          refine x_icmp_ne C (pc := 161) (tgt := 169) dX9_draw_161 (by decide) (fun c161 => ?_) (fun c161 => ?_)
                          · refine x_bipush C (pc := 169) (v := (-9)) dX9_draw_169 (by decide) ?_
                            refine x_sub [(0, .ref (G.1 0)), (1, .int s), (2, .int k), (3, .int (nI a)), (4, .int (nI m1)), (5, .int mt), (6, .int jj)] [0, 1, 2, 3, 4, 5, 6] rfl ?_
                            exact J171 (-9) (Or.inl ⟨rfl, by rw [hmt2, hns]; exact fm_skip (fun _ v h2 => by
                              rw [hcw] at h2; cases h2
                              intro e
                              exact c161 (by rw [hsum, hset, e]))⟩)
                          · refine x_iload C (pc := 164) dX9_draw_164 6 rfl ?_
                            refine x_goto C (pc := 166) (tgt := 171) dX9_draw_166 (by decide) ?_
                            refine x_sub [(0, .ref (G.1 0)), (1, .int s), (2, .int k), (3, .int (nI a)), (4, .int (nI m1)), (5, .int mt), (6, .int jj)] [0, 1, 2, 3, 4, 5, 6] rfl ?_
                            exact J171 jj (Or.inr ⟨x, hx, hxn, by rw [hmt2, hns]; exact fm_hit (by rw [← hf1 x (by omega) hxn]; exact hfx) hcw ((nI_eq (by omega) (by omega)).mp (by rw [← hsum, ← hset]; exact c161))⟩)
              exact L90 _ (-9) ((nI a) + 1) (a + 1) (by omega) (by omega) (nI_1 a) (Or.inl ⟨rfl, rfl⟩) (Nat.lt_succ_self _)
        exact L62 _ (ux (ux M33 109 0 (nI (lpc c n n (fun _ => true)))) 110 0 0) (nI (2 ^ n - 1)) 0 (2 ^ n - 1) 0 rfl (by omega) (fun q hq => ⟨fun _ => ⟨Nat.zero_le _, rfl⟩, fun _ => by rw [Nat.testBit_two_pow_sub_one]; exact decide_eq_true hq⟩) (Nat.zero_le _) (by rw [hN0]; rfl) rfl (Nat.lt_succ_self _)
      · refine x_bipush C (pc := 25) (v := (-4)) dX9_draw_25 (by decide) ?_
        exact ret (-4) M 27 _ dX9_draw_27 ⟨by unfold vM_draw; rw [if_neg c4, if_neg c11, if_pos c22], Or.inl ⟨fun h => h.2.2 c22, rfl⟩⟩
