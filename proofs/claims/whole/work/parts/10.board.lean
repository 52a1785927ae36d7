
theorem x_acopy {K : Cx} {G : Gx} {nL : Nat} {cc : ByteArray} {own : String} {d : Nat} {X : St} {pc : Nat} {lv : List (Nat × Value)} {rest : List Value} (C : XC K (xw G) nL cc own d (tyG G)) {index s t : Nat} (hlink : Cond.methodLink own index arraycopyName ∈ tA) (hd0 : 1 ≤ d) (hs : s < 4) (ht : t < 4) {sp dp n : Int32} (h1 : ¬ sp < 0) (h2 : ¬ dp < 0) (h3 : ¬ n < 0) (h4 : ix sp + ix n ≤ 16) (h5 : ix dp + ix n ≤ 16) (hfit : ∀ i, fits .byte (.int (X (43 + s) i)) = true) (hd : decode cc pc = .ok (.invokestatic index, 3)) (hr : rest = []) (kk : WX K (xw G) nL (sr X (43 + t) (va_cpy (X (43 + s)) (X (43 + t)) (ix sp) (ix dp) (ix n))) (pc + 3) lv rest) : WX K (xw G) nL X pc lv (.int n :: .int dp :: .ref (G.1 (43 + t)) :: .int sp :: .ref (G.1 (43 + s)) :: rest) := by
  subst hr
  have hset : ∀ g : Nat → Int32, (xw G X).set (43 + t) (G.1 (43 + t), .inl (G.2.2.2.1, 16, .inl g)) = xw G (sr X (43 + t) g) := by
    intro g
    rcases (show t = 0 ∨ t = 1 ∨ t = 2 ∨ t = 3 by omega) with rfl | rfl | rfl | rfl <;> rfl
  obtain ⟨p, l, e, R, s0, m, args, below, meth, c, Q, D, A⟩ := K
  have hR : R = rL d := C.2.2.2.2.2.1
  exact fun H locs ls hP hS hl => va_copyi C.1 C.2.1 (by rw [C.2.2.1]; exact hl.1.symm) C.2.2.2.1 (C.2.2.2.2.1 _ hlink) (C.2.2.2.2.1 _ na_acopy) (C.2.2.2.2.1 _ st_acopy) (C.2.2.2.2.1 _ in_J10) C.2.2.2.2.2.2.1 hP (C.2.2.2.2.2.2.2.1 X) hS (43 + s) (43 + t) 2 2 (xi_bytes G hs X).1 (xi_bytes G ht X).1 rfl rfl rfl h1 h2 h3 h4 h5 (fun i _ => hfit _) (by rw [hR]; exact hd0) (by rw [hR]; show 0 + (nativeFrameWords "java/lang/System" "arraycopy" 5 + 11) ≤ 40 * d; rw [show nativeFrameWords "java/lang/System" "arraycopy" 5 + 11 = nativeFrameWords "java/lang/System" "arraycopy" 5 + 11 from rfl]; exact Nat.le_trans (by decide +kernel : 0 + (nativeFrameWords "java/lang/System" "arraycopy" 5 + 11) ≤ 40) (by omega)) hd (fun H1 locs1 hP1 _ hS1 => kk H1 locs1 ls (by rw [← hset]; exact hP1) hS1 hl)
def s_X3_add (X : St) (k s n : Int32) : St := ux (ux (ux (ux (ux (ux (ux X 10 (ix (X 101 0)) k) 11 (ix (X 101 0)) s) 12 (ix (X 101 0)) n) 20 (ix (X 102 0)) (X 101 0)) 13 (ix (X 101 0)) (X 102 0)) 101 0 ((X 101 0) + 1)) 102 0 ((X 102 0) + 1)
def shB (bd : Nat → Int32) (R n : Nat) : Nat → Int32 := fun j => if R ≤ j ∧ j < n then bd (j + 1) else bd j
def rgR (bd rg : Nat → Int32) (R : Nat) : Nat → Nat → Int32
  | 0 => rg
  | k + 1 => upd (rgR bd rg R k) (ix (bd (R + k + 1))) (nI (R + k))
theorem shB_step (bd : Nat → Int32) {R n : Nat} (h : R ≤ n) : upd (shB bd R n) n (bd (n + 1)) = shB bd R (n + 1) := by
  funext j
  simp only [shB, upd]
  by_cases e : j = n
  · subst e; rw [if_pos rfl, if_pos ⟨h, by omega⟩]
  · rw [if_neg e]
    by_cases h2 : R ≤ j ∧ j < n
    · rw [if_pos h2, if_pos ⟨h2.1, by omega⟩]
    · rw [if_neg h2, if_neg (by omega)]
theorem shB_0 (bd : Nat → Int32) (R : Nat) : shB bd R R = bd := by
  funext j
  simp only [shB]
  rw [if_neg (by omega)]
def s_X3_remove (X : St) (w : Int32) (N R : Nat) : St := sr (sr (ux (ux X 18 (ix w) 1) 102 0 ((X 102 0) - 1)) 20 (shB (X 20) R (N - 1))) 13 (rgR (X 20) (X 13) R (N - 1 - R))
def s_X3_clearScores (X : St) : St := sr (sr X 14 (fun i => if i < 16 then 0 else (X 14) i)) 15 (fun i => if i < 16 then 0 else (X 15) i)
theorem knows_in {X : St} {w : Int32} {E : Nat} (h : ¬ v_X3_knows X w = 0) (hE : (X 101 0) = nI E) (h16 : E ≤ 16) : vp_in w 16 := by
  unfold v_X3_knows at h
  by_cases h1 : w < 0
  · simp [h1] at h
  · by_cases h2 : (X 101 0) ≤ w
    · simp [h1, h2] at h
    · exact in_lt h1 h2 (by rw [hE]; exact nI_le h16 (by decide)) (by decide)
def v_isKind (k : Int32) : Int32 := if k < 0 then 0 else if 2 < k then 0 else 1
def v_isGroup (k : Int32) : Int32 := if k < 0 then 0 else if 8 ≤ k then 0 else 1
def v_isSheet (k : Int32) : Int32 := if k < 0 then 0 else if 4 ≤ k then 0 else 1
theorem isSheet_in {s : Int32} (h : ¬ v_isSheet s = 0) : vp_in s 4 := by
  unfold v_isSheet at h
  by_cases h1 : s < 0
  · simp [h1] at h
  · by_cases h2 : 4 ≤ s
    · simp [h1, h2] at h
    · exact in_of h1 h2 (by decide)
def v_ref (X : St) (w : Int32) : Int32 := if v_X3_knows X w = 0 then (-1) else if (X 18) (ix w) = 0 then 0 else (-3)
def s_ref (X : St) (w : Int32) : St := if v_X3_knows X w = 0 then X else if (X 18) (ix w) = 0 then X else s_X2_found X 1
theorem ref_id {X : St} {w : Int32} (h : v_ref X w = 0) : s_ref X w = X := by
  unfold v_ref at h
  unfold s_ref
  by_cases h1 : v_X3_knows X w = 0
  · rw [if_pos h1]
  · rw [if_neg h1]
    by_cases h2 : (X 18) (ix w) = 0
    · rw [if_pos h2]
    · rw [if_neg h1, if_neg h2] at h; exact absurd h (by decide)
theorem ref_kn {X : St} {w : Int32} (h : v_ref X w = 0) : ¬ v_X3_knows X w = 0 ∧ (X 18) (ix w) = 0 := by
  unfold v_ref at h
  by_cases h1 : v_X3_knows X w = 0
  · rw [if_pos h1] at h; exact absurd h (by decide)
  · refine ⟨h1, ?_⟩
    by_cases h2 : (X 18) (ix w) = 0
    · exact h2
    · rw [if_neg h1, if_neg h2] at h; exact absurd h (by decide)
theorem in1_6 : vp_in 1 6 := vp_in_nI (n := 1) (by decide) (by decide)
theorem in2_6 : vp_in 2 6 := vp_in_nI (n := 2) (by decide) (by decide)
theorem in3_6 : vp_in 3 6 := vp_in_nI (n := 3) (by decide) (by decide)
theorem in4_6 : vp_in 4 6 := vp_in_nI (n := 4) (by decide) (by decide)
theorem in5_6 : vp_in 5 6 := vp_in_nI (n := 5) (by decide) (by decide)
set_option maxHeartbeats 4000000 in
set_option maxRecDepth 100000 in
theorem c_X3_add (l : Launch) (D : va_G) (G : Gx) (X : St) (k : Int32) (s : Int32) (n : Int32) (he : vp_in (X 101 0) 16) (hs : vp_in (X 102 0) 16) : Ci l yX3_add cX3_add 5 (some .int) 1 (xw G) D (tyG G) [.ref (G.1 2), .int k, .int s, .int n] X (fun r X1 => r = (X 101 0) ∧ X1 = (s_X3_add X k s n)) := by
  refine m_i (nL := 5) (lv := [(0, .ref (G.1 2)), (1, .int k), (2, .int s), (3, .int n)]) [.ref (G.1 2), .int k, .int s, .int n] RX3 rfl (xw_adr G) (by decide +kernel) (Nat.le_of_ble_eq_true rfl) rfl (fun K C ret => ?_)
  refine x_aload_n C (pc := 0) dX3_add_0 0 rfl rfl ?_
  refine xG_ever C fl_X3_46 dX3_add_1 ?_
  refine x_istore C (pc := 4) dX3_add_4 [(0, .ref (G.1 2)), (1, .int k), (2, .int s), (3, .int n), (4, .int (X 101 0))] [1, 2, 3, 4, 0] (by decide) rfl ?_
  refine x_aload_n C (pc := 6) dX3_add_6 0 rfl rfl ?_
  refine xG_kind C fl_X3_9 dX3_add_7 ?_
  refine x_iload C (pc := 10) dX3_add_10 4 rfl ?_
  refine x_iload_n C (pc := 12) dX3_add_12 1 rfl rfl ?_
  refine xS_kind C dX3_add_13 (by assumption) ?_
  refine x_aload_n C (pc := 14) dX3_add_14 0 rfl rfl ?_
  refine xG_stable C fl_X3_15 dX3_add_15 ?_
  refine x_iload C (pc := 18) dX3_add_18 4 rfl ?_
  refine x_iload_n C (pc := 20) dX3_add_20 2 rfl rfl ?_
  refine xS_stable C dX3_add_21 (by assumption) ?_
  refine x_aload_n C (pc := 22) dX3_add_22 0 rfl rfl ?_
  refine xG_kin C fl_X3_18 dX3_add_23 ?_
  refine x_iload C (pc := 26) dX3_add_26 4 rfl ?_
  refine x_iload_n C (pc := 28) dX3_add_28 3 rfl rfl ?_
  refine xS_kin C dX3_add_29 (by assumption) ?_
  refine x_aload_n C (pc := 30) dX3_add_30 0 rfl rfl ?_
  refine x_iload C (pc := 31) dX3_add_31 4 rfl ?_
  refine x_aload_n C (pc := 33) dX3_add_33 0 rfl rfl ?_
  refine xG_standing C fl_X3_50 dX3_add_34 ?_
  refine x_top (y := (X 102 0)) rfl ?_
  refine x_callVv C (pc := 37) [.int (X 101 0), .int (X 102 0)] (fun l D => c_X3_place l D G (ux (ux (ux X 10 (ix (X 101 0)) k) 11 (ix (X 101 0)) s) 12 (ix (X 101 0)) n) (X 101 0) (X 102 0) (by assumption) (by assumption)) (xe_2 G _) rfl ml_X3_53 co_X3_place im_X3_place se_X3_place in_X3 hy_X3_place (by decide) (by decide) (Nat.le_of_ble_eq_true rfl) dX3_add_37 rfl (kxv ?_)
  refine x_eqX (X' := (ux (ux (ux (ux (ux X 10 (ix (X 101 0)) k) 11 (ix (X 101 0)) s) 12 (ix (X 101 0)) n) 20 (ix (X 102 0)) (X 101 0)) 13 (ix (X 101 0)) (X 102 0))) rfl ?_
  refine x_aload_n C (pc := 40) dX3_add_40 0 rfl rfl ?_
  refine x_dup C (pc := 41) dX3_add_41 rfl ?_
  refine xG_ever C fl_X3_46 dX3_add_42 ?_
  refine x_top (y := (X 101 0)) rfl ?_
  refine x_iconst C (pc := 45) (v := 1) dX3_add_45 (by decide) ?_
  refine x_iadd C (pc := 46) dX3_add_46 ?_
  refine xP_ever C fl_X3_46 (v := (X 101 0) + 1) dX3_add_47 ?_
  refine x_aload_n C (pc := 50) dX3_add_50 0 rfl rfl ?_
  refine x_dup C (pc := 51) dX3_add_51 rfl ?_
  refine xG_standing C fl_X3_50 dX3_add_52 ?_
  refine x_top (y := (X 102 0)) rfl ?_
  refine x_iconst C (pc := 55) (v := 1) dX3_add_55 (by decide) ?_
  refine x_iadd C (pc := 56) dX3_add_56 ?_
  refine xP_standing C fl_X3_50 (v := (X 102 0) + 1) dX3_add_57 ?_
  refine x_iload C (pc := 60) dX3_add_60 4 rfl ?_
  exact ret (X 101 0) (ux (ux (ux (ux (ux (ux (ux X 10 (ix (X 101 0)) k) 11 (ix (X 101 0)) s) 12 (ix (X 101 0)) n) 20 (ix (X 102 0)) (X 101 0)) 13 (ix (X 101 0)) (X 102 0)) 101 0 ((X 101 0) + 1)) 102 0 ((X 102 0) + 1)) 62 _ dX3_add_62 ⟨rfl, rfl⟩
set_option maxHeartbeats 4000000 in
set_option maxRecDepth 100000 in
theorem c_X3_remove (l : Launch) (D : va_G) (G : Gx) (N R : Nat) (X : St) (w : Int32) (hw : vp_in w 16) (hN : N ≤ 16) (hs : (X 102 0) = nI N) (hB : ∀ r, r < N → vp_in ((X 20) r) 16) (hRN : R < N) (hR : (X 13) (ix w) = nI R) : Ci l yX3_remove cX3_remove 4 (some .int) 1 (xw G) D (tyG G) [.ref (G.1 2), .int w] X (fun r X1 => r = ((X 13) (ix w)) ∧ X1 = (s_X3_remove X w N R)) := by
  refine m_i (nL := 4) (lv := [(0, .ref (G.1 2)), (1, .int w)]) [.ref (G.1 2), .int w] RX3 rfl (xw_adr G) (by decide +kernel) (Nat.le_of_ble_eq_true rfl) rfl (fun K C ret => ?_)
  refine x_aload_n C (pc := 0) dX3_remove_0 0 rfl rfl ?_
  refine xG_rungOf C fl_X3_21 dX3_remove_1 ?_
  refine x_iload_n C (pc := 4) dX3_remove_4 1 rfl rfl ?_
  refine xL_rungOf C dX3_remove_5 (by assumption) ?_
  refine x_istore_n C (pc := 6) dX3_remove_6 [(0, .ref (G.1 2)), (1, .int w), (2, .int (X 13 (ix w)))] [1, 2, 0] rfl (by decide) rfl ?_
  refine x_aload_n C (pc := 7) dX3_remove_7 0 rfl rfl ?_
  refine xG_gone C fl_X3_36 dX3_remove_8 ?_
  refine x_iload_n C (pc := 11) dX3_remove_11 1 rfl rfl ?_
  refine x_iconst C (pc := 12) (v := 1) dX3_remove_12 (by decide) ?_
  refine xS_gone C dX3_remove_13 (by assumption) ?_
  refine x_eqX (X' := (ux X 18 (ix w) 1)) rfl ?_
  refine x_aload_n C (pc := 14) dX3_remove_14 0 rfl rfl ?_
  refine x_dup C (pc := 15) dX3_remove_15 rfl ?_
  refine xG_standing C fl_X3_50 dX3_remove_16 ?_
  refine x_top (y := (X 102 0)) rfl ?_
  refine x_iconst C (pc := 19) (v := 1) dX3_remove_19 (by decide) ?_
  refine x_isub C (pc := 20) dX3_remove_20 ?_
  refine xP_standing C fl_X3_50 (v := (X 102 0) - 1) dX3_remove_21 ?_
  refine x_iload_n C (pc := 24) dX3_remove_24 2 rfl rfl ?_
  refine x_istore_n C (pc := 25) dX3_remove_25 [(0, .ref (G.1 2)), (1, .int w), (2, .int (X 13 (ix w))), (3, .int (X 13 (ix w)))] [1, 2, 3, 0] rfl (by decide) rfl ?_
  have L26 : ∀ (n : Nat) (Y : St) (i : Int32) (j : Nat), (R ≤ j) → (j ≤ N - 1) → (i = nI j) → (Y = sr (sr (ux (ux X 18 (ix w) 1) 102 0 ((X 102 0) - 1)) 20 (shB (X 20) R j)) 13 (rgR (X 20) (X 13) R (j - R))) → (N - j) < n → WX K (xw G) 4 Y 26 [(0, .ref (G.1 2)), (1, .int w), (2, .int (X 13 (ix w))), (3, .int i)] [] := by
    intro n
    induction n with
    | zero => intro Y i j hj hjN hi hY hmu26; exact absurd hmu26 (Nat.not_lt_zero _)
    | succ n26 ih26 =>
      intro Y i j hj hjN hi hY hmu26
      refine x_iload_n C (pc := 26) dX3_remove_26 3 rfl rfl ?_
      refine x_aload_n C (pc := 27) dX3_remove_27 0 rfl rfl ?_
      refine xG_standing C fl_X3_50 dX3_remove_28 ?_
      refine x_icmp_ge C (pc := 31) (tgt := 53) dX3_remove_31 (by decide) (fun c31 => ?_) (fun c31 => ?_)
      · have hys : (Y 102 0) = nI (N - 1) := by rw [hY]; show (X 102 0) - 1 = _; rw [hs]; exact nI_m1 (by omega)
        have hge : N - 1 ≤ j := geN hi hys c31 (by omega)
        have hjj : j = N - 1 := by omega
        refine x_iload_n C (pc := 53) dX3_remove_53 2 rfl rfl ?_
        exact ret (X 13 (ix w)) Y 54 _ dX3_remove_54 ⟨rfl, by rw [hY, hjj]; rfl⟩
      · have hys : (Y 102 0) = nI (N - 1) := by rw [hY]; show (X 102 0) - 1 = _; rw [hs]; exact nI_m1 (by omega)
        have hlt : j < N - 1 := ltN hi hys c31 (by omega)
        have hi1 : i + 1 = nI (j + 1) := by rw [hi]; exact nI_1 j
        have hin : vp_in (i + 1) 16 := by rw [hi1]; exact vp_in_nI (by omega) (by decide)
        have hin0 : vp_in i 16 := by rw [hi]; exact vp_in_nI (by omega) (by decide)
        have hix : ix i = j := by rw [hi]; exact ix_nI (by omega)
        have hix1 : ix (i + 1) = j + 1 := by rw [hi1]; exact ix_nI (by omega)
        have hyb : (Y 20) (ix (i + 1)) = (X 20) (j + 1) := by rw [hix1, hY]; show shB (X 20) R j (j + 1) = _; simp only [shB]; rw [if_neg (by omega)]
        have hinb : vp_in ((Y 20) (ix (i + 1))) 16 := by rw [hyb]; exact hB _ (by omega)
        have hY2 : ux (ux Y 20 (ix i) ((Y 20) (ix (i + 1)))) 13 (ix ((Y 20) (ix (i + 1)))) i = sr (sr (ux (ux X 18 (ix w) 1) 102 0 ((X 102 0) - 1)) 20 (shB (X 20) R (j + 1))) 13 (rgR (X 20) (X 13) R (j + 1 - R)) := by
          rw [hyb, hix, hY, ux_srn _ _ _ _ (by decide), ux_srs, ux_srs, shB_step _ hj, show j + 1 - R = (j - R) + 1 by omega, rgR, show R + (j - R) = j by omega, hi]
        refine x_aload_n C (pc := 34) dX3_remove_34 0 rfl rfl ?_
        refine x_aload_n C (pc := 35) dX3_remove_35 0 rfl rfl ?_
        refine xG_board C fl_X3_43 dX3_remove_36 ?_
        refine x_iload_n C (pc := 39) dX3_remove_39 3 rfl rfl ?_
        refine x_iconst C (pc := 40) (v := 1) dX3_remove_40 (by decide) ?_
        refine x_iadd C (pc := 41) dX3_remove_41 ?_
        refine xL_board C dX3_remove_42 (by assumption) ?_
        refine x_iload_n C (pc := 43) dX3_remove_43 3 rfl rfl ?_
        refine x_callVv C (pc := 44) [.int (Y 20 (ix (i + 1))), .int i] (fun l D => c_X3_place l D G Y (Y 20 (ix (i + 1))) i (by assumption) (by assumption)) (xe_2 G _) rfl ml_X3_53 co_X3_place im_X3_place se_X3_place in_X3 hy_X3_place (by decide) (by decide) (Nat.le_of_ble_eq_true rfl) dX3_remove_44 rfl (kxv ?_)
        refine x_eqX (X' := (ux (ux Y 20 (ix i) (Y 20 (ix (i + 1)))) 13 (ix (Y 20 (ix (i + 1)))) i)) rfl ?_
        refine x_iinc C (pc := 47) (v := i + 1) dX3_remove_47 3 [(0, .ref (G.1 2)), (1, .int w), (2, .int (X 13 (ix w))), (3, .int (i + 1))] [1, 2, 3, 0] rfl (by rfl) (by decide) rfl ?_
        refine x_goto C (pc := 50) (tgt := 26) dX3_remove_50 (by decide) ?_
        exact ih26 (ux (ux Y 20 (ix i) (Y 20 (ix (i + 1)))) 13 (ix (Y 20 (ix (i + 1)))) i) (i + 1) (j + 1) (by omega) (by omega) (by rw [hi]; exact nI_1 j) (by rw [hY2]) (by omega)
  exact L26 _ (ux (ux X 18 (ix w) 1) 102 0 ((X 102 0) - 1)) (X 13 (ix w)) R (Nat.le_refl _) (by omega) hR (by rw [shB_0, Nat.sub_self, rgR]; exact (sr2_self (ux (ux X 18 (ix w) 1) 102 0 ((X 102 0) - 1)) 20 13).symm) (Nat.lt_succ_self _)
set_option maxHeartbeats 4000000 in
set_option maxRecDepth 100000 in
theorem c_X3_clearScores (l : Launch) (D : va_G) (G : Gx) (X : St)  : Cv l yX3_clearScores cX3_clearScores 1 none 1 (xw G) D (tyG G) [.ref (G.1 2)] X (fun X1 => X1 = (s_X3_clearScores X)) := by
  refine m_v (nL := 1) (lv := [(0, .ref (G.1 2))]) [.ref (G.1 2)] RX3 rfl (xw_adr G) (by decide +kernel) (Nat.le_of_ble_eq_true rfl) rfl (fun K C ret => ?_)
  refine x_aload_n C (pc := 0) dX3_clearScores_0 0 rfl rfl ?_
  refine xG_wins C fl_X3_24 dX3_clearScores_1 ?_
  refine x_iconst C (pc := 4) (v := 0) dX3_clearScores_4 (by decide) ?_
  refine x_callSv C (pc := 5) [.ref (G.1 14), .int 0] (fun l D => c_fillI l D (xw_adr G) (xa_wins G) 0 rfl (by decide) X 0) ml_X3_57 co_J7_fill_53178 st_J7_fill_53178 in_J7 hy_J7_fill_53178 (by decide) (by decide) (Nat.le_of_ble_eq_true rfl) dX3_clearScores_5 rfl (kxv ?_)
  refine x_aload_n C (pc := 8) dX3_clearScores_8 0 rfl rfl ?_
  refine xG_losses C fl_X3_27 dX3_clearScores_9 ?_
  refine x_iconst C (pc := 12) (v := 0) dX3_clearScores_12 (by decide) ?_
  refine x_callSv C (pc := 13) [.ref (G.1 15), .int 0] (fun l D => c_fillI l D (xw_adr G) (xa_losses G) 0 rfl (by decide) (sr X 14 (fun i => if i < 16 then 0 else X 14 i)) 0) ml_X3_57 co_J7_fill_53178 st_J7_fill_53178 in_J7 hy_J7_fill_53178 (by decide) (by decide) (Nat.le_of_ble_eq_true rfl) dX3_clearScores_13 rfl (kxv ?_)
  exact ret (sr (sr X 14 (fun i => if i < 16 then 0 else X 14 i)) 15 (fun i => if i < 16 then 0 else (sr X 14 (fun i => if i < 16 then 0 else X 14 i)) 15 i)) 16 _ dX3_clearScores_16 rfl
set_option maxHeartbeats 4000000 in
set_option maxRecDepth 100000 in
theorem c_X5_settle (l : Launch) (D : va_G) (G : Gx) (N : Nat) (X : St) (first : Int32) (hN : N ≤ 16) (h2 : 2 ≤ N) (hs : (X 117 0) = nI N) : Cv l yX5_settle cX5_settle 4 none 0 (xw G) D (tyG G) [.ref (G.1 8), .int first] X (fun X1 => X1 = (s_X5_settle X first)) := by
  refine m_v (nL := 4) (lv := [(0, .ref (G.1 8)), (1, .int first)]) [.ref (G.1 8), .int first] RX5 rfl (xw_adr G) (by decide +kernel) (Nat.le_of_ble_eq_true rfl) rfl (fun K C ret => ?_)
  have J19 : ∀ (won : Int32), (won = v_won X first) → WX K (xw G) 4 X 19 [(0, .ref (G.1 8)), (1, .int first)] [.int won] := by
    intro won hj19
    refine x_istore_n C (pc := 19) dX5_settle_19 [(0, .ref (G.1 8)), (1, .int first), (2, .int won)] [1, 2, 0] rfl (by decide) rfl ?_
    refine x_iconst C (pc := 20) (v := 2) dX5_settle_20 (by decide) ?_
    refine x_istore_n C (pc := 21) dX5_settle_21 [(0, .ref (G.1 8)), (1, .int first), (2, .int won), (3, .int 2)] [1, 2, 3, 0] rfl (by decide) rfl ?_
    have L22 : ∀ (n : Nat) (Y : St) (i : Int32) (j : Nat), (2 ≤ j) → (j ≤ N) → (i = nI j) → (Y = sr X 42 (shf (X 42) j)) → (N - j) < n → WX K (xw G) 4 Y 22 [(0, .ref (G.1 8)), (1, .int first), (2, .int won), (3, .int i)] [] := by
      intro n
      induction n with
      | zero => intro Y i j hj hjN hi hY hmu22; exact absurd hmu22 (Nat.not_lt_zero _)
      | succ n22 ih22 =>
        intro Y i j hj hjN hi hY hmu22
        refine x_iload_n C (pc := 22) dX5_settle_22 3 rfl rfl ?_
        refine x_aload_n C (pc := 23) dX5_settle_23 0 rfl rfl ?_
        refine xG_left C fl_X5_19 dX5_settle_24 ?_
        refine x_icmp_ge C (pc := 27) (tgt := 50) dX5_settle_27 (by decide) (fun c27 => ?_) (fun c27 => ?_)
        · have hys : (Y 117 0) = nI N := by rw [hY]; exact hs
          have hge : N ≤ j := geN hi hys c27 (by omega)
          have hjj : j = N := by omega
          have hl2 : (Y 117 0) - 2 = nI (N - 2) := by rw [hys]; exact pk_sub h2
          have hin2 : vp_in ((Y 117 0) - 2) 16 := by rw [hl2]; exact vp_in_nI (by omega) (by decide)
          have hxl : ix (X 117 0) = N := by rw [hs]; exact ix_nI (by omega)
          have hyl : (Y 117 0) = (X 117 0) := by rw [hys, hs]
          refine x_aload_n C (pc := 50) dX5_settle_50 0 rfl rfl ?_
          refine xG_row C fl_X5_9 dX5_settle_51 ?_
          refine x_aload_n C (pc := 54) dX5_settle_54 0 rfl rfl ?_
          refine xG_left C fl_X5_19 dX5_settle_55 ?_
          refine x_iconst C (pc := 58) (v := 2) dX5_settle_58 (by decide) ?_
          refine x_isub C (pc := 59) dX5_settle_59 ?_
          refine x_iload_n C (pc := 60) dX5_settle_60 2 rfl rfl ?_
          refine xS_row C dX5_settle_61 (by assumption) ?_
          refine x_aload_n C (pc := 62) dX5_settle_62 0 rfl rfl ?_
          refine x_dup C (pc := 63) dX5_settle_63 rfl ?_
          refine xG_left C fl_X5_19 dX5_settle_64 ?_
          refine x_top (y := (Y 117 0)) rfl ?_
          refine x_iconst C (pc := 67) (v := 1) dX5_settle_67 (by decide) ?_
          refine x_isub C (pc := 68) dX5_settle_68 ?_
          refine xP_left C fl_X5_19 (v := (Y 117 0) - 1) dX5_settle_69 ?_
          exact ret (ux (ux Y 42 (ix ((Y 117 0) - 2)) won) 117 0 ((Y 117 0) - 1)) 72 _ dX5_settle_72 (by rw [s_X5_settle, hyl, hxl, hj19, hY, hjj])
        · have hys : (Y 117 0) = nI N := by rw [hY]; exact hs
          have hlt : j < N := ltN hi hys c27 (by omega)
          have him : i - 2 = nI (j - 2) := by rw [hi]; exact pk_sub hj
          have hin : vp_in (i - 2) 16 := by rw [him]; exact vp_in_nI (by omega) (by decide)
          have hin0 : vp_in i 16 := by rw [hi]; exact vp_in_nI (by omega) (by decide)
          have hix : ix i = j := by rw [hi]; exact ix_nI (by omega)
          have hixm : ix (i - 2) = j - 2 := by rw [him]; exact ix_nI (by omega)
          have hY2 : ux Y 42 (ix (i - 2)) ((Y 42) (ix i)) = sr X 42 (shf (X 42) (j + 1)) := by
            rw [hix, hixm, hY, ux_srs, sr_s, shf_step _ hj]
          refine x_aload_n C (pc := 30) dX5_settle_30 0 rfl rfl ?_
          refine xG_row C fl_X5_9 dX5_settle_31 ?_
          refine x_iload_n C (pc := 34) dX5_settle_34 3 rfl rfl ?_
          refine x_iconst C (pc := 35) (v := 2) dX5_settle_35 (by decide) ?_
          refine x_isub C (pc := 36) dX5_settle_36 ?_
          refine x_aload_n C (pc := 37) dX5_settle_37 0 rfl rfl ?_
          refine xG_row C fl_X5_9 dX5_settle_38 ?_
          refine x_iload_n C (pc := 41) dX5_settle_41 3 rfl rfl ?_
          refine xL_row C dX5_settle_42 (by assumption) ?_
          refine xS_row C dX5_settle_43 (by assumption) ?_
          refine x_iinc C (pc := 44) (v := i + 1) dX5_settle_44 3 [(0, .ref (G.1 8)), (1, .int first), (2, .int won), (3, .int (i + 1))] [1, 2, 3, 0] rfl (by rfl) (by decide) rfl ?_
          refine x_goto C (pc := 47) (tgt := 22) dX5_settle_47 (by decide) ?_
          exact ih22 (ux Y 42 (ix (i - 2)) (Y 42 (ix i))) (i + 1) (j + 1) (by omega) (by omega) (by rw [hi]; exact nI_1 j) hY2 (by omega)
    exact L22 _ X 2 2 (Nat.le_refl _) h2 rfl (by rw [shf_2]; exact (sr_self X _).symm) (Nat.lt_succ_self _)
  refine x_iload_n C (pc := 0) dX5_settle_0 1 rfl rfl ?_
  refine x_if_eq C (pc := 1) (tgt := 13) dX5_settle_1 (by decide) (fun c1 => ?_) (fun c1 => ?_)
  · refine x_aload_n C (pc := 13) dX5_settle_13 0 rfl rfl ?_
    refine xG_row C fl_X5_9 dX5_settle_14 ?_
    refine x_iconst C (pc := 17) (v := 1) dX5_settle_17 (by decide) ?_
    refine xL_row C dX5_settle_18 (vp_in_nI (n := 1) (by decide) (by decide)) ?_
    exact J19 (X 42 (ix 1)) (by simp [v_won, c1]; rfl)
  · refine x_aload_n C (pc := 4) dX5_settle_4 0 rfl rfl ?_
    refine xG_row C fl_X5_9 dX5_settle_5 ?_
    refine x_iconst C (pc := 8) (v := 0) dX5_settle_8 (by decide) ?_
    refine xL_row C dX5_settle_9 (vp_in_nI (n := 0) (by decide) (by decide)) ?_
    refine x_goto C (pc := 10) (tgt := 19) dX5_settle_10 (by decide) ?_
    exact J19 (X 42 (ix 0)) (by simp [v_won, c1]; rfl)
set_option maxHeartbeats 4000000 in
set_option maxRecDepth 100000 in
theorem c_X8_isKind (l : Launch) (D : va_G) (G : Gx) (X : St) (k : Int32) : Ci l yX8_isKind cX8_isKind 1 (some .boolean) 0 (xw G) D (tyG G) [.int k] X (fun r X1 => r = (v_isKind k) ∧ X1 = X) := by
  refine m_z (nL := 1) (lv := [(0, .int k)]) [.int k] RX8 rfl (xw_adr G) (by decide +kernel) (Nat.le_of_ble_eq_true rfl) rfl (fun K C ret => ?_)
  refine x_iload_n C (pc := 0) dX8_isKind_0 0 rfl rfl ?_
  refine x_if_lt C (pc := 1) (tgt := 13) dX8_isKind_1 (by decide) (fun c1 => ?_) (fun c1 => ?_)
  · refine x_iconst C (pc := 13) (v := 0) dX8_isKind_13 (by decide) ?_
    exact ret 0 X 14 _ dX8_isKind_14 rfl ⟨by simp [v_isKind, *], rfl⟩
  · refine x_iload_n C (pc := 4) dX8_isKind_4 0 rfl rfl ?_
    refine x_iconst C (pc := 5) (v := 2) dX8_isKind_5 (by decide) ?_
    refine x_icmp_gt C (pc := 6) (tgt := 13) dX8_isKind_6 (by decide) (fun c6 => ?_) (fun c6 => ?_)
    · refine x_iconst C (pc := 13) (v := 0) dX8_isKind_13 (by decide) ?_
      exact ret 0 X 14 _ dX8_isKind_14 rfl ⟨by simp [v_isKind, *], rfl⟩
    · refine x_iconst C (pc := 9) (v := 1) dX8_isKind_9 (by decide) ?_
      refine x_goto C (pc := 10) (tgt := 14) dX8_isKind_10 (by decide) ?_
      exact ret 1 X 14 _ dX8_isKind_14 rfl ⟨by simp [v_isKind, *], rfl⟩
set_option maxHeartbeats 4000000 in
set_option maxRecDepth 100000 in
theorem c_X8_isGroup (l : Launch) (D : va_G) (G : Gx) (X : St) (k : Int32) : Ci l yX8_isGroup cX8_isGroup 1 (some .boolean) 0 (xw G) D (tyG G) [.int k] X (fun r X1 => r = (v_isGroup k) ∧ X1 = X) := by
  refine m_z (nL := 1) (lv := [(0, .int k)]) [.int k] RX8 rfl (xw_adr G) (by decide +kernel) (Nat.le_of_ble_eq_true rfl) rfl (fun K C ret => ?_)
  refine x_iload_n C (pc := 0) dX8_isGroup_0 0 rfl rfl ?_
  refine x_if_lt C (pc := 1) (tgt := 14) dX8_isGroup_1 (by decide) (fun c1 => ?_) (fun c1 => ?_)
  · refine x_iconst C (pc := 14) (v := 0) dX8_isGroup_14 (by decide) ?_
    exact ret 0 X 15 _ dX8_isGroup_15 rfl ⟨by simp [v_isGroup, *], rfl⟩
  · refine x_iload_n C (pc := 4) dX8_isGroup_4 0 rfl rfl ?_
    refine x_bipush C (pc := 5) (v := 8) dX8_isGroup_5 (by decide) ?_
    refine x_icmp_ge C (pc := 7) (tgt := 14) dX8_isGroup_7 (by decide) (fun c7 => ?_) (fun c7 => ?_)
    · refine x_iconst C (pc := 14) (v := 0) dX8_isGroup_14 (by decide) ?_
      exact ret 0 X 15 _ dX8_isGroup_15 rfl ⟨by simp [v_isGroup, *], rfl⟩
    · refine x_iconst C (pc := 10) (v := 1) dX8_isGroup_10 (by decide) ?_
      refine x_goto C (pc := 11) (tgt := 15) dX8_isGroup_11 (by decide) ?_
      exact ret 1 X 15 _ dX8_isGroup_15 rfl ⟨by simp [v_isGroup, *], rfl⟩
set_option maxHeartbeats 4000000 in
set_option maxRecDepth 100000 in
theorem c_X8_isSheet (l : Launch) (D : va_G) (G : Gx) (X : St) (k : Int32) : Ci l yX8_isSheet cX8_isSheet 1 (some .boolean) 0 (xw G) D (tyG G) [.int k] X (fun r X1 => r = (v_isSheet k) ∧ X1 = X) := by
  refine m_z (nL := 1) (lv := [(0, .int k)]) [.int k] RX8 rfl (xw_adr G) (by decide +kernel) (Nat.le_of_ble_eq_true rfl) rfl (fun K C ret => ?_)
  refine x_iload_n C (pc := 0) dX8_isSheet_0 0 rfl rfl ?_
  refine x_if_lt C (pc := 1) (tgt := 13) dX8_isSheet_1 (by decide) (fun c1 => ?_) (fun c1 => ?_)
  · refine x_iconst C (pc := 13) (v := 0) dX8_isSheet_13 (by decide) ?_
    exact ret 0 X 14 _ dX8_isSheet_14 rfl ⟨by simp [v_isSheet, *], rfl⟩
  · refine x_iload_n C (pc := 4) dX8_isSheet_4 0 rfl rfl ?_
    refine x_iconst C (pc := 5) (v := 4) dX8_isSheet_5 (by decide) ?_
    refine x_icmp_ge C (pc := 6) (tgt := 13) dX8_isSheet_6 (by decide) (fun c6 => ?_) (fun c6 => ?_)
    · refine x_iconst C (pc := 13) (v := 0) dX8_isSheet_13 (by decide) ?_
      exact ret 0 X 14 _ dX8_isSheet_14 rfl ⟨by simp [v_isSheet, *], rfl⟩
    · refine x_iconst C (pc := 9) (v := 1) dX8_isSheet_9 (by decide) ?_
      refine x_goto C (pc := 10) (tgt := 14) dX8_isSheet_10 (by decide) ?_
      exact ret 1 X 14 _ dX8_isSheet_14 rfl ⟨by simp [v_isSheet, *], rfl⟩
set_option maxHeartbeats 4000000 in
set_option maxRecDepth 100000 in
theorem c_X8_refusalOf (l : Launch) (D : va_G) (G : Gx) (E : Nat) (X : St) (w : Int32) (hE : (X 101 0) = nI E) (hE16 : E ≤ 16) : Ci l yX8_refusalOf cX8_refusalOf 2 (some .int) 1 (xw G) D (tyG G) [.ref (G.1 0), .int w] X (fun r X1 => r = (v_ref X w) ∧ X1 = (s_ref X w)) := by
  refine m_i (nL := 2) (lv := [(0, .ref (G.1 0)), (1, .int w)]) [.ref (G.1 0), .int w] RX8 rfl (xw_adr G) (by decide +kernel) (Nat.le_of_ble_eq_true rfl) rfl (fun K C ret => ?_)
  refine x_aload_n C (pc := 0) dX8_refusalOf_0 0 rfl rfl ?_
  refine xG_roster C fl_X8_19 dX8_refusalOf_1 ?_
  refine x_iload_n C (pc := 4) dX8_refusalOf_4 1 rfl rfl ?_
  refine x_callVi C (pc := 5) [.int w] (fun l D => c_X3_knows l D G X w ) (xe_2 G _) rfl ml_X8_87 co_X3_knows im_X3_knows se_X3_knows in_X3 hy_X3_knows (by decide) (by decide) (Nat.le_of_ble_eq_true rfl) dX8_refusalOf_5 rfl (kx ?_)
  refine x_if_ne C (pc := 8) (tgt := 13) dX8_refusalOf_8 (by decide) (fun c8 => ?_) (fun c8 => ?_)
  · have hw : vp_in w 16 := knows_in c8 hE hE16
    refine x_aload_n C (pc := 13) dX8_refusalOf_13 0 rfl rfl ?_
    refine xG_roster C fl_X8_19 dX8_refusalOf_14 ?_
    refine xG_gone C fl_X8_90 dX8_refusalOf_17 ?_
    refine x_iload_n C (pc := 20) dX8_refusalOf_20 1 rfl rfl ?_
    refine xL_gone C dX8_refusalOf_21 (by assumption) ?_
    refine x_if_eq C (pc := 22) (tgt := 36) dX8_refusalOf_22 (by decide) (fun c22 => ?_) (fun c22 => ?_)
    · refine x_iconst C (pc := 36) (v := 0) dX8_refusalOf_36 (by decide) ?_
      exact ret 0 X 37 _ dX8_refusalOf_37 ⟨by simp [v_ref, *], by simp [s_ref, *] <;> rfl⟩
    · refine x_aload_n C (pc := 25) dX8_refusalOf_25 0 rfl rfl ?_
      refine xG_log C fl_X8_12 dX8_refusalOf_26 ?_
      refine x_iconst C (pc := 29) (v := 1) dX8_refusalOf_29 (by decide) ?_
      refine x_callVi C (pc := 30) [.int 1] (fun l D => c_X2_found l D G X 1 in1_6) (xe_1 G _) rfl ml_X8_94 co_X2_found im_X2_found se_X2_found in_X2 hy_X2_found (by decide) (by decide) (Nat.le_of_ble_eq_true rfl) dX8_refusalOf_30 rfl (kx ?_)
      refine x_eqX (X' := (ux (ux X 100 0 1) 9 (ix 1) ((X 9 (ix 1)) + 1))) rfl ?_
      refine x_goto C (pc := 33) (tgt := 37) dX8_refusalOf_33 (by decide) ?_
      exact ret (-3) (ux (ux X 100 0 1) 9 (ix 1) ((X 9 (ix 1)) + 1)) 37 _ dX8_refusalOf_37 ⟨by simp [v_ref, *], by simp [s_ref, *] <;> rfl⟩
  · refine x_iconst C (pc := 11) (v := (-1)) dX8_refusalOf_11 (by decide) ?_
    exact ret (-1) X 12 _ dX8_refusalOf_12 ⟨by simp [v_ref, *], by simp [s_ref, *] <;> rfl⟩
