
def cpA (f g : Nat → Int32) (src n : Nat) : Nat → Int32 := fun q => if q < n then f (src + q) else g q
theorem cpA_step (f g : Nat → Int32) (src n : Nat) : upd (cpA f g src n) n (f (src + n)) = cpA f g src (n + 1) := by
  funext j
  simp only [cpA, upd]
  by_cases e : j = n
  · rw [if_pos e, e, if_pos (by omega)]
  · rw [if_neg e]
    by_cases h : j < n
    · rw [if_pos h, if_pos (by omega)]
    · rw [if_neg h, if_neg (by omega)]
theorem cpA_0 (f g : Nat → Int32) (src : Nat) : cpA f g src 0 = g := by
  funext j
  simp [cpA]
theorem cpy_step (f : Nat → Int32) (src dst n : Nat) : upd (va_cpy f f src dst n) (dst + n) (f (src + n)) = va_cpy f f src dst (n + 1) := by
  funext j
  simp only [va_cpy, upd]
  by_cases e : j = dst + n
  · rw [if_pos e, if_pos (by omega), e]
    congr 1; omega
  · rw [if_neg e]
    by_cases h : dst ≤ j ∧ j < dst + n
    · rw [if_pos h, if_pos (by omega)]
    · rw [if_neg h, if_neg (by omega)]
theorem cpy_0 (f : Nat → Int32) (src dst : Nat) : va_cpy f f src dst 0 = f := by
  funext j
  simp only [va_cpy]
  rw [if_neg (by omega)]
def byt (f : Nat → Int32) : Prop := ∀ q, (f q).toInt8.toInt32 = f q
theorem byt_nar {f : Nat → Int32} (h : byt f) (q : Nat) : vp_nar .byte (f q) = f q := by
  rw [vp_nar_byte]; exact h q
def lc1 (M : St) (s i n : Int32) : Int32 := lg_cmp (i.toInt64 + n.toInt64) ((M 12) (ix s)).toInt64
def vM_copy (M : St) (s i t j n : Int32) : Int32 := if vin s 0 3 = 0 then (-1) else if vin t 0 3 = 0 then (-1) else if (M 12) (ix s) < 0 then (-3) else if 0 ≤ (M 12) (ix t) then (if i < 0 then (-3) else if j < 0 then (-3) else if n < 0 then (-3) else if 0 < lc1 M s i n then (-3) else if lc1 M t j n ≤ 0 then 1 else (-3)) else (-3)
def sM_cp (M : St) (s i t j n : Nat) : St := sr (sr M 14 (cpA (M 13) (M 14) (16 * s + i) n)) 13 (va_cpy (M 13) (M 13) (16 * s + i) (16 * t + j) n)
def sM_copy (M : St) (s i t j n : Int32) : St := if vin s 0 3 = 0 then M else if vin t 0 3 = 0 then M else if (M 12) (ix s) < 0 then sM_found M 1 else if 0 ≤ (M 12) (ix t) then (if i < 0 then sM_found M 2 else if j < 0 then sM_found M 2 else if n < 0 then sM_found M 2 else if 0 < lc1 M s i n then sM_found M 2 else if lc1 M t j n ≤ 0 then sM_cp M (ix s) (ix i) (ix t) (ix j) (ix n) else sM_found M 2) else sM_found M 1
theorem lc_le {M : St} {s i n : Int32} {a b z : Nat} (hi : i = nI a) (hn : n = nI b) (ha : a < 2 ^ 31) (hb : b < 2 ^ 31) (hz : (M 12) (ix s) = nI z) (h16 : z ≤ 16) (h : ¬ 0 < lc1 M s i n) : a + b ≤ z := by
  unfold lc1 at h
  rw [hi, hn, hz, nI_l ha, nI_l hb, nI_l (by omega), lN_add] at h
  rcases Nat.lt_or_ge z (a + b) with q | q
  · exfalso
    apply h
    unfold lg_cmp
    rw [if_pos ((pk_lLT (by omega) (by omega)).mpr q)]
    decide
  · exact q
set_option maxHeartbeats 4000000 in
set_option maxRecDepth 100000 in
theorem c_X9_copy (l : Launch) (D : va_G) (G : Gx) (M : St) (s : Int32) (i : Int32) (t : Int32) (j : Int32) (n : Int32) (hZ : ∀ j, j < 4 → (M 12) j = (-1) ∨ ∃ z, z ≤ 16 ∧ (M 12) j = nI z) (hF : byt (M 13)) : Ci l yX9_copy cX9_copy 7 (some .int) 2 (mw G) D (tyG G) [.ref (G.1 0), .int s, .int i, .int t, .int j, .int n] M (fun r X1 => r = (vM_copy M s i t j n) ∧ X1 = (sM_copy M s i t j n)) := by
  refine m_i (nL := 7) (lv := [(0, .ref (G.1 0)), (1, .int s), (2, .int i), (3, .int t), (4, .int j), (5, .int n)]) [.ref (G.1 0), .int s, .int i, .int t, .int j, .int n] RX9 rfl (mw_adr G) (by decide +kernel) (Nat.le_of_ble_eq_true rfl) rfl (fun K C ret => ?_)
  refine x_iload_n C (pc := 0) dX9_copy_0 1 rfl rfl ?_
  refine x_callSi C (pc := 1) [.int s] (fun l D => c_X9_isSheet l D G M s ) ml_X9_158 co_X9_isSheet st_X9_isSheet in_X9 hy_X9_isSheet.2 (by decide) (by decide) (Nat.le_of_ble_eq_true rfl) dX9_copy_1 rfl (kx ?_)
  refine x_if_eq C (pc := 4) (tgt := 14) dX9_copy_4 (by decide) (fun c4 => ?_) (fun c4 => ?_)
  · refine x_iconst C (pc := 14) (v := (-1)) dX9_copy_14 (by decide) ?_
    exact ret (-1) M 15 _ dX9_copy_15 ⟨by unfold vM_copy; (repeat (first | rw [if_pos (by assumption)] | rw [if_neg (by assumption)])) <;> first | rfl , by unfold sM_copy; (repeat (first | rw [if_pos (by assumption)] | rw [if_neg (by assumption)])) <;> first | rfl ⟩
  · refine x_iload_n C (pc := 7) dX9_copy_7 3 rfl rfl ?_
    refine x_callSi C (pc := 8) [.int t] (fun l D => c_X9_isSheet l D G M t ) ml_X9_158 co_X9_isSheet st_X9_isSheet in_X9 hy_X9_isSheet.2 (by decide) (by decide) (Nat.le_of_ble_eq_true rfl) dX9_copy_8 rfl (kx ?_)
    refine x_if_ne C (pc := 11) (tgt := 16) dX9_copy_11 (by decide) (fun c11 => ?_) (fun c11 => ?_)
    · have hs : vp_in s 4 := vinS_in c4
      have ht : vp_in t 4 := vinS_in c11
      refine x_aload_n C (pc := 16) dX9_copy_16 0 rfl rfl ?_
      refine mG_sheetSize C fl_X9_44 dX9_copy_17 ?_
      refine x_iload_n C (pc := 20) dX9_copy_20 1 rfl rfl ?_
      refine mL_sheetSize C dX9_copy_21 (by assumption) ?_
      refine x_if_lt C (pc := 22) (tgt := 34) dX9_copy_22 (by decide) (fun c22 => ?_) (fun c22 => ?_)
      · refine x_aload_n C (pc := 34) dX9_copy_34 0 rfl rfl ?_
        refine x_iconst C (pc := 35) (v := 1) dX9_copy_35 (by decide) ?_
        refine x_callVi C (pc := 36) [.int 1] (fun l D => c_X9_meets l D G M 1 in1_6) (me_0 G _) rfl ml_X9_143 co_X9_meets im_X9_meets se_X9_meets in_X9 hy_X9_meets (by decide) (by decide) (Nat.le_of_ble_eq_true rfl) dX9_copy_36 rfl (kx ?_)
        refine x_eqX (X' := (ux (ux M 100 0 1) 1 (ix 1) ((M 1 (ix 1)) + 1))) rfl ?_
        exact ret (-3) (ux (ux M 100 0 1) 1 (ix 1) ((M 1 (ix 1)) + 1)) 39 _ dX9_copy_39 ⟨by unfold vM_copy; (repeat (first | rw [if_pos (by assumption)] | rw [if_neg (by assumption)])) <;> first | rfl , by unfold sM_copy; (repeat (first | rw [if_pos (by assumption)] | rw [if_neg (by assumption)])) <;> first | rfl ⟩
      · refine x_aload_n C (pc := 25) dX9_copy_25 0 rfl rfl ?_
        refine mG_sheetSize C fl_X9_44 dX9_copy_26 ?_
        refine x_iload_n C (pc := 29) dX9_copy_29 3 rfl rfl ?_
        refine mL_sheetSize C dX9_copy_30 (by assumption) ?_
        refine x_if_ge C (pc := 31) (tgt := 40) dX9_copy_31 (by decide) (fun c31 => ?_) (fun c31 => ?_)
        · refine x_iload_n C (pc := 40) dX9_copy_40 2 rfl rfl ?_
          refine x_if_lt C (pc := 41) (tgt := 89) dX9_copy_41 (by decide) (fun c41 => ?_) (fun c41 => ?_)
          · refine x_aload_n C (pc := 89) dX9_copy_89 0 rfl rfl ?_
            refine x_iconst C (pc := 90) (v := 2) dX9_copy_90 (by decide) ?_
            refine x_callVi C (pc := 91) [.int 2] (fun l D => c_X9_meets l D G M 2 in2_6) (me_0 G _) rfl ml_X9_143 co_X9_meets im_X9_meets se_X9_meets in_X9 hy_X9_meets (by decide) (by decide) (Nat.le_of_ble_eq_true rfl) dX9_copy_91 rfl (kx ?_)
            refine x_eqX (X' := (ux (ux M 100 0 2) 1 (ix 2) ((M 1 (ix 2)) + 1))) rfl ?_
            exact ret (-3) (ux (ux M 100 0 2) 1 (ix 2) ((M 1 (ix 2)) + 1)) 94 _ dX9_copy_94 ⟨by unfold vM_copy; (repeat (first | rw [if_pos (by assumption)] | rw [if_neg (by assumption)])) <;> first | rfl , by unfold sM_copy; (repeat (first | rw [if_pos (by assumption)] | rw [if_neg (by assumption)])) <;> first | rfl ⟩
          · refine x_iload C (pc := 44) dX9_copy_44 4 rfl ?_
            refine x_if_lt C (pc := 46) (tgt := 89) dX9_copy_46 (by decide) (fun c46 => ?_) (fun c46 => ?_)
            · refine x_aload_n C (pc := 89) dX9_copy_89 0 rfl rfl ?_
              refine x_iconst C (pc := 90) (v := 2) dX9_copy_90 (by decide) ?_
              refine x_callVi C (pc := 91) [.int 2] (fun l D => c_X9_meets l D G M 2 in2_6) (me_0 G _) rfl ml_X9_143 co_X9_meets im_X9_meets se_X9_meets in_X9 hy_X9_meets (by decide) (by decide) (Nat.le_of_ble_eq_true rfl) dX9_copy_91 rfl (kx ?_)
              refine x_eqX (X' := (ux (ux M 100 0 2) 1 (ix 2) ((M 1 (ix 2)) + 1))) rfl ?_
              exact ret (-3) (ux (ux M 100 0 2) 1 (ix 2) ((M 1 (ix 2)) + 1)) 94 _ dX9_copy_94 ⟨by unfold vM_copy; (repeat (first | rw [if_pos (by assumption)] | rw [if_neg (by assumption)])) <;> first | rfl , by unfold sM_copy; (repeat (first | rw [if_pos (by assumption)] | rw [if_neg (by assumption)])) <;> first | rfl ⟩
            · refine x_iload C (pc := 49) dX9_copy_49 5 rfl ?_
              refine x_if_lt C (pc := 51) (tgt := 89) dX9_copy_51 (by decide) (fun c51 => ?_) (fun c51 => ?_)
              · refine x_aload_n C (pc := 89) dX9_copy_89 0 rfl rfl ?_
                refine x_iconst C (pc := 90) (v := 2) dX9_copy_90 (by decide) ?_
                refine x_callVi C (pc := 91) [.int 2] (fun l D => c_X9_meets l D G M 2 in2_6) (me_0 G _) rfl ml_X9_143 co_X9_meets im_X9_meets se_X9_meets in_X9 hy_X9_meets (by decide) (by decide) (Nat.le_of_ble_eq_true rfl) dX9_copy_91 rfl (kx ?_)
                refine x_eqX (X' := (ux (ux M 100 0 2) 1 (ix 2) ((M 1 (ix 2)) + 1))) rfl ?_
                exact ret (-3) (ux (ux M 100 0 2) 1 (ix 2) ((M 1 (ix 2)) + 1)) 94 _ dX9_copy_94 ⟨by unfold vM_copy; (repeat (first | rw [if_pos (by assumption)] | rw [if_neg (by assumption)])) <;> first | rfl , by unfold sM_copy; (repeat (first | rw [if_pos (by assumption)] | rw [if_neg (by assumption)])) <;> first | rfl ⟩
              · refine x_iload_n C (pc := 54) dX9_copy_54 2 rfl rfl ?_
                refine x_i2l C (pc := 55) dX9_copy_55 ?_
                refine x_iload C (pc := 56) dX9_copy_56 5 rfl ?_
                refine x_i2l C (pc := 58) dX9_copy_58 ?_
                refine x_ladd C (pc := 59) dX9_copy_59 ?_
                refine x_aload_n C (pc := 60) dX9_copy_60 0 rfl rfl ?_
                refine mG_sheetSize C fl_X9_44 dX9_copy_61 ?_
                refine x_iload_n C (pc := 64) dX9_copy_64 1 rfl rfl ?_
                refine mL_sheetSize C dX9_copy_65 (by assumption) ?_
                refine x_i2l C (pc := 66) dX9_copy_66 ?_
                refine x_lcmp C (pc := 67) dX9_copy_67 ?_
                refine x_top (y := lc1 M s i n) (rfl) ?_
                refine x_if_gt C (pc := 68) (tgt := 89) dX9_copy_68 (by decide) (fun c68 => ?_) (fun c68 => ?_)
                · refine x_aload_n C (pc := 89) dX9_copy_89 0 rfl rfl ?_
                  refine x_iconst C (pc := 90) (v := 2) dX9_copy_90 (by decide) ?_
                  refine x_callVi C (pc := 91) [.int 2] (fun l D => c_X9_meets l D G M 2 in2_6) (me_0 G _) rfl ml_X9_143 co_X9_meets im_X9_meets se_X9_meets in_X9 hy_X9_meets (by decide) (by decide) (Nat.le_of_ble_eq_true rfl) dX9_copy_91 rfl (kx ?_)
                  refine x_eqX (X' := (ux (ux M 100 0 2) 1 (ix 2) ((M 1 (ix 2)) + 1))) rfl ?_
                  exact ret (-3) (ux (ux M 100 0 2) 1 (ix 2) ((M 1 (ix 2)) + 1)) 94 _ dX9_copy_94 ⟨by unfold vM_copy; (repeat (first | rw [if_pos (by assumption)] | rw [if_neg (by assumption)])) <;> first | rfl , by unfold sM_copy; (repeat (first | rw [if_pos (by assumption)] | rw [if_neg (by assumption)])) <;> first | rfl ⟩
                · refine x_iload C (pc := 71) dX9_copy_71 4 rfl ?_
                  refine x_i2l C (pc := 73) dX9_copy_73 ?_
                  refine x_iload C (pc := 74) dX9_copy_74 5 rfl ?_
                  refine x_i2l C (pc := 76) dX9_copy_76 ?_
                  refine x_ladd C (pc := 77) dX9_copy_77 ?_
                  refine x_aload_n C (pc := 78) dX9_copy_78 0 rfl rfl ?_
                  refine mG_sheetSize C fl_X9_44 dX9_copy_79 ?_
                  refine x_iload_n C (pc := 82) dX9_copy_82 3 rfl rfl ?_
                  refine mL_sheetSize C dX9_copy_83 (by assumption) ?_
                  refine x_i2l C (pc := 84) dX9_copy_84 ?_
                  refine x_lcmp C (pc := 85) dX9_copy_85 ?_
                  refine x_top (y := lc1 M t j n) (rfl) ?_
                  refine x_if_le C (pc := 86) (tgt := 95) dX9_copy_86 (by decide) (fun c86 => ?_) (fun c86 => ?_)
                  · obtain ⟨zs, hzs, hzs2⟩ := (hZ _ (in_ix hs)).resolve_left (fun e => c22 (by rw [e]; decide))
                    obtain ⟨zt, hzt, hzt2⟩ := (hZ _ (in_ix ht)).resolve_left (fun e => by rw [e] at c31; exact absurd c31 (by decide))
                    obtain ⟨ia, hia, hie⟩ := nI_of c41
                    obtain ⟨ja, hja, hje⟩ := nI_of c46
                    obtain ⟨na, hna, hne⟩ := nI_of c51
                    have hb1 : ia + na ≤ zs := lc_le hie hne hia hna hzs2 hzs c68
                    have hb2 : ja + na ≤ zt := lc_le hje hne hja hna hzt2 hzt (Int32.not_lt.mpr c86)
                    have hnx : ix n = na := by rw [hne]; exact ix_nI hna
                    have hix0 : ix i = ia := by rw [hie]; exact ix_nI hia
                    have hjx0 : ix j = ja := by rw [hje]; exact ix_nI hja
                    have hs4 := in_ix hs
                    have ht4 := in_ix ht
                    refine x_iconst C (pc := 95) (v := 0) dX9_copy_95 (by decide) ?_
                    refine x_istore C (pc := 96) dX9_copy_96 [(0, .ref (G.1 0)), (1, .int s), (2, .int i), (3, .int t), (4, .int j), (5, .int n), (6, .int 0)] [1, 2, 3, 4, 5, 6, 0] (by decide) rfl ?_
                    have L98 : ∀ (nu : Nat) (x : Int32) (k : Nat), (k ≤ ix n) → (x = nI k) → (ix n - k) < nu → WX K (mw G) 7 (sr M 14 (cpA (M 13) (M 14) (16 * ix s + ix i) k)) 98 [(0, .ref (G.1 0)), (1, .int s), (2, .int i), (3, .int t), (4, .int j), (5, .int n), (6, .int x)] [] := by
                      intro nu
                      induction nu with
                      | zero => intro x k hk hx hmu98; exact absurd hmu98 (Nat.not_lt_zero _)
                      | succ n98 ih98 =>
                        intro x k hk hx hmu98
                        refine x_iload C (pc := 98) dX9_copy_98 6 rfl ?_
                        refine x_iload C (pc := 100) dX9_copy_100 5 rfl ?_
                        refine x_icmp_ge C (pc := 102) (tgt := 132) dX9_copy_102 (by decide) (fun c102 => ?_) (fun c102 => ?_)
                        · have hkn : k = ix n := by have := geN hx hne c102 (by omega); omega
                          refine x_iconst C (pc := 132) (v := 0) dX9_copy_132 (by decide) ?_
                          refine x_istore C (pc := 133) dX9_copy_133 [(0, .ref (G.1 0)), (1, .int s), (2, .int i), (3, .int t), (4, .int j), (5, .int n), (6, .int 0)] [1, 2, 3, 4, 5, 6, 0] (by decide) rfl ?_
                          have L135 : ∀ (nu : Nat) (x : Int32) (k : Nat), (k ≤ ix n) → (x = nI k) → (ix n - k) < nu → WX K (mw G) 7 (sr (sr M 14 (cpA (M 13) (M 14) (16 * ix s + ix i) (ix n))) 13 (va_cpy (M 13) (M 13) (16 * ix s + ix i) (16 * ix t + ix j) k)) 135 [(0, .ref (G.1 0)), (1, .int s), (2, .int i), (3, .int t), (4, .int j), (5, .int n), (6, .int x)] [] := by
                            intro nu
                            induction nu with
                            | zero => intro x k hk hx hmu135; exact absurd hmu135 (Nat.not_lt_zero _)
                            | succ n135 ih135 =>
                              intro x k hk hx hmu135
                              refine x_iload C (pc := 135) dX9_copy_135 6 rfl ?_
                              refine x_iload C (pc := 137) dX9_copy_137 5 rfl ?_
                              refine x_icmp_ge C (pc := 139) (tgt := 170) dX9_copy_139 (by decide) (fun c139 => ?_) (fun c139 => ?_)
                              · have hkn2 : k = ix n := by have := geN hx hne c139 (by omega); omega
                                refine x_iconst C (pc := 170) (v := 1) dX9_copy_170 (by decide) ?_
                                exact ret 1 (sr (sr M 14 (cpA (M 13) (M 14) (16 * ix s + ix i) (ix n))) 13 (va_cpy (M 13) (M 13) (16 * ix s + ix i) (16 * ix t + ix j) k)) 171 _ dX9_copy_171 ⟨by unfold vM_copy; rw [if_neg c4, if_neg c11, if_neg c22, if_pos c31, if_neg c41, if_neg c46, if_neg c51, if_neg c68, if_pos c86], by unfold sM_copy; rw [if_neg c4, if_neg c11, if_neg c22, if_pos c31, if_neg c41, if_neg c46, if_neg c51, if_neg c68, if_pos c86, hkn2]; rfl⟩
                              · have hkl : k < na := ltN hx hne c139 (by omega)
                                have hxx : ix x = k := by rw [hx]; exact ix_nI (by omega)
                                have hx16 : vp_in x 16 := by rw [hx]; exact vp_in_nI (by omega) (by decide)
                                have he16 : 16 * t + j + x = nI (16 * ix t + ix j + k) := by rw [ix16 (in_nI ht (by decide)) hje, hx, nI_add, hjx0]
                                have h64 : vp_in (16 * t + j + x) 64 := by rw [he16]; exact vp_in_nI (by omega) (by decide)
                                have htx : ix (16 * t + j + x) = 16 * ix t + ix j + k := by rw [he16]; exact ix_nI (by omega)
                                have hcx : cpA (M 13) (M 14) (16 * ix s + ix i) (ix n) k = (M 13) (16 * ix s + ix i + k) := by unfold cpA; rw [if_pos (by omega)]
                                refine x_aload_n C (pc := 142) dX9_copy_142 0 rfl rfl ?_
                                refine mG_sheets C fl_X9_47 dX9_copy_143 ?_
                                refine x_bipush C (pc := 146) (v := 16) dX9_copy_146 (by decide) ?_
                                refine x_iload_n C (pc := 148) dX9_copy_148 3 rfl rfl ?_
                                refine x_imul C (pc := 149) dX9_copy_149 ?_
                                refine x_iload C (pc := 150) dX9_copy_150 4 rfl ?_
                                refine x_iadd C (pc := 152) dX9_copy_152 ?_
                                refine x_iload C (pc := 153) dX9_copy_153 6 rfl ?_
                                refine x_iadd C (pc := 155) dX9_copy_155 ?_
                                refine x_aload_n C (pc := 156) dX9_copy_156 0 rfl rfl ?_
                                refine mG_copied C fl_X9_51 dX9_copy_157 ?_
                                refine x_iload C (pc := 160) dX9_copy_160 6 rfl ?_
                                refine mL_copied C dX9_copy_162 (by assumption) ?_
                                refine x_top (y := ((cpA (M 13) (M 14) (16 * ix s + ix i) (ix n)) (ix x))) rfl ?_
                                refine mS_sheets C dX9_copy_163 (by assumption) ?_
                                refine x_iinc C (pc := 164) (v := x + 1) dX9_copy_164 6 [(0, .ref (G.1 0)), (1, .int s), (2, .int i), (3, .int t), (4, .int j), (5, .int n), (6, .int (x + 1))] [1, 2, 3, 4, 5, 6, 0] rfl (by rfl) (by decide) rfl ?_
                                refine x_goto C (pc := 167) (tgt := 135) dX9_copy_167 (by decide) ?_
                                refine x_eqX (X' := (sr (sr M 14 (cpA (M 13) (M 14) (16 * ix s + ix i) (ix n))) 13 (va_cpy (M 13) (M 13) (16 * ix s + ix i) (16 * ix t + ix j) (k + 1)))) (by rw [hxx, htx, hcx, byt_nar hF, ux_srs, cpy_step]) ?_
                                exact ih135 (x + 1) (k + 1) (by omega) (by rw [hx]; exact nI_1 k) (by omega)
                          refine x_eqX (X' := (sr (sr M 14 (cpA (M 13) (M 14) (16 * ix s + ix i) (ix n))) 13 (va_cpy (M 13) (M 13) (16 * ix s + ix i) (16 * ix t + ix j) 0))) (by rw [hkn, cpy_0]; exact (sr_self (sr M 14 (cpA (M 13) (M 14) (16 * ix s + ix i) (ix n))) 13).symm) ?_
                          exact L135 _ 0 0 (Nat.zero_le _) rfl (Nat.lt_succ_self _)
                        · have hkl : k < na := ltN hx hne c102 (by omega)
                          have hxx : ix x = k := by rw [hx]; exact ix_nI (by omega)
                          have hx16 : vp_in x 16 := by rw [hx]; exact vp_in_nI (by omega) (by decide)
                          have he16 : 16 * s + i + x = nI (16 * ix s + ix i + k) := by rw [ix16 (in_nI hs (by decide)) hie, hx, nI_add, hix0]
                          have h64 : vp_in (16 * s + i + x) 64 := by rw [he16]; exact vp_in_nI (by omega) (by decide)
                          have hsx : ix (16 * s + i + x) = 16 * ix s + ix i + k := by rw [he16]; exact ix_nI (by omega)
                          refine x_aload_n C (pc := 105) dX9_copy_105 0 rfl rfl ?_
                          refine mG_copied C fl_X9_51 dX9_copy_106 ?_
                          refine x_iload C (pc := 109) dX9_copy_109 6 rfl ?_
                          refine x_aload_n C (pc := 111) dX9_copy_111 0 rfl rfl ?_
                          refine mG_sheets C fl_X9_47 dX9_copy_112 ?_
                          refine x_bipush C (pc := 115) (v := 16) dX9_copy_115 (by decide) ?_
                          refine x_iload_n C (pc := 117) dX9_copy_117 1 rfl rfl ?_
                          refine x_imul C (pc := 118) dX9_copy_118 ?_
                          refine x_iload_n C (pc := 119) dX9_copy_119 2 rfl rfl ?_
                          refine x_iadd C (pc := 120) dX9_copy_120 ?_
                          refine x_iload C (pc := 121) dX9_copy_121 6 rfl ?_
                          refine x_iadd C (pc := 123) dX9_copy_123 ?_
                          refine mL_sheets C dX9_copy_124 (by assumption) ?_
                          refine x_top (y := (M 13 (ix (((16 * s) + i) + x)))) rfl ?_
                          refine mS_copied C dX9_copy_125 (by assumption) ?_
                          refine x_iinc C (pc := 126) (v := x + 1) dX9_copy_126 6 [(0, .ref (G.1 0)), (1, .int s), (2, .int i), (3, .int t), (4, .int j), (5, .int n), (6, .int (x + 1))] [1, 2, 3, 4, 5, 6, 0] rfl (by rfl) (by decide) rfl ?_
                          refine x_goto C (pc := 129) (tgt := 98) dX9_copy_129 (by decide) ?_
                          refine x_eqX (X' := (sr M 14 (cpA (M 13) (M 14) (16 * ix s + ix i) (k + 1)))) (by rw [hxx, hsx, byt_nar hF, ux_srs, cpA_step]) ?_
                          exact ih98 (x + 1) (k + 1) (by omega) (by rw [hx]; exact nI_1 k) (by omega)
                    refine x_eqX (X' := (sr M 14 (cpA (M 13) (M 14) (16 * ix s + ix i) 0))) (by rw [cpA_0, sr_self]) ?_
                    exact L98 _ 0 0 (Nat.zero_le _) rfl (Nat.lt_succ_self _)
                  · refine x_aload_n C (pc := 89) dX9_copy_89 0 rfl rfl ?_
                    refine x_iconst C (pc := 90) (v := 2) dX9_copy_90 (by decide) ?_
                    refine x_callVi C (pc := 91) [.int 2] (fun l D => c_X9_meets l D G M 2 in2_6) (me_0 G _) rfl ml_X9_143 co_X9_meets im_X9_meets se_X9_meets in_X9 hy_X9_meets (by decide) (by decide) (Nat.le_of_ble_eq_true rfl) dX9_copy_91 rfl (kx ?_)
                    refine x_eqX (X' := (ux (ux M 100 0 2) 1 (ix 2) ((M 1 (ix 2)) + 1))) rfl ?_
                    exact ret (-3) (ux (ux M 100 0 2) 1 (ix 2) ((M 1 (ix 2)) + 1)) 94 _ dX9_copy_94 ⟨by unfold vM_copy; (repeat (first | rw [if_pos (by assumption)] | rw [if_neg (by assumption)])) <;> first | rfl , by unfold sM_copy; (repeat (first | rw [if_pos (by assumption)] | rw [if_neg (by assumption)])) <;> first | rfl ⟩
        · refine x_aload_n C (pc := 34) dX9_copy_34 0 rfl rfl ?_
          refine x_iconst C (pc := 35) (v := 1) dX9_copy_35 (by decide) ?_
          refine x_callVi C (pc := 36) [.int 1] (fun l D => c_X9_meets l D G M 1 in1_6) (me_0 G _) rfl ml_X9_143 co_X9_meets im_X9_meets se_X9_meets in_X9 hy_X9_meets (by decide) (by decide) (Nat.le_of_ble_eq_true rfl) dX9_copy_36 rfl (kx ?_)
          refine x_eqX (X' := (ux (ux M 100 0 1) 1 (ix 1) ((M 1 (ix 1)) + 1))) rfl ?_
          exact ret (-3) (ux (ux M 100 0 1) 1 (ix 1) ((M 1 (ix 1)) + 1)) 39 _ dX9_copy_39 ⟨by unfold vM_copy; (repeat (first | rw [if_pos (by assumption)] | rw [if_neg (by assumption)])) <;> first | rfl , by unfold sM_copy; (repeat (first | rw [if_pos (by assumption)] | rw [if_neg (by assumption)])) <;> first | rfl ⟩
    · refine x_iconst C (pc := 14) (v := (-1)) dX9_copy_14 (by decide) ?_
      exact ret (-1) M 15 _ dX9_copy_15 ⟨by unfold vM_copy; (repeat (first | rw [if_pos (by assumption)] | rw [if_neg (by assumption)])) <;> first | rfl , by unfold sM_copy; (repeat (first | rw [if_pos (by assumption)] | rw [if_neg (by assumption)])) <;> first | rfl ⟩

def hfM (up : Int32) : Int32 := if up ≤ 0 then (if 0 ≤ up then 0 else 1) else (-1)
def oaU (M : St) (w : Int32) (sc : Nat → Int32) (L : Nat) : Int32 := vM_goesUp M w (lfr (M 22) (M 23) (sc (ix w)) L 0)
def oaL (M : St) (bf sc : Nat → Int32) (L : Nat) : Nat → Nat → Int32
  | 0 => (M 29)
  | r + 1 => upd (oaL M bf sc L r) (ix (bf r)) (2 * (nI r - oaU M (bf r) sc L) + hfM (oaU M (bf r) sc L))
def odL (M : St) (bf sc : Nat → Int32) (L : Nat) : Nat → Nat → Int32
  | 0 => (M 30)
  | r + 1 => insL (oaL M bf sc L (r + 1)) (bf r) r (odL M bf sc L r)
theorem odL_in {M : St} {bf sc : Nat → Int32} {L : Nat} : ∀ n, (∀ r, r < n → vp_in (bf r) 16) → ∀ r, r < n → vp_in (odL M bf sc L n r) 16
  | 0, _, r, hr => absurd hr (Nat.not_lt_zero _)
  | n + 1, h, r, hr => by
    unfold odL
    exact insL_in (h n (by omega)) n n _ (Nat.le_refl _) (fun q hq hqn => odL_in n (fun r hr => h r (by omega)) q (by omega)) r hr
def sM_order (M : St) (L N : Nat) : St := sr (sr M 29 (oaL M (M 32) (M 31) L N)) 30 (odL M (M 32) (M 31) L N)
theorem ord_0 (M : St) (bf sc : Nat → Int32) (L : Nat) : M = sr (sr M 29 (oaL M bf sc L 0)) 30 (odL M bf sc L 0) := by
  rw [oaL, odL]
  exact (sr2_self M 29 30).symm

set_option maxHeartbeats 4000000 in
set_option maxRecDepth 100000 in
theorem c_X9_order (l : Launch) (D : va_G) (G : Gx) (L N : Nat) (M : St) (many : Int32) (hS : (M 102 0) = nI N) (hN16 : N ≤ 16) (hB : ∀ r, r < N → vp_in ((M 32) r) 16) (hL : many = nI L) (hL12 : L ≤ 12) : Cv l yX9_order cX9_order 8 none 2 (mw G) D (tyG G) [.ref (G.1 0), .ref (G.1 32), .ref (G.1 31), .int many] M (fun X1 => X1 = (sM_order M L N)) := by
  refine m_v (nL := 8) (lv := [(0, .ref (G.1 0)), (1, .ref (G.1 32)), (2, .ref (G.1 31)), (3, .int many)]) [.ref (G.1 0), .ref (G.1 32), .ref (G.1 31), .int many] RX9 rfl (mw_adr G) (by decide +kernel) (Nat.le_of_ble_eq_true rfl) rfl (fun K C ret => ?_)
  refine x_iconst C (pc := 0) (v := 0) dX9_order_0 (by decide) ?_
  refine x_istore C (pc := 1) dX9_order_1 [(0, .ref (G.1 0)), (1, .ref (G.1 32)), (2, .ref (G.1 31)), (3, .int many), (4, .int 0)] [1, 2, 3, 4, 0] (by decide) rfl ?_
  have L3 : ∀ (nu : Nat) (i : Int32) (j : Nat), (j ≤ N) → (i = nI j) → (N - j) < nu → WX K (mw G) 8 (sr (sr M 29 (oaL M (M 32) (M 31) L j)) 30 (odL M (M 32) (M 31) L j)) 3 [(0, .ref (G.1 0)), (1, .ref (G.1 32)), (2, .ref (G.1 31)), (3, .int many), (4, .int i)] [] := by
    intro nu
    induction nu with
    | zero => intro i j hj hi hmu3; exact absurd hmu3 (Nat.not_lt_zero _)
    | succ n3 ih3 =>
      intro i j hj hi hmu3
      refine x_iload C (pc := 3) dX9_order_3 4 rfl ?_
      refine x_aload_n C (pc := 5) dX9_order_5 0 rfl rfl ?_
      refine mG_there C fl_X9_126 dX9_order_6 ?_
      refine x_top (y := (M 102 0)) rfl ?_
      refine x_icmp_ge C (pc := 9) (tgt := 139) dX9_order_9 (by decide) (fun c9 => ?_) (fun c9 => ?_)
      · have hjN : j = N := by have := geN hi hS c9 (by omega); omega
        exact ret (sr (sr M 29 (oaL M (M 32) (M 31) L j)) 30 (odL M (M 32) (M 31) L j)) 139 _ dX9_order_139 (by rw [hjN]; rfl)
      · have hlt : j < N := ltN hi hS c9 (by omega)
        have hin : vp_in i 16 := by rw [hi]; exact vp_in_nI (by omega) (by decide)
        have hix1 : ix i = j := by rw [hi]; exact ix_nI (by omega)
        have hw : (M 32) (ix i) = (M 32) j := by rw [hix1]
        have hwin : vp_in ((M 32) (ix i)) 16 := by rw [hw]; exact hB j hlt
        refine x_aload_n C (pc := 12) dX9_order_12 1 rfl rfl ?_
        refine x_iload C (pc := 13) dX9_order_13 4 rfl ?_
        refine mL_boardBefore C dX9_order_15 (by assumption) ?_
        refine x_top (y := (M 32 (ix i))) rfl ?_
        refine x_istore C (pc := 16) dX9_order_16 [(0, .ref (G.1 0)), (1, .ref (G.1 32)), (2, .ref (G.1 31)), (3, .int many), (4, .int i), (5, .int (M 32 (ix i)))] [1, 2, 3, 4, 5, 0] (by decide) rfl ?_
        refine x_aload_n C (pc := 18) dX9_order_18 0 rfl rfl ?_
        refine x_iload C (pc := 19) dX9_order_19 5 rfl ?_
        refine x_aload_n C (pc := 21) dX9_order_21 0 rfl rfl ?_
        refine x_aload_n C (pc := 22) dX9_order_22 2 rfl rfl ?_
        refine x_iload C (pc := 23) dX9_order_23 5 rfl ?_
        refine mL_scores C dX9_order_25 (by assumption) ?_
        refine x_top (y := (M 31 (ix (M 32 (ix i))))) rfl ?_
        refine x_iload_n C (pc := 26) dX9_order_26 3 rfl rfl ?_
        refine x_callVi C (pc := 27) [.int (M 31 (ix (M 32 (ix i)))), .int many] (fun l D => c_X9_lineFor l D G L (sr (sr M 29 (oaL M (M 32) (M 31) L j)) 30 (odL M (M 32) (M 31) L j)) (M 31 (ix (M 32 (ix i)))) many hL12 hL) (me_0 G _) rfl ml_X9_210 co_X9_lineFor im_X9_lineFor se_X9_lineFor in_X9 hy_X9_lineFor (by decide) (by decide) (Nat.le_of_ble_eq_true rfl) dX9_order_27 rfl (kx ?_)
        refine x_top (y := lfr (M 22) (M 23) (M 31 (ix (M 32 (ix i)))) L 0) rfl ?_
        refine x_callVi C (pc := 30) [.int (M 32 (ix i)), .int (lfr (M 22) (M 23) (M 31 (ix (M 32 (ix i)))) L 0)] (fun l D => c_X9_goesUp l D G (sr (sr M 29 (oaL M (M 32) (M 31) L j)) 30 (odL M (M 32) (M 31) L j)) (M 32 (ix i)) (lfr (M 22) (M 23) (M 31 (ix (M 32 (ix i)))) L 0) hwin (lfr_vin hL12)) (me_0 G _) rfl ml_X9_213 co_X9_goesUp im_X9_goesUp se_X9_goesUp in_X9 hy_X9_goesUp (by decide) (by decide) (Nat.le_of_ble_eq_true rfl) dX9_order_30 rfl (kx ?_)
        obtain ⟨up, hup⟩ : ∃ z, z = (vM_goesUp M (M 32 (ix i)) (lfr (M 22) (M 23) (M 31 (ix (M 32 (ix i)))) L 0)) := ⟨_, rfl⟩
        refine x_top (y := up) hup.symm ?_
        refine x_istore C (pc := 33) dX9_order_33 [(0, .ref (G.1 0)), (1, .ref (G.1 32)), (2, .ref (G.1 31)), (3, .int many), (4, .int i), (5, .int (M 32 (ix i))), (6, .int up)] [1, 2, 3, 4, 5, 6, 0] (by decide) rfl ?_
        refine x_aload_n C (pc := 35) dX9_order_35 0 rfl rfl ?_
        refine mG_aimOf C fl_X9_97 dX9_order_36 ?_
        refine x_iload C (pc := 39) dX9_order_39 5 rfl ?_
        refine x_iconst C (pc := 41) (v := 2) dX9_order_41 (by decide) ?_
        refine x_iload C (pc := 42) dX9_order_42 4 rfl ?_
        refine x_iload C (pc := 44) dX9_order_44 6 rfl ?_
        refine x_isub C (pc := 46) dX9_order_46 ?_
        refine x_imul C (pc := 47) dX9_order_47 ?_
        have J67 : WX K (mw G) 8 (sr (sr M 29 (oaL M (M 32) (M 31) L j)) 30 (odL M (M 32) (M 31) L j)) 67 [(0, .ref (G.1 0)), (1, .ref (G.1 32)), (2, .ref (G.1 31)), (3, .int many), (4, .int i), (5, .int (M 32 (ix i))), (6, .int up)] [.int (hfM up), .int (2 * (i - up)), .int (M 32 (ix i)), .ref (G.1 29)] := by
          refine x_iadd C (pc := 67) dX9_order_67 ?_
          refine mS_aimOf C dX9_order_68 (by assumption) ?_
          refine x_eqX (X' := (sr (sr M 29 (oaL M (M 32) (M 31) L (j + 1))) 30 (odL M (M 32) (M 31) L j))) (by rw [ux_srn _ _ _ _ (by decide), ux_srs, oaL, hup, hix1, hi]; rfl) ?_
          refine x_iload C (pc := 69) dX9_order_69 4 rfl ?_
          refine x_istore C (pc := 71) dX9_order_71 [(0, .ref (G.1 0)), (1, .ref (G.1 32)), (2, .ref (G.1 31)), (3, .int many), (4, .int i), (5, .int (M 32 (ix i))), (6, .int up), (7, .int i)] [1, 2, 3, 4, 5, 6, 7, 0] (by decide) rfl ?_
          have L73 : ∀ (nu : Nat) (N1 : St) (x : Int32) (k : Nat), (k ≤ j) → (x = nI k) → (N1 = sr (sr M 29 (oaL M (M 32) (M 31) L (j + 1))) 30 (N1 30)) → (insL (oaL M (M 32) (M 31) L (j + 1)) ((M 32) j) k (N1 30) = odL M (M 32) (M 31) L (j + 1)) → (∀ r, r < j + 1 → r ≠ k → vp_in ((N1 30) r) 16) → k < nu → WX K (mw G) 8 N1 73 [(0, .ref (G.1 0)), (1, .ref (G.1 32)), (2, .ref (G.1 31)), (3, .int many), (4, .int i), (5, .int (M 32 (ix i))), (7, .int x)] [] := by
            intro nu
            induction nu with
            | zero => intro N1 x k hk hx hZ hI hOz hmu73; exact absurd hmu73 (Nat.not_lt_zero _)
            | succ n73 ih73 =>
              intro N1 x k hk hx hZ hI hOz hmu73
              refine x_iload C (pc := 73) dX9_order_73 6 rfl ?_
              refine x_if_le C (pc := 75) (tgt := 124) dX9_order_75 (by decide) (fun c75 => ?_) (fun c75 => ?_)
              · have hix : ix x = k := by rw [hx]; exact ix_nI (by omega)
                have hin3 : vp_in x 16 := by rw [hx]; exact vp_in_nI (by omega) (by decide)
                have hfin : upd (N1 30) k ((M 32) j) = odL M (M 32) (M 31) L (j + 1) := by
                      rw [← hI]
                      rcases Nat.eq_zero_or_pos k with e | e
                      · rw [e, insL]
                      · have hc : oaL M (M 32) (M 31) L (j + 1) (ix ((N1 30) (k - 1))) ≤ oaL M (M 32) (M 31) L (j + 1) (ix ((M 32) j)) := by
                          by_cases hx0 : x ≤ 0
                          · rw [hx] at hx0; exact absurd hx0 (nI_nle e (by omega))
                          · first
                            | exact absurd c75 hx0
                            | simpa only [hZa, hix2, hw] using c99
                        rw [insL_pos e hc]
                have hZ2 : ux N1 30 (ix x) ((M 32) (ix i)) = sr (sr M 29 (oaL M (M 32) (M 31) L (j + 1))) 30 (odL M (M 32) (M 31) L (j + 1)) := by rw [hix, hw, ← hfin]; rw (occs := .pos [1]) [hZ]; rw [ux_srs]
                refine x_aload_n C (pc := 124) dX9_order_124 0 rfl rfl ?_
                refine mG_ordered C fl_X9_100 dX9_order_125 ?_
                refine x_iload C (pc := 128) dX9_order_128 6 rfl ?_
                refine x_iload C (pc := 130) dX9_order_130 5 rfl ?_
                refine mS_ordered C dX9_order_132 (by assumption) ?_
                refine x_iinc C (pc := 133) (v := i + 1) dX9_order_133 4 [(0, .ref (G.1 0)), (1, .ref (G.1 32)), (2, .ref (G.1 31)), (3, .int many), (4, .int (i + 1)), (5, .int (M 32 (ix i))), (7, .int x)] [1, 2, 3, 4, 0, 5, 6] rfl (by rfl) (by decide) rfl ?_
                refine x_goto C (pc := 136) (tgt := 3) dX9_order_136 (by decide) ?_
                refine x_sub [(0, .ref (G.1 0)), (1, .ref (G.1 32)), (2, .ref (G.1 31)), (3, .int many), (4, .int (i + 1))] [0, 1, 2, 3, 4] rfl ?_
                refine x_eqX (X' := (sr (sr M 29 (oaL M (M 32) (M 31) L (j + 1))) 30 (odL M (M 32) (M 31) L (j + 1)))) hZ2 ?_
                exact ih3 (i + 1) (j + 1) (by omega) (by rw [hi]; exact nI_1 j) (by omega)
              · have hk0 : 0 < k := Nat.pos_of_ne_zero (fun e => c75 (by rw [hx, e]; exact (by decide : nI 0 ≤ 0)))
                have hxm : x - 1 = nI (k - 1) := by rw [hx]; exact nI_m1 hk0
                have hix2 : ix (x - 1) = k - 1 := by rw [hxm]; exact ix_nI (by omega)
                have hix : ix x = k := by rw [hx]; exact ix_nI (by omega)
                have hin2 : vp_in (x - 1) 16 := by rw [hxm]; exact vp_in_nI (by omega) (by decide)
                have hin3 : vp_in x 16 := by rw [hx]; exact vp_in_nI (by omega) (by decide)
                have hZa : (N1 29) = oaL M (M 32) (M 31) L (j + 1) := by rw [hZ]; rfl
                have hoin : vp_in ((N1 30) (ix (x - 1))) 16 := by rw [hix2]; exact hOz (k - 1) (by omega) (by omega)
                refine x_aload_n C (pc := 78) dX9_order_78 0 rfl rfl ?_
                refine mG_aimOf C fl_X9_97 dX9_order_79 ?_
                refine x_aload_n C (pc := 82) dX9_order_82 0 rfl rfl ?_
                refine mG_ordered C fl_X9_100 dX9_order_83 ?_
                refine x_iload C (pc := 86) dX9_order_86 6 rfl ?_
                refine x_iconst C (pc := 88) (v := 1) dX9_order_88 (by decide) ?_
                refine x_isub C (pc := 89) dX9_order_89 ?_
                refine mL_ordered C dX9_order_90 (by assumption) ?_
                refine mL_aimOf C dX9_order_91 (by assumption) ?_
                refine x_aload_n C (pc := 92) dX9_order_92 0 rfl rfl ?_
                refine mG_aimOf C fl_X9_97 dX9_order_93 ?_
                refine x_iload C (pc := 96) dX9_order_96 5 rfl ?_
                refine mL_aimOf C dX9_order_98 (by assumption) ?_
                refine x_icmp_le C (pc := 99) (tgt := 124) dX9_order_99 (by decide) (fun c99 => ?_) (fun c99 => ?_)
                · have hix : ix x = k := by rw [hx]; exact ix_nI (by omega)
                  have hin3 : vp_in x 16 := by rw [hx]; exact vp_in_nI (by omega) (by decide)
                  have hfin : upd (N1 30) k ((M 32) j) = odL M (M 32) (M 31) L (j + 1) := by
                        rw [← hI]
                        rcases Nat.eq_zero_or_pos k with e | e
                        · rw [e, insL]
                        · have hc : oaL M (M 32) (M 31) L (j + 1) (ix ((N1 30) (k - 1))) ≤ oaL M (M 32) (M 31) L (j + 1) (ix ((M 32) j)) := by
                            by_cases hx0 : x ≤ 0
                            · rw [hx] at hx0; exact absurd hx0 (nI_nle e (by omega))
                            · first
                              | exact absurd c75 hx0
                              | simpa only [hZa, hix2, hw] using c99
                          rw [insL_pos e hc]
                  have hZ2 : ux N1 30 (ix x) ((M 32) (ix i)) = sr (sr M 29 (oaL M (M 32) (M 31) L (j + 1))) 30 (odL M (M 32) (M 31) L (j + 1)) := by rw [hix, hw, ← hfin]; rw (occs := .pos [1]) [hZ]; rw [ux_srs]
                  refine x_aload_n C (pc := 124) dX9_order_124 0 rfl rfl ?_
                  refine mG_ordered C fl_X9_100 dX9_order_125 ?_
                  refine x_iload C (pc := 128) dX9_order_128 6 rfl ?_
                  refine x_iload C (pc := 130) dX9_order_130 5 rfl ?_
                  refine mS_ordered C dX9_order_132 (by assumption) ?_
                  refine x_iinc C (pc := 133) (v := i + 1) dX9_order_133 4 [(0, .ref (G.1 0)), (1, .ref (G.1 32)), (2, .ref (G.1 31)), (3, .int many), (4, .int (i + 1)), (5, .int (M 32 (ix i))), (7, .int x)] [1, 2, 3, 4, 0, 5, 6] rfl (by rfl) (by decide) rfl ?_
                  refine x_goto C (pc := 136) (tgt := 3) dX9_order_136 (by decide) ?_
                  refine x_sub [(0, .ref (G.1 0)), (1, .ref (G.1 32)), (2, .ref (G.1 31)), (3, .int many), (4, .int (i + 1))] [0, 1, 2, 3, 4] rfl ?_
                  refine x_eqX (X' := (sr (sr M 29 (oaL M (M 32) (M 31) L (j + 1))) 30 (odL M (M 32) (M 31) L (j + 1)))) hZ2 ?_
                  exact ih3 (i + 1) (j + 1) (by omega) (by rw [hi]; exact nI_1 j) (by omega)
                · have hc : ¬ oaL M (M 32) (M 31) L (j + 1) (ix ((N1 30) (k - 1))) ≤ oaL M (M 32) (M 31) L (j + 1) (ix ((M 32) j)) := by rw [hZa, hix2, hw] at c99; exact c99
                  have hZin : ∀ r, r < j + 1 → r ≠ k - 1 → vp_in (upd (N1 30) (ix x) ((N1 30) (ix (x - 1))) r) 16 := fun r h1 h2 => by
                        by_cases e : r = k
                        · simp only [upd, hix, e, if_true]; exact hoin
                        · simp only [upd, hix, e, if_false]; exact hOz r h1 e
                  refine x_aload_n C (pc := 102) dX9_order_102 0 rfl rfl ?_
                  refine mG_ordered C fl_X9_100 dX9_order_103 ?_
                  refine x_iload C (pc := 106) dX9_order_106 6 rfl ?_
                  refine x_aload_n C (pc := 108) dX9_order_108 0 rfl rfl ?_
                  refine mG_ordered C fl_X9_100 dX9_order_109 ?_
                  refine x_iload C (pc := 112) dX9_order_112 6 rfl ?_
                  refine x_iconst C (pc := 114) (v := 1) dX9_order_114 (by decide) ?_
                  refine x_isub C (pc := 115) dX9_order_115 ?_
                  refine mL_ordered C dX9_order_116 (by assumption) ?_
                  refine mS_ordered C dX9_order_117 (by assumption) ?_
                  refine x_iinc C (pc := 118) (v := x + (-1)) dX9_order_118 6 [(0, .ref (G.1 0)), (1, .ref (G.1 32)), (2, .ref (G.1 31)), (3, .int many), (4, .int i), (5, .int (M 32 (ix i))), (7, .int (x + (-1)))] [1, 2, 3, 4, 5, 6, 0] rfl (by rfl) (by decide) rfl ?_
                  refine x_goto C (pc := 121) (tgt := 73) dX9_order_121 (by decide) ?_
                  exact ih73 (ux N1 30 (ix x) (N1 30 (ix (x - 1)))) (x + (-1)) (k - 1) (by omega) (by rw [← hxm, Int32.sub_eq_add_neg]) (by rw [ux_s]; rw (occs := .pos [1]) [hZ]; rw [ux_srs]) (by rw [ux_s, hix, hix2, ← hI, insL_neg hk0 hc]) (fun r h1 h2 => by rw [ux_s]; exact hZin r h1 h2) (by omega)
          refine x_sub [(0, .ref (G.1 0)), (1, .ref (G.1 32)), (2, .ref (G.1 31)), (3, .int many), (4, .int i), (5, .int (M 32 (ix i))), (7, .int i)] [0, 1, 2, 3, 4, 5, 7] rfl ?_
          exact L73 _ (sr (sr M 29 (oaL M (M 32) (M 31) L (j + 1))) 30 (odL M (M 32) (M 31) L j)) i j (Nat.le_refl _) hi rfl rfl (fun r h1 h2 => odL_in j (fun q hq => hB q (by omega)) r (by omega)) (Nat.lt_succ_self _)
        refine x_iload C (pc := 48) dX9_order_48 6 rfl ?_
        refine x_if_le C (pc := 50) (tgt := 57) dX9_order_50 (by decide) (fun c50 => ?_) (fun c50 => ?_)
        · refine x_iload C (pc := 57) dX9_order_57 6 rfl ?_
          refine x_if_ge C (pc := 59) (tgt := 66) dX9_order_59 (by decide) (fun c59 => ?_) (fun c59 => ?_)
          · refine x_iconst C (pc := 66) (v := 0) dX9_order_66 (by decide) ?_
            refine x_top (y := (hfM up)) (by unfold hfM; (repeat (first | rw [if_pos (by assumption)] | rw [if_neg (by assumption)])) <;> first | rfl ) ?_
            exact J67
          · refine x_iconst C (pc := 62) (v := 1) dX9_order_62 (by decide) ?_
            refine x_goto C (pc := 63) (tgt := 67) dX9_order_63 (by decide) ?_
            refine x_top (y := (hfM up)) (by unfold hfM; (repeat (first | rw [if_pos (by assumption)] | rw [if_neg (by assumption)])) <;> first | rfl ) ?_
            exact J67
        · refine x_iconst C (pc := 53) (v := (-1)) dX9_order_53 (by decide) ?_
          refine x_goto C (pc := 54) (tgt := 67) dX9_order_54 (by decide) ?_
          refine x_top (y := (hfM up)) (by unfold hfM; (repeat (first | rw [if_pos (by assumption)] | rw [if_neg (by assumption)])) <;> first | rfl ) ?_
          exact J67
  refine x_eqX (X' := (sr (sr M 29 (oaL M (M 32) (M 31) L 0)) 30 (odL M (M 32) (M 31) L 0))) (ord_0 M _ _ L) ?_
  exact L3 _ 0 0 (Nat.zero_le _) rfl (Nat.lt_succ_self _)
