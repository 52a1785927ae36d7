theorem cp_byt {f g : Nat → Int32} (hf : byt f) (hg : byt g) (a b n : Nat) : byt (va_cpy f g a b n) := fun q => by
  by_cases e : b ≤ q ∧ q < b + n
  · rw [pk_cpy_in e.1 e.2]; exact hf _
  · rw [pk_cpy_out (by omega)]; exact hg _
theorem law_copy {k : Nat} {X M : St} (h : Rel k X M) (s : Int32) (i : Int32) (t : Int32) (j : Int32) (n : Int32) (G H : Gx) : ∃ PX PM : Int32 → St → Prop, (∀ l D, Ci l yX8_copy cX8_copy 6 (some .int) 1 (xw G) D (tyG G) [.ref (G.1 0), .int s, .int i, .int t, .int j, .int n] X PX) ∧ (∀ l D, Ci l yX9_copy cX9_copy 7 (some .int) 2 (mw H) D (tyG H) [.ref (H.1 0), .int s, .int i, .int t, .int j, .int n] M PM) ∧ ∀ r X1 r2 M1, PX r X1 → PM r2 M1 → r = r2 ∧ Rel (k + 1) X1 M1 := by
  obtain ⟨E, N, B, d, D, l, L, L2, W, P, hq, hB, hS, hW, hT, hMt, hC, hRa, hRb, hRc, hP⟩ := id h
  refine ⟨_, _, fun l D => c_X8_copy l D G  X s i t j n hS.1 (fun r i hr => by rw [← hS.2.2.2.2 r hr i]; exact pk_fb _), fun l D => c_X9_copy l D H  M s i t j n (rq_ssize hq ▸ hS.1) hS.2.2.2.1, mk2 (?_) (?_)⟩
  · unfold v_copy vM_copy
    rw [sht_eq, sht_eq]
    by_cases h1 : vin s 0 3 = 0
    · rw [if_pos h1, if_pos h1]
    · rw [if_neg h1, if_neg h1]
      by_cases h2 : vin t 0 3 = 0
      · rw [if_pos h2, if_pos h2]
      · rw [if_neg h2, if_neg h2]
        have hs : ¬ v_isSheet s = 0 := by rw [sht_eq]; exact h1
        have hst : ¬ v_isSheet t = 0 := by rw [sht_eq]; exact h2
        have hm := mis_eq hq hS hs
        have hm2 := mis_eq hq hS hst
        by_cases h3 : v_X4_isMissing X s = 0
        · rw [if_pos h3, if_neg (Int32.not_lt.mpr (hm.mp h3))]
          by_cases h4 : v_X4_isMissing X t = 0
          · rw [if_pos h4, if_pos (hm2.mp h4)]
            obtain ⟨z, hz, ez⟩ := mis_z hS hs h3
            obtain ⟨z2, hz2, ez2⟩ := mis_z hS hst h4
            have hi1 := holds_i (f := i) (n := n) ez hz
            have hi2 := holds_i (f := j) (n := n) ez2 hz2
            have ez' : (M 12) (ix s) = nI z := by rw [← rq_ssize hq]; exact ez
            have ez2' : (M 12) (ix t) = nI z2 := by rw [← rq_ssize hq]; exact ez2
            by_cases c1 : i < 0
            · rw [if_pos c1, if_pos (Decidable.byContradiction (fun q => (hi1.mp q).1 c1))]
            · rw [if_neg c1]
              obtain ⟨a, a1, a2⟩ := nI_of c1
              by_cases c2 : j < 0
              · rw [if_pos c2, if_pos (show v_X4_holds X t j n = 0 from Decidable.byContradiction (fun q => (hi2.mp q).1 c2))]
                by_cases c3 : v_X4_holds X s i n = 0
                · rw [if_pos c3]
                · rw [if_neg c3]
              · rw [if_neg c2]
                obtain ⟨b, b1, b2⟩ := nI_of c2
                by_cases c3 : n < 0
                · rw [if_pos c3, if_pos (Decidable.byContradiction (fun q => (hi1.mp q).2.1 c3))]
                · rw [if_neg c3]
                  obtain ⟨c, d1, d2⟩ := nI_of c3
                  have l1 := lc_i (M := M) (s := s) a2 d2 a1 d1 ez' hz
                  have l2 := lc_i (M := M) (s := t) b2 d2 b1 d1 ez2' hz2
                  have ia : ix i = a := by rw [a2]; exact ix_nI a1
                  have ib : ix j = b := by rw [b2]; exact ix_nI b1
                  have ic : ix n = c := by rw [d2]; exact ix_nI d1
                  rw [ia, ic] at hi1
                  rw [ib, ic] at hi2
                  by_cases c4 : a + c ≤ z
                  · rw [if_neg (hi1.mpr ⟨c1, c3, c4⟩), if_neg (show ¬ 0 < lc1 M s i n from fun q => l1.mp q c4)]
                    by_cases c5 : b + c ≤ z2
                    · rw [if_neg (hi2.mpr ⟨c2, c3, c5⟩), if_pos (show lc1 M t j n ≤ 0 from Int32.not_lt.mp (fun q => l2.mp q c5))]
                    · rw [if_pos (Decidable.byContradiction (fun q => c5 (hi2.mp q).2.2)), if_neg (show ¬ lc1 M t j n ≤ 0 from Int32.not_le.mpr (l2.mpr c5))]
                  · rw [if_pos (Decidable.byContradiction (fun q => c4 (hi1.mp q).2.2)), if_pos (show 0 < lc1 M s i n from l1.mpr c4)]
          · rw [if_neg h4, if_neg (fun q => h4 (hm2.mpr q))]
        · rw [if_neg h3, if_pos (Int32.not_le.mp (fun q => h3 (hm.mpr q)))]
  · unfold s_copy sM_copy
    rw [sht_eq, sht_eq]
    by_cases h1 : vin s 0 3 = 0
    · rw [if_pos h1, if_pos h1]; exact Rel_mono h
    · rw [if_neg h1, if_neg h1]
      by_cases h2 : vin t 0 3 = 0
      · rw [if_pos h2, if_pos h2]; exact Rel_mono h
      · rw [if_neg h2, if_neg h2]
        have hs : ¬ v_isSheet s = 0 := by rw [sht_eq]; exact h1
        have hst : ¬ v_isSheet t = 0 := by rw [sht_eq]; exact h2
        have hm := mis_eq hq hS hs
        have hm2 := mis_eq hq hS hst
        by_cases h3 : v_X4_isMissing X s = 0
        · rw [if_pos h3, if_neg (Int32.not_lt.mpr (hm.mp h3))]
          by_cases h4 : v_X4_isMissing X t = 0
          · rw [if_pos h4, if_pos (hm2.mp h4)]
            obtain ⟨z, hz, ez⟩ := mis_z hS hs h3
            obtain ⟨z2, hz2, ez2⟩ := mis_z hS hst h4
            have hi1 := holds_i (f := i) (n := n) ez hz
            have hi2 := holds_i (f := j) (n := n) ez2 hz2
            have ez' : (M 12) (ix s) = nI z := by rw [← rq_ssize hq]; exact ez
            have ez2' : (M 12) (ix t) = nI z2 := by rw [← rq_ssize hq]; exact ez2
            by_cases c1 : i < 0
            · rw [if_pos c1, if_pos (Decidable.byContradiction (fun q => (hi1.mp q).1 c1))]; exact Rel_found 2 h
            · rw [if_neg c1]
              obtain ⟨a, a1, a2⟩ := nI_of c1
              by_cases c2 : j < 0
              · rw [if_pos c2, if_pos (show v_X4_holds X t j n = 0 from Decidable.byContradiction (fun q => (hi2.mp q).1 c2))]
                by_cases c3 : v_X4_holds X s i n = 0
                · rw [if_pos c3]; exact Rel_found 2 h
                · rw [if_neg c3]; exact Rel_found 2 h
              · rw [if_neg c2]
                obtain ⟨b, b1, b2⟩ := nI_of c2
                by_cases c3 : n < 0
                · rw [if_pos c3, if_pos (Decidable.byContradiction (fun q => (hi1.mp q).2.1 c3))]; exact Rel_found 2 h
                · rw [if_neg c3]
                  obtain ⟨c, d1, d2⟩ := nI_of c3
                  have l1 := lc_i (M := M) (s := s) a2 d2 a1 d1 ez' hz
                  have l2 := lc_i (M := M) (s := t) b2 d2 b1 d1 ez2' hz2
                  have ia : ix i = a := by rw [a2]; exact ix_nI a1
                  have ib : ix j = b := by rw [b2]; exact ix_nI b1
                  have ic : ix n = c := by rw [d2]; exact ix_nI d1
                  rw [ia, ic] at hi1
                  rw [ib, ic] at hi2
                  by_cases c4 : a + c ≤ z
                  · rw [if_neg (hi1.mpr ⟨c1, c3, c4⟩), if_neg (show ¬ 0 < lc1 M s i n from fun q => l1.mp q c4)]
                    by_cases c5 : b + c ≤ z2
                    · rw [if_neg (hi2.mpr ⟨c2, c3, c5⟩), if_pos (show lc1 M t j n ≤ 0 from Int32.not_lt.mp (fun q => l2.mp q c5))]
                      obtain ⟨p, p1, p2, p3⟩ := sh_lt hs
                      obtain ⟨r, r1, r2, r3⟩ := sh_lt hst
                      unfold sM_cp
                      rw [ia, ib, ic, p3, r3]
                      refine Rel_mono (Rel_bytes h r1 _ (va_cpy (M 13) (M 13) (16 * p + a) (16 * r + b) c) (fun e he => ?_) rfl (cp_byt (hS.2.2.2.2 p p1) (hS.2.2.2.2 r r1) _ _ _) (cp_byt hS.2.2.2.1 hS.2.2.2.1 _ _ _) (fun i2 hi2 => ?_) (fun s2 i2 hs2 hne hi2 => ?_))
                      · exact (sr_n _ _ (fun e2 => by subst e2; exact absurd he (by decide))).trans (sr_n M _ (fun e2 => by subst e2; exact absurd he (by decide)))
                      · by_cases e : b ≤ i2 ∧ i2 < b + c
                        · rw [pk_cpy_in e.1 e.2, pk_cpy_in (by omega) (by omega), hS.2.2.1 p _ p1 (by omega)]
                          congr 1; omega
                        · rw [pk_cpy_out (by omega), pk_cpy_out (by omega)]; exact hS.2.2.1 r i2 r1 hi2
                      · exact pk_cpy_out (by omega)
                    · rw [if_pos (Decidable.byContradiction (fun q => c5 (hi2.mp q).2.2)), if_neg (show ¬ lc1 M t j n ≤ 0 from Int32.not_le.mpr (l2.mpr c5))]; exact Rel_found 2 h
                  · rw [if_pos (Decidable.byContradiction (fun q => c4 (hi1.mp q).2.2)), if_pos (show 0 < lc1 M s i n from l1.mpr c4)]; exact Rel_found 2 h
          · rw [if_neg h4, if_neg (fun q => h4 (hm2.mpr q))]; exact Rel_found 1 h
        · rw [if_neg h3, if_pos (Int32.not_le.mp (fun q => h3 (hm.mpr q)))]; exact Rel_found 1 h

theorem law_prices {k : Nat} {X M : St} (h : Rel k X M) (s : Int32) (G H : Gx) : ∃ PX PM : Int32 → St → Prop, (∀ l D, Ci l yX8_prices cX8_prices 3 (some .int) 1 (xw G) D (tyG G) [.ref (G.1 0), .int s] X PX) ∧ (∀ l D, Ci l yX9_prices cX9_prices 3 (some .int) 2 (mw H) D (tyG H) [.ref (H.1 0), .int s] M PM) ∧ ∀ r X1 r2 M1, PX r X1 → PM r2 M1 → r = r2 ∧ Rel (k + 1) X1 M1 := by
  obtain ⟨E, N, B, d, D, l, L, L2, W, P, hq, hB, hS, hW, hT, hMt, hC, hRa, hRb, hRc, hP⟩ := id h
  refine ⟨_, _, fun l D => c_X8_prices l D G  X s , fun l D => c_X9_prices l D H  M s , mk2 (?_) (?_)⟩
  · unfold v_prices vM_prices
    rw [sht_eq, rq_teller hq]
    by_cases h0 : s = (-9)
    · rw [if_pos h0, if_pos h0]
    · rw [if_neg h0, if_neg h0]
      by_cases h1 : vin s 0 3 = 0
      · rw [if_pos h1, if_pos h1]
      · rw [if_neg h1, if_neg h1]
        have hm := mis_eq hq hS (s := s) (by rw [sht_eq]; exact h1)
        by_cases h2 : v_X4_isMissing X s = 0
        · rw [if_pos h2, if_pos (hm.mp h2)]
        · rw [if_neg h2, if_neg (fun q => h2 (hm.mpr q))]
  · unfold s_prices sM_prices
    rw [sht_eq]
    by_cases h0 : s = (-9)
    · rw [if_pos h0, if_pos h0]
      exact ⟨E, N, B, d, D, l, L, L2, W, P, (RQ_mk (@rq_latest X M hq) (@rq_times X M hq) (@rq_ever X M hq) (@rq_standing X M hq) (@rq_kind X M hq) (@rq_stable X M hq) (@rq_kin X M hq) (@rq_wins X M hq) (@rq_losses X M hq) (@rq_titles X M hq) (@rq_marks X M hq) (@rq_gone X M hq) (@rq_away X M hq) (@rq_board X M hq) (@rq_ssize X M hq) (by show upd (X 103) 0 s = upd (M 104) 0 s; rw [rq_teller hq]) (@rq_going X M hq) (@rq_days X M hq) (@rq_drawn X M hq) (@rq_bouts X M hq) (@rq_lacking X M hq) (@rq_cost X M hq) (@rq_satOut X M hq) (@rq_day X M hq) (@rq_upper X M hq) (@rq_lower X M hq) (@rq_winner X M hq) (@rq_lines X M hq) (@rq_low X M hq) (@rq_high X M hq) (@rq_up X M hq) (@rq_wtimes X M hq) (@rq_fresh X M hq) (@rq_linesThen X M hq) (@rq_former X M hq) (@rq_row X M hq) (@rq_begun X M hq) (@rq_holder X M hq)), hB, ⟨hS.1, fun q => absurd h0 q, fun a b ha hb => (by rw [show ux X 103 0 s (43 + a) = X (43 + a) from sr_n X _ (by omega)]; exact hS.2.2.1 a b ha hb), hS.2.2.2.1, fun a ha => (by rw [show ux X 103 0 s (43 + a) = X (43 + a) from sr_n X _ (by omega)]; exact hS.2.2.2.2 a ha)⟩, IW_mono hW, hT, hMt, hC, hRa, hRb, hRc, hP⟩
    · rw [if_neg h0, if_neg h0]
      by_cases h1 : vin s 0 3 = 0
      · rw [if_pos h1, if_pos h1]; exact Rel_mono h
      · rw [if_neg h1, if_neg h1]
        have hs : ¬ v_isSheet s = 0 := by rw [sht_eq]; exact h1
        have hm := mis_eq hq hS hs
        by_cases h2 : v_X4_isMissing X s = 0
        · rw [if_pos h2, if_pos (hm.mp h2)]
          exact ⟨E, N, B, d, D, l, L, L2, W, P, (RQ_mk (@rq_latest X M hq) (@rq_times X M hq) (@rq_ever X M hq) (@rq_standing X M hq) (@rq_kind X M hq) (@rq_stable X M hq) (@rq_kin X M hq) (@rq_wins X M hq) (@rq_losses X M hq) (@rq_titles X M hq) (@rq_marks X M hq) (@rq_gone X M hq) (@rq_away X M hq) (@rq_board X M hq) (@rq_ssize X M hq) (by show upd (X 103) 0 s = upd (M 104) 0 s; rw [rq_teller hq]) (@rq_going X M hq) (@rq_days X M hq) (@rq_drawn X M hq) (@rq_bouts X M hq) (@rq_lacking X M hq) (@rq_cost X M hq) (@rq_satOut X M hq) (@rq_day X M hq) (@rq_upper X M hq) (@rq_lower X M hq) (@rq_winner X M hq) (@rq_lines X M hq) (@rq_low X M hq) (@rq_high X M hq) (@rq_up X M hq) (@rq_wtimes X M hq) (@rq_fresh X M hq) (@rq_linesThen X M hq) (@rq_former X M hq) (@rq_row X M hq) (@rq_begun X M hq) (@rq_holder X M hq)), hB, ⟨hS.1, fun _ => isSheet_in hs, fun a b ha hb => (by rw [show ux X 103 0 s (43 + a) = X (43 + a) from sr_n X _ (by omega)]; exact hS.2.2.1 a b ha hb), hS.2.2.2.1, fun a ha => (by rw [show ux X 103 0 s (43 + a) = X (43 + a) from sr_n X _ (by omega)]; exact hS.2.2.2.2 a ha)⟩, IW_mono hW, hT, hMt, hC, hRa, hRb, hRc, hP⟩
        · rw [if_neg h2, if_neg (fun q => h2 (hm.mpr q))]; exact Rel_found 1 h

theorem mul4 (n : Int32) : n * n * 4 = 4 * n * n := by
  rw [Int32.mul_comm (n * n) 4, Int32.mul_assoc]
theorem pos0 (v : Int32) : (if 0 < v then v else 0) = (if 0 ≤ v then v else 0) := by
  by_cases h : 0 < v
  · rw [if_pos h, if_pos (Int32.le_of_lt h)]
  · rw [if_neg h]
    by_cases h2 : 0 ≤ v
    · rw [if_pos h2]; exact Int32.le_antisymm h2 (Int32.not_lt.mp h)
    · rw [if_neg h2]
theorem price_eq {X M : St} (hq : RQ X M) (hS : IS X M) {n : Int32} {k : Nat} (hn : n = nI k) (hk : k < 2 ^ 31) : v_X4_priceOf X n = vM_priceOf M n := by
  unfold v_X4_priceOf vM_priceOf
  rw [← rq_teller hq, ← rq_ssize hq, mul4]
  by_cases h1 : (X 103 0) = (-9)
  · rw [if_pos h1, if_pos h1]
  · rw [if_neg h1, if_neg h1]
    have ht := hS.2.1 h1
    have e := in_nI ht (by decide)
    have hj := in_ix ht
    generalize ix (X 103 0) = j at e hj
    rcases hS.1 j hj with ez | ⟨z, hz, ez⟩
    · rw [ez, if_pos rfl, if_neg (by decide)]
    · rw [ez, if_neg (nI_neg1 (by omega)), if_pos (nI_pos' (by omega))]
      by_cases h0 : nI z = 0
      · rw [if_pos h0, if_pos h0]
      · rw [if_neg h0, if_neg h0]
        have hz0 : 0 < z := Nat.pos_of_ne_zero (fun q => h0 (by rw [q]; rfl))
        by_cases c : nI z ≤ n
        · rw [if_pos ((sub1_lt (by omega)).mpr c), if_pos c, nI_m1 hz0, e, ix16 rfl rfl, ix_nI (by omega), ix_nI (by omega), ← hS.2.2.1 j (z - 1) hj (by omega)]
          exact pos0 _
        · have hkz : k < z := ltN hn rfl c hk
          rw [if_neg (fun q => c ((sub1_lt (by omega)).mp q)), if_neg c, e, hn, ix16 rfl rfl, ix_nI (by omega), ix_nI (by omega), ← hS.2.2.1 j k hj (by omega)]
          exact pos0 _
theorem law_price {k : Nat} {X M : St} (h : Rel k X M) (n : Int32) (G H : Gx) : ∃ PX PM : Int32 → St → Prop, (∀ l D, Ci l yX8_price cX8_price 2 (some .int) 2 (xw G) D (tyG G) [.ref (G.1 0), .int n] X PX) ∧ (∀ l D, Ci l yX9_price cX9_price 2 (some .int) 1 (mw H) D (tyG H) [.ref (H.1 0), .int n] M PM) ∧ ∀ r X1 r2 M1, PX r X1 → PM r2 M1 → r = r2 ∧ Rel (k + 1) X1 M1 := by
  obtain ⟨E, N, B, d, D, l, L, L2, W, P, hq, hB, hS, hW, hT, hMt, hC, hRa, hRb, hRc, hP⟩ := id h
  refine ⟨_, _, fun l D => c_X8_price l D G  X n hS.2.1 hS.1, fun l D => c_X9_price l D H  M n (rq_teller hq ▸ hS.2.1) (rq_ssize hq ▸ hS.1), mk2 (?_) (?_)⟩
  · unfold v_price vM_price
    have hc : vin n 0 15 = 0 ↔ n < 0 ∨ ¬ n < 16 := vin0 (a := 16) (by decide)
    by_cases h1 : n < 0
    · rw [if_pos h1, if_pos (hc.mpr (Or.inl h1))]
    · rw [if_neg h1]
      have e15 : n ≤ 15 ↔ n < 16 := by
        rw [Int32.lt_iff_toInt_lt, Int32.le_iff_toInt_le]
        have a1 : (15 : Int32).toInt = 15 := by decide
        have a2 : (16 : Int32).toInt = 16 := by decide
        omega
      by_cases h2 : n ≤ 15
      · rw [if_pos h2, if_neg (fun q => (hc.mp q).elim h1 (fun q => q (e15.mp h2)))]
        obtain ⟨k2, k1, k3⟩ := nI_of h1
        exact price_eq hq hS k3 k1
      · rw [if_neg h2, if_pos (hc.mpr (Or.inr (fun q => h2 (e15.mpr q))))]
  · exact Rel_mono h
