
def fM (m : Nat) : Nat → Bool := fun p => m.testBit p
theorem fst_ex {m : Nat} (h : 0 < m) {k : Nat} (hk : m < 2 ^ k) : ∃ a, a < k ∧ m.testBit a = true ∧ ∀ q, q < a → m.testBit q = false := by
  have h1 : ∃ a, m.testBit a = true := by
    by_cases h2 : ∃ a, m.testBit a = true
    · exact h2
    · exfalso
      have : m = 0 := Nat.eq_of_testBit_eq (fun i => by
        rw [Nat.zero_testBit]
        cases q : m.testBit i with
        | false => rfl
        | true => exact absurd ⟨i, q⟩ h2)
      omega
  obtain ⟨a, ha, hl⟩ := pk_least (fun a => m.testBit a = true) h1
  refine ⟨a, ?_, ha, fun q hq => ?_⟩
  · rcases Nat.lt_or_ge a k with q | q
    · exact q
    · have : m.testBit a = false := Nat.testBit_lt_two_pow (Nat.lt_of_lt_of_le hk (Nat.pow_le_pow_right (by decide) q))
      rw [this] at ha; cases ha
  · cases h3 : m.testBit q with
    | false => rfl
    | true => exact absurd h3 (hl q hq)
def gtM (M : St) (j : Nat) : St := ux (sr M 19 (plR (M 6) (M 11) 0 (M 19) j)) 111 0 (nI (plC (M 6) (M 11) 0 j))
theorem gtM_0 (M : St) : gtM M 0 = ux M 111 0 0 := by
  unfold gtM plR plC
  rw [sr_self]
  rfl
theorem gtM_step {M : St} {j : Nat} (h : (M 6) (ix ((M 11) j)) = 0) : ux (ux (gtM M j) 19 (plC (M 6) (M 11) 0 j) ((M 11) j)) 111 0 (nI (plC (M 6) (M 11) 0 j) + 1) = gtM M (j + 1) := by
  unfold gtM
  rw [plR, plC, if_pos h, if_pos h, ux_com _ _ _ _ _ (by decide : 111 ≠ 19), ux_srs, ux_ux, nI_1]
theorem gtM_skip {M : St} {j : Nat} (h : ¬ (M 6) (ix ((M 11) j)) = 0) : gtM M j = gtM M (j + 1) := by
  unfold gtM
  rw [plR, plC, if_neg h, if_neg h]
def whM (M : St) (N : Nat) : Nat → Int32 := plR (M 6) (M 11) 0 (M 19) N
def nM (M : St) (N : Nat) : Nat := plC (M 6) (M 11) 0 N
def vM_abs (d : Int32) : Int32 := if 0 ≤ d then d else -d
def vM_chg (M : St) (a b : Int32) (B N : Nat) : Int32 := if vM_bars M a b B ≤ 0 then vM_priceOf M (vM_abs ((M 7) (ix a) - (M 7) (ix b))) + rgS (M 11) b N 0 - rgS (M 11) a N 0 else (-9)
def pcR (M : St) (wh : Nat → Int32) (B N n p q : Nat) : Nat → Int32 := fun k => if (k / 16 < p ∧ k / 16 < k % 16 ∧ k % 16 < n) ∨ (k / 16 = p ∧ p < k % 16 ∧ k % 16 < q) then vM_chg M (wh (k / 16)) (wh (k % 16)) B N else (M 20) k
theorem pcR_0 (M : St) (wh : Nat → Int32) (B N n : Nat) : pcR M wh B N n 0 1 = (M 20) := by
  funext k
  unfold pcR
  rw [if_neg (by omega)]
theorem pcR_next (M : St) (wh : Nat → Int32) (B N n p : Nat) : pcR M wh B N n p n = pcR M wh B N n (p + 1) (p + 2) := by
  funext k
  unfold pcR
  by_cases h : (k / 16 < p ∧ k / 16 < k % 16 ∧ k % 16 < n) ∨ (k / 16 = p ∧ p < k % 16 ∧ k % 16 < n)
  · rw [if_pos h, if_pos (by omega)]
  · rw [if_neg h, if_neg (by omega)]
theorem pcR_step (M : St) (wh : Nat → Int32) (B N : Nat) {n p q : Nat} (hpq : p < q) (hqn : q < n) (hn : n ≤ 16) : upd (pcR M wh B N n p q) (16 * p + q) (vM_chg M (wh p) (wh q) B N) = pcR M wh B N n p (q + 1) := by
  funext k
  simp only [upd]
  have e1 : (16 * p + q) / 16 = p := by omega
  have e2 : (16 * p + q) % 16 = q := by omega
  by_cases e : k = 16 * p + q
  · rw [if_pos e]
    unfold pcR
    rw [e, e1, e2, if_pos (by omega)]
  · rw [if_neg e]
    unfold pcR
    by_cases h : (k / 16 < p ∧ k / 16 < k % 16 ∧ k % 16 < n) ∨ (k / 16 = p ∧ p < k % 16 ∧ k % 16 < q)
    · rw [if_pos h, if_pos (by omega)]
    · rw [if_neg h, if_neg (by omega)]
theorem pcR_at {M : St} {wh : Nat → Int32} {B N n p q : Nat} (hp : p < n) (hpq : p < q) (hq : q < n) (hn : n ≤ 16) : pcR M wh B N n n (n + 1) (16 * p + q) = vM_chg M (wh p) (wh q) B N := by
  have e1 : (16 * p + q) / 16 = p := by omega
  have e2 : (16 * p + q) % 16 = q := by omega
  unfold pcR
  rw [e1, e2, if_pos (by omega)]
def lpM (M : St) (B N : Nat) : St := sr (gtM M N) 20 (pcR M (whM M N) B N (nM M N) (nM M N) (nM M N + 1))
theorem i16 {i x : Int32} {a b : Nat} (hi : i = nI a) (hx : x = nI b) : 16 * i + x = nI (16 * a + b) := ix16 hi hx
set_option maxHeartbeats 4000000 in
set_option maxRecDepth 100000 in
theorem c_X9_first (l : Launch) (D : va_G) (G : Gx) (m a : Nat) (M : St) (set : Int32) (hm : set = nI m) (hm31 : m < 2 ^ 31) (ha31 : a < 31) (ha : m.testBit a = true) (hl : ∀ q, q < a → m.testBit q = false) : Ci l yX9_first cX9_first 3 (some .int) 0 (mw G) D (tyG G) [.ref (G.1 0), .int set] M (fun r X1 => r = (nI a) ∧ X1 = M) := by
  refine m_i (nL := 3) (lv := [(0, .ref (G.1 0)), (1, .int set)]) [.ref (G.1 0), .int set] RX9 rfl (mw_adr G) (by decide +kernel) (Nat.le_of_ble_eq_true rfl) rfl (fun K C ret => ?_)
  refine x_iconst C (pc := 0) (v := 0) dX9_first_0 (by decide) ?_
  refine x_istore_n C (pc := 1) dX9_first_1 [(0, .ref (G.1 0)), (1, .int set), (2, .int 0)] [1, 2, 0] rfl (by decide) rfl ?_
  have L2 : ∀ (nu : Nat) (i : Int32) (j : Nat), (j ≤ a) → (i = nI j) → (a - j) < nu → WX K (mw G) 3 M 2 [(0, .ref (G.1 0)), (1, .int set), (2, .int i)] [] := by
    intro nu
    induction nu with
    | zero => intro i j hj hi hmu2; exact absurd hmu2 (Nat.not_lt_zero _)
    | succ n2 ih2 =>
      intro i j hj hi hmu2
      refine x_iload_n C (pc := 2) dX9_first_2 1 rfl rfl ?_
      refine x_iload_n C (pc := 3) dX9_first_3 2 rfl rfl ?_
      refine x_ishr C (pc := 4) dX9_first_4 ?_
      refine x_iconst C (pc := 5) (v := 1) dX9_first_5 (by decide) ?_
      refine x_iand C (pc := 6) dX9_first_6 ?_
      refine x_if_ne C (pc := 7) (tgt := 16) dX9_first_7 (by decide) (fun c7 => ?_) (fun c7 => ?_)
      · have hja : j = a := by
          rcases Nat.lt_or_ge j a with q | q
          · exfalso
            have h1 := hl j q
            apply c7
            rw [hm, hi, shr_bit hm31 (by omega)]
            have h2 : ¬ (m / 2 ^ j % 2 = 1) := fun e => by
              have : m.testBit j = true := by rw [Nat.testBit_eq_decide_div_mod_eq]; exact decide_eq_true e
              rw [h1] at this; cases this
            have h3 : m / 2 ^ j % 2 = 0 := by omega
            rw [h3]; rfl
          · omega
        refine x_iload_n C (pc := 16) dX9_first_16 2 rfl rfl ?_
        exact ret i M 17 _ dX9_first_17 ⟨by rw [hi, hja], rfl⟩
      · have hjf : m.testBit j = false := by
          cases h : m.testBit j with
          | false => rfl
          | true =>
            exfalso
            have h2 := (shr_tb hm31 (by omega)).mpr h
            rw [hm, hi, h2] at c7
            exact absurd c7 (by decide)
        have hja : j < a := Nat.lt_of_le_of_ne hj (fun e => by rw [e, ha] at hjf; cases hjf)
        refine x_iinc C (pc := 10) (v := i + 1) dX9_first_10 2 [(0, .ref (G.1 0)), (1, .int set), (2, .int (i + 1))] [1, 2, 0] rfl (by rfl) (by decide) rfl ?_
        refine x_goto C (pc := 13) (tgt := 2) dX9_first_13 (by decide) ?_
        exact ih2 (i + 1) (j + 1) (by omega) (by rw [hi]; exact nI_1 j) (by omega)
  exact L2 _ 0 0 (Nat.zero_le _) rfl (Nat.lt_succ_self _)
set_option maxHeartbeats 4000000 in
set_option maxRecDepth 100000 in
theorem c_X9_layPairs (l : Launch) (D : va_G) (G : Gx) (B N : Nat) (M : St)  (hS : (M 102 0) = nI N) (hN16 : N ≤ 16) (hB : ∀ r, r < N → vp_in ((M 11) r) 16) (hBt : (M 107 0) = nI B) (hB120 : B ≤ 120) (ht : (M 104 0) ≠ (-9) → vp_in (M 104 0) 4) (hZ : ∀ j, j < 4 → (M 12) j = (-1) ∨ ∃ z, z ≤ 16 ∧ (M 12) j = nI z) (hk : ∀ p q, p < q → q < nM M N → ∃ k, k < 2 ^ 31 ∧ vM_abs ((M 7) (ix (whM M N p)) - (M 7) (ix (whM M N q))) = nI k) : Cv l yX9_layPairs cX9_layPairs 7 none 1 (mw G) D (tyG G) [.ref (G.1 0)] M (fun X1 => X1 = (lpM M B N)) := by
  refine m_v (nL := 7) (lv := [(0, .ref (G.1 0))]) [.ref (G.1 0)] RX9 rfl (mw_adr G) (by decide +kernel) (Nat.le_of_ble_eq_true rfl) rfl (fun K C ret => ?_)
  refine x_aload_n C (pc := 0) dX9_layPairs_0 0 rfl rfl ?_
  refine x_iconst C (pc := 1) (v := 0) dX9_layPairs_1 (by decide) ?_
  refine mP_presentMany C fl_X9_182 (v := 0) dX9_layPairs_2 ?_
  refine x_iconst C (pc := 5) (v := 0) dX9_layPairs_5 (by decide) ?_
  refine x_istore_n C (pc := 6) dX9_layPairs_6 [(0, .ref (G.1 0)), (1, .int 0)] [1, 0] rfl (by decide) rfl ?_
  have L7 : ∀ (nu : Nat) (N1 : St) (i : Int32) (j : Nat), (j ≤ N) → (i = nI j) → (N1 = gtM M j) → (N - j) < nu → WX K (mw G) 7 N1 7 [(0, .ref (G.1 0)), (1, .int i)] [] := by
    intro nu
    induction nu with
    | zero => intro N1 i j hj hi hY hmu7; exact absurd hmu7 (Nat.not_lt_zero _)
    | succ n7 ih7 =>
      intro N1 i j hj hi hY hmu7
      refine x_iload_n C (pc := 7) dX9_layPairs_7 1 rfl rfl ?_
      refine x_aload_n C (pc := 8) dX9_layPairs_8 0 rfl rfl ?_
      refine mG_there C fl_X9_126 dX9_layPairs_9 ?_
      refine x_icmp_ge C (pc := 12) (tgt := 60) dX9_layPairs_12 (by decide) (fun c12 => ?_) (fun c12 => ?_)
      · have hYs : (N1 102 0) = nI N := by rw [hY]; exact hS
        have hjN : j = N := by have := geN hi hYs c12 (by omega); omega
        have hn16 : nM M N ≤ 16 := Nat.le_trans (plC_le _ _ _ _) hN16
        have hwin : ∀ r, r < nM M N → vp_in (whM M N r) 16 := plR_in N hB
        clear hi hj
        refine x_eqX (X' := (gtM M N)) (by rw [hY, hjN]) ?_
        refine x_iconst C (pc := 60) (v := 0) dX9_layPairs_60 (by decide) ?_
        refine x_istore_n C (pc := 61) dX9_layPairs_61 [(0, .ref (G.1 0)), (1, .int 0)] [1, 0] rfl (by decide) rfl ?_
        have L62 : ∀ (nu : Nat) (i : Int32) (p : Nat), (p ≤ nM M N) → (i = nI p) → (nM M N - p) < nu → WX K (mw G) 7 (sr (gtM M N) 20 (pcR M (whM M N) B N (nM M N) p (p + 1))) 62 [(0, .ref (G.1 0)), (1, .int i)] [] := by
          intro nu
          induction nu with
          | zero => intro i p hp hi hmu62; exact absurd hmu62 (Nat.not_lt_zero _)
          | succ n62 ih62 =>
            intro i p hp hi hmu62
            refine x_iload_n C (pc := 62) dX9_layPairs_62 1 rfl rfl ?_
            refine x_aload_n C (pc := 63) dX9_layPairs_63 0 rfl rfl ?_
            refine mG_presentMany C fl_X9_182 dX9_layPairs_64 ?_
            refine x_top (y := ((gtM M N) 111 0)) rfl ?_
            refine x_icmp_ge C (pc := 67) (tgt := 185) dX9_layPairs_67 (by decide) (fun c67 => ?_) (fun c67 => ?_)
            · have hpn : p = nM M N := by have hge9 : nM M N ≤ p := geN hi (rfl : gtM M N 111 0 = nI (nM M N)) c67 (by omega); omega
              exact ret (sr (gtM M N) 20 (pcR M (whM M N) B N (nM M N) p (p + 1))) 185 _ dX9_layPairs_185 (by rw [hpn]; rfl)
            · have hpn : p < nM M N := ltN hi (rfl : gtM M N 111 0 = nI (nM M N)) c67 (by omega)
              have hix : ix i = p := by rw [hi]; exact ix_nI (by omega)
              have hin : vp_in i 16 := by rw [hi]; exact vp_in_nI (by omega) (by decide)
              refine x_iload_n C (pc := 70) dX9_layPairs_70 1 rfl rfl ?_
              refine x_iconst C (pc := 71) (v := 1) dX9_layPairs_71 (by decide) ?_
              refine x_iadd C (pc := 72) dX9_layPairs_72 ?_
              refine x_istore_n C (pc := 73) dX9_layPairs_73 [(0, .ref (G.1 0)), (1, .int i), (2, .int (i + 1))] [1, 2, 0] rfl (by decide) rfl ?_
              have L74 : ∀ (nu : Nat) (x : Int32) (q : Nat), (p < q) → (q ≤ nM M N) → (x = nI q) → (nM M N - q) < nu → WX K (mw G) 7 (sr (gtM M N) 20 (pcR M (whM M N) B N (nM M N) p q)) 74 [(0, .ref (G.1 0)), (1, .int i), (2, .int x)] [] := by
                intro nu
                induction nu with
                | zero => intro x q hq hqn0 hx hmu74; exact absurd hmu74 (Nat.not_lt_zero _)
                | succ n74 ih74 =>
                  intro x q hq hqn0 hx hmu74
                  refine x_iload_n C (pc := 74) dX9_layPairs_74 2 rfl rfl ?_
                  refine x_aload_n C (pc := 75) dX9_layPairs_75 0 rfl rfl ?_
                  refine mG_presentMany C fl_X9_182 dX9_layPairs_76 ?_
                  refine x_top (y := ((gtM M N) 111 0)) rfl ?_
                  refine x_icmp_ge C (pc := 79) (tgt := 179) dX9_layPairs_79 (by decide) (fun c79 => ?_) (fun c79 => ?_)
                  · have hqn : q = nM M N := by have hge9 : nM M N ≤ q := geN hx (rfl : gtM M N 111 0 = nI (nM M N)) c79 (by omega); omega
                    refine x_iinc C (pc := 179) (v := i + 1) dX9_layPairs_179 1 [(0, .ref (G.1 0)), (1, .int (i + 1)), (2, .int x)] [1, 0, 2] rfl (by rfl) (by decide) rfl ?_
                    refine x_goto C (pc := 182) (tgt := 62) dX9_layPairs_182 (by decide) ?_
                    refine x_sub [(0, .ref (G.1 0)), (1, .int (i + 1))] [0, 1] rfl ?_
                    refine x_eqX (X' := (sr (gtM M N) 20 (pcR M (whM M N) B N (nM M N) (p + 1) ((p + 1) + 1)))) (by rw [hqn, pcR_next]) ?_
                    exact ih62 (i + 1) (p + 1) (by omega) (by rw [hi]; exact nI_1 p) (by omega)
                  · have hqn : q < nM M N := ltN hx (rfl : gtM M N 111 0 = nI (nM M N)) c79 (by omega)
                    have hxx : ix x = q := by rw [hx]; exact ix_nI (by omega)
                    have hinx : vp_in x 16 := by rw [hx]; exact vp_in_nI (by omega) (by decide)
                    have hw1 : vp_in (whM M N (ix i)) 16 := by rw [hix]; exact hwin p hpn
                    have hw2 : vp_in (whM M N (ix x)) 16 := by rw [hxx]; exact hwin q hqn
                    obtain ⟨kk, hkk, hke⟩ := hk p q hq hqn
                    have h256 : vp_in (16 * i + x) 256 := by rw [i16 hi hx]; exact vp_in_nI (by omega) (by decide)
                    have hkk2 : ix (16 * i + x) = 16 * p + q := by rw [i16 hi hx]; exact ix_nI (by omega)
                    refine x_aload_n C (pc := 82) dX9_layPairs_82 0 rfl rfl ?_
                    refine mG_present C fl_X9_66 dX9_layPairs_83 ?_
                    refine x_iload_n C (pc := 86) dX9_layPairs_86 1 rfl rfl ?_
                    refine mL_present C dX9_layPairs_87 (by assumption) ?_
                    refine x_top (y := ((gtM M N) 19 (ix i))) rfl ?_
                    refine x_top (y := (whM M N (ix i))) (rfl) ?_
                    refine x_istore_n C (pc := 88) dX9_layPairs_88 [(0, .ref (G.1 0)), (1, .int i), (2, .int x), (3, .int (whM M N (ix i)))] [1, 2, 3, 0] rfl (by decide) rfl ?_
                    refine x_aload_n C (pc := 89) dX9_layPairs_89 0 rfl rfl ?_
                    refine mG_present C fl_X9_66 dX9_layPairs_90 ?_
                    refine x_iload_n C (pc := 93) dX9_layPairs_93 2 rfl rfl ?_
                    refine mL_present C dX9_layPairs_94 (by assumption) ?_
                    refine x_top (y := ((gtM M N) 19 (ix x))) rfl ?_
                    refine x_top (y := (whM M N (ix x))) (rfl) ?_
                    refine x_istore C (pc := 95) dX9_layPairs_95 [(0, .ref (G.1 0)), (1, .int i), (2, .int x), (3, .int (whM M N (ix i))), (4, .int (whM M N (ix x)))] [1, 2, 3, 4, 0] (by decide) rfl ?_
                    refine x_aload_n C (pc := 97) dX9_layPairs_97 0 rfl rfl ?_
                    refine mG_winsOf C fl_X9_29 dX9_layPairs_98 ?_
                    refine x_iload_n C (pc := 101) dX9_layPairs_101 3 rfl rfl ?_
                    refine mL_winsOf C dX9_layPairs_102 (by assumption) ?_
                    refine x_top (y := ((gtM M N) 7 (ix (whM M N (ix i))))) rfl ?_
                    refine x_aload_n C (pc := 103) dX9_layPairs_103 0 rfl rfl ?_
                    refine mG_winsOf C fl_X9_29 dX9_layPairs_104 ?_
                    refine x_iload C (pc := 107) dX9_layPairs_107 4 rfl ?_
                    refine mL_winsOf C dX9_layPairs_109 (by assumption) ?_
                    refine x_top (y := ((gtM M N) 7 (ix (whM M N (ix x))))) rfl ?_
                    refine x_isub C (pc := 110) dX9_layPairs_110 ?_
                    obtain ⟨df, hdf⟩ : ∃ z, z = (M 7) (ix (whM M N (ix i))) - (M 7) (ix (whM M N (ix x))) := ⟨_, rfl⟩
                    refine x_top (y := df) (hdf.symm) ?_
                    refine x_istore C (pc := 111) dX9_layPairs_111 [(0, .ref (G.1 0)), (1, .int i), (2, .int x), (3, .int (whM M N (ix i))), (4, .int (whM M N (ix x))), (5, .int df)] [1, 2, 3, 4, 5, 0] (by decide) rfl ?_
                    have J126 : WX K (mw G) 7 (sr (gtM M N) 20 (pcR M (whM M N) B N (nM M N) p q)) 126 [(0, .ref (G.1 0)), (1, .int i), (2, .int x), (3, .int (whM M N (ix i))), (4, .int (whM M N (ix x))), (5, .int df)] [.int (vM_abs df)] := by
                      refine x_istore C (pc := 126) dX9_layPairs_126 [(0, .ref (G.1 0)), (1, .int i), (2, .int x), (3, .int (whM M N (ix i))), (4, .int (whM M N (ix x))), (5, .int df), (6, .int (vM_abs df))] [1, 2, 3, 4, 5, 6, 0] (by decide) rfl ?_
                      refine x_aload_n C (pc := 128) dX9_layPairs_128 0 rfl rfl ?_
                      refine mG_pairCost C fl_X9_69 dX9_layPairs_129 ?_
                      refine x_bipush C (pc := 132) (v := 16) dX9_layPairs_132 (by decide) ?_
                      refine x_iload_n C (pc := 134) dX9_layPairs_134 1 rfl rfl ?_
                      refine x_imul C (pc := 135) dX9_layPairs_135 ?_
                      refine x_iload_n C (pc := 136) dX9_layPairs_136 2 rfl rfl ?_
                      refine x_iadd C (pc := 137) dX9_layPairs_137 ?_
                      have J172 : WX K (mw G) 7 (sr (gtM M N) 20 (pcR M (whM M N) B N (nM M N) p q)) 172 [(0, .ref (G.1 0)), (1, .int i), (2, .int x), (3, .int (whM M N (ix i))), (4, .int (whM M N (ix x))), (5, .int df), (6, .int (vM_abs df))] [.int (vM_chg M (whM M N (ix i)) (whM M N (ix x)) B N), .int ((16 * i) + x), .ref (G.1 20)] := by
                        refine mS_pairCost C dX9_layPairs_172 (by assumption) ?_
                        refine x_iinc C (pc := 173) (v := x + 1) dX9_layPairs_173 2 [(0, .ref (G.1 0)), (1, .int i), (2, .int (x + 1)), (3, .int (whM M N (ix i))), (4, .int (whM M N (ix x))), (5, .int df), (6, .int (vM_abs df))] [1, 2, 0, 3, 4, 5, 6] rfl (by rfl) (by decide) rfl ?_
                        refine x_goto C (pc := 176) (tgt := 74) dX9_layPairs_176 (by decide) ?_
                        refine x_sub [(0, .ref (G.1 0)), (1, .int i), (2, .int (x + 1))] [0, 1, 2] rfl ?_
                        refine x_eqX (X' := (sr (gtM M N) 20 (pcR M (whM M N) B N (nM M N) p (q + 1)))) (by rw [hkk2, hix, hxx, ux_srs, pcR_step _ _ _ _ hq hqn hn16]) ?_
                        exact ih74 (x + 1) (q + 1) (by omega) (by omega) (by rw [hx]; exact nI_1 q) (by omega)
                      refine x_aload_n C (pc := 138) dX9_layPairs_138 0 rfl rfl ?_
                      refine x_iload_n C (pc := 139) dX9_layPairs_139 3 rfl rfl ?_
                      refine x_iload C (pc := 140) dX9_layPairs_140 4 rfl ?_
                      refine x_callVi C (pc := 142) [.int (whM M N (ix i)), .int (whM M N (ix x))] (fun l D => c_X9_barredBits l D G B (sr (gtM M N) 20 (pcR M (whM M N) B N (nM M N) p q)) (whM M N (ix i)) (whM M N (ix x)) hw1 hw2 hBt hB120) (me_0 G _) rfl ml_X9_179 co_X9_barredBits im_X9_barredBits se_X9_barredBits in_X9 hy_X9_barredBits (by decide) (by decide) (Nat.le_of_ble_eq_true rfl) dX9_layPairs_142 rfl (kx ?_)
                      refine x_top (y := vM_bars M (whM M N (ix i)) (whM M N (ix x)) B) rfl ?_
                      refine x_if_le C (pc := 145) (tgt := 153) dX9_layPairs_145 (by decide) (fun c145 => ?_) (fun c145 => ?_)
                      · refine x_aload_n C (pc := 153) dX9_layPairs_153 0 rfl rfl ?_
                        refine x_iload C (pc := 154) dX9_layPairs_154 6 rfl ?_
                        refine x_callVi C (pc := 156) [.int (vM_abs df)] (fun l D => c_X9_priceOf l D G kk (sr (gtM M N) 20 (pcR M (whM M N) B N (nM M N) p q)) (vM_abs df) ht hZ (by rw [hdf, hix, hxx]; exact hke) hkk) (me_0 G _) rfl ml_X9_161 co_X9_priceOf im_X9_priceOf se_X9_priceOf in_X9 hy_X9_priceOf (by decide) (by decide) (Nat.le_of_ble_eq_true rfl) dX9_layPairs_156 rfl (kx ?_)
                        refine x_top (y := vM_priceOf M (vM_abs df)) rfl ?_
                        refine x_aload_n C (pc := 159) dX9_layPairs_159 0 rfl rfl ?_
                        refine x_iload C (pc := 160) dX9_layPairs_160 4 rfl ?_
                        refine x_callVi C (pc := 162) [.int (whM M N (ix x))] (fun l D => c_X9_rungOf l D G N (sr (gtM M N) 20 (pcR M (whM M N) B N (nM M N) p q)) (whM M N (ix x)) hS hN16) (me_0 G _) rfl ml_X9_147 co_X9_rungOf im_X9_rungOf se_X9_rungOf in_X9 hy_X9_rungOf (by decide) (by decide) (Nat.le_of_ble_eq_true rfl) dX9_layPairs_162 rfl (kx ?_)
                        refine x_top (y := rgS (M 11) (whM M N (ix x)) N 0) rfl ?_
                        refine x_iadd C (pc := 165) dX9_layPairs_165 ?_
                        refine x_aload_n C (pc := 166) dX9_layPairs_166 0 rfl rfl ?_
                        refine x_iload_n C (pc := 167) dX9_layPairs_167 3 rfl rfl ?_
                        refine x_callVi C (pc := 168) [.int (whM M N (ix i))] (fun l D => c_X9_rungOf l D G N (sr (gtM M N) 20 (pcR M (whM M N) B N (nM M N) p q)) (whM M N (ix i)) hS hN16) (me_0 G _) rfl ml_X9_147 co_X9_rungOf im_X9_rungOf se_X9_rungOf in_X9 hy_X9_rungOf (by decide) (by decide) (Nat.le_of_ble_eq_true rfl) dX9_layPairs_168 rfl (kx ?_)
                        refine x_top (y := rgS (M 11) (whM M N (ix i)) N 0) rfl ?_
                        refine x_isub C (pc := 171) dX9_layPairs_171 ?_
                        refine x_top (y := (vM_chg M (whM M N (ix i)) (whM M N (ix x)) B N)) (by unfold vM_chg; rw [if_pos c145, ← hdf]) ?_
                        exact J172
                      · refine x_bipush C (pc := 148) (v := (-9)) dX9_layPairs_148 (by decide) ?_
                        refine x_goto C (pc := 150) (tgt := 172) dX9_layPairs_150 (by decide) ?_
                        refine x_top (y := (vM_chg M (whM M N (ix i)) (whM M N (ix x)) B N)) (by unfold vM_chg; rw [if_neg c145]) ?_
                        exact J172
                    refine x_iload C (pc := 113) dX9_layPairs_113 5 rfl ?_
                    refine x_if_ge C (pc := 115) (tgt := 124) dX9_layPairs_115 (by decide) (fun c115 => ?_) (fun c115 => ?_)
                    · refine x_iload C (pc := 124) dX9_layPairs_124 5 rfl ?_
                      refine x_top (y := (vM_abs df)) (by unfold vM_abs; (repeat (first | rw [if_pos (by assumption)] | rw [if_neg (by assumption)])) <;> first | rfl ) ?_
                      exact J126
                    · refine x_iload C (pc := 118) dX9_layPairs_118 5 rfl ?_
                      refine x_ineg C (pc := 120) dX9_layPairs_120 ?_
                      refine x_goto C (pc := 121) (tgt := 126) dX9_layPairs_121 (by decide) ?_
                      refine x_top (y := (vM_abs df)) (by unfold vM_abs; (repeat (first | rw [if_pos (by assumption)] | rw [if_neg (by assumption)])) <;> first | rfl ) ?_
                      exact J126
              exact L74 _ (i + 1) (p + 1) (by omega) (by omega) (by rw [hi]; exact nI_1 p) (Nat.lt_succ_self _)
        refine x_eqX (X' := (sr (gtM M N) 20 (pcR M (whM M N) B N (nM M N) 0 (0 + 1)))) (by rw [pcR_0]; exact (sr_self (gtM M N) 20).symm) ?_
        exact L62 _ 0 0 (Nat.zero_le _) rfl (Nat.lt_succ_self _)
      · have hYs : (N1 102 0) = nI N := by rw [hY]; exact hS
        have hlt : j < N := ltN hi hYs c12 (by omega)
        have hin : vp_in i 16 := by rw [hi]; exact vp_in_nI (by omega) (by decide)
        have hix : ix i = j := by rw [hi]; exact ix_nI (by omega)
        have hYb : (N1 11) = (M 11) := by rw [hY]; rfl
        have hYa : (N1 6) = (M 6) := by rw [hY]; rfl
        have hin2 : vp_in ((N1 11) (ix i)) 16 := by rw [hYb, hix]; exact hB j hlt
        have hYf : (N1 111 0) = nI (plC (M 6) (M 11) 0 j) := by rw [hY]; rfl
        have hcl := plC_le (M 6) (M 11) 0 j
        refine x_aload_n C (pc := 15) dX9_layPairs_15 0 rfl rfl ?_
        refine mG_isAbsent C fl_X9_26 dX9_layPairs_16 ?_
        refine x_aload_n C (pc := 19) dX9_layPairs_19 0 rfl rfl ?_
        refine mG_rungs C fl_X9_41 dX9_layPairs_20 ?_
        refine x_iload_n C (pc := 23) dX9_layPairs_23 1 rfl rfl ?_
        refine mL_rungs C dX9_layPairs_24 (by assumption) ?_
        refine mL_isAbsent C dX9_layPairs_25 (by assumption) ?_
        refine x_if_ne C (pc := 26) (tgt := 54) dX9_layPairs_26 (by decide) (fun c26 => ?_) (fun c26 => ?_)
        · refine x_iinc C (pc := 54) (v := i + 1) dX9_layPairs_54 1 [(0, .ref (G.1 0)), (1, .int (i + 1))] [1, 0] rfl (by rfl) (by decide) rfl ?_
          refine x_goto C (pc := 57) (tgt := 7) dX9_layPairs_57 (by decide) ?_
          exact ih7 N1 (i + 1) (j + 1) (by omega) (by rw [hi]; exact nI_1 j) (by rw [hYa, hYb, hix] at c26; first | (rw [hYf, ix_nI (by omega), hYb, hix, hY]; exact gtM_step c26) | (rw [hY]; exact gtM_skip c26)) (by omega)
        · have hinl : vp_in (N1 111 0) 16 := by rw [hYf]; exact vp_in_nI (by omega) (by decide)
          refine x_aload_n C (pc := 29) dX9_layPairs_29 0 rfl rfl ?_
          refine mG_present C fl_X9_66 dX9_layPairs_30 ?_
          refine x_aload_n C (pc := 33) dX9_layPairs_33 0 rfl rfl ?_
          refine mG_presentMany C fl_X9_182 dX9_layPairs_34 ?_
          refine x_aload_n C (pc := 37) dX9_layPairs_37 0 rfl rfl ?_
          refine mG_rungs C fl_X9_41 dX9_layPairs_38 ?_
          refine x_iload_n C (pc := 41) dX9_layPairs_41 1 rfl rfl ?_
          refine mL_rungs C dX9_layPairs_42 (by assumption) ?_
          refine mS_present C dX9_layPairs_43 (by assumption) ?_
          refine x_aload_n C (pc := 44) dX9_layPairs_44 0 rfl rfl ?_
          refine x_dup C (pc := 45) dX9_layPairs_45 rfl ?_
          refine mG_presentMany C fl_X9_182 dX9_layPairs_46 ?_
          refine x_top (y := (N1 111 0)) rfl ?_
          refine x_iconst C (pc := 49) (v := 1) dX9_layPairs_49 (by decide) ?_
          refine x_iadd C (pc := 50) dX9_layPairs_50 ?_
          refine mP_presentMany C fl_X9_182 (v := (N1 111 0) + 1) dX9_layPairs_51 ?_
          refine x_iinc C (pc := 54) (v := i + 1) dX9_layPairs_54 1 [(0, .ref (G.1 0)), (1, .int (i + 1))] [1, 0] rfl (by rfl) (by decide) rfl ?_
          refine x_goto C (pc := 57) (tgt := 7) dX9_layPairs_57 (by decide) ?_
          exact ih7 (ux (ux N1 19 (ix (N1 111 0)) (N1 11 (ix i))) 111 0 ((N1 111 0) + 1)) (i + 1) (j + 1) (by omega) (by rw [hi]; exact nI_1 j) (by rw [hYa, hYb, hix] at c26; first | (rw [hYf, ix_nI (by omega), hYb, hix, hY]; exact gtM_step c26) | (rw [hY]; exact gtM_skip c26)) (by omega)
  exact L7 _ (ux M 111 0 0) 0 0 (Nat.zero_le _) rfl ((gtM_0 M).symm) (Nat.lt_succ_self _)

def FCM (c : Nat → Nat → Option Nat) (n : Nat) (M : St) : Prop := n ≤ 16 ∧ (M 111 0) = nI n ∧ (∀ p q, p < q → q < n → (c p q = none ∧ (M 20) (16 * p + q) = (-9)) ∨ ∃ w, c p q = some w ∧ w ≤ 2000000 ∧ (M 20) (16 * p + q) = nI w)
def LMok (c : Nat → Nat → Option Nat) (n : Nat) (g : Nat → Int32) (m : Nat) : Prop := ∀ k, k < m → g k = nI (lpc c n n (fM k))
theorem fM_rmv {m q i : Nat} (h : m.testBit q = true) : fM (m ^^^ 2 ^ q) i = rmv (fM m) q i := by
  unfold fM rmv
  rw [xor_bit h]
theorem xor_lt_self {m q : Nat} (h : m.testBit q = true) : m ^^^ 2 ^ q < m := by
  refine Nat.lt_of_le_of_ne (Nat.le_of_testBit (fun i hi => ?_)) (fun e => ?_)
  · rw [xor_bit h] at hi
    by_cases e : i = q
    · rw [if_pos e] at hi; cases hi
    · rw [if_neg e] at hi; exact hi
  · have h2 := xor_bit h q
    rw [e, h, if_pos rfl] at h2
    cases h2
theorem LM_val {c : Nat → Nat → Option Nat} {n a m : Nat} (han : a < n) (hl : ∀ q, q < a + 1 → m.testBit q = false) : lpc c n n (fM m) = lpc c n (n - a - 1) (fM m) := lpc_skip n (by omega) (Nat.le_refl _) (fun q _ h2 => hl q (by omega))
theorem low_xor {m a q : Nat} (ha : m.testBit a = true) (hl : ∀ q, q < a → m.testBit q = false) (hq : q < a + 1) : (m ^^^ 2 ^ a).testBit q = false := by
  rw [xor_bit ha]
  by_cases e : q = a
  · rw [if_pos e]
  · rw [if_neg e]; exact hl q (by omega)
theorem LM_fin {c : Nat → Nat → Option Nat} {n a m : Nat} (han : a < n) (ha : m.testBit a = true) (hl : ∀ q, q < a → m.testBit q = false) : mQ c a (fM (m ^^^ 2 ^ a)) (lpc c n (n - a - 1)) (n - a - 1) = lpc c n n (fM m) := by
  have e1 : lpc c n n (fM m) = lpc c n (n - a) (fM m) := lpc_skip n (by omega) (Nat.le_refl _) (fun q _ h2 => hl q (by omega))
  rw [e1, lpc_at (f := fM m) han ha]
  have hq : ∀ q, a < q → fM (m ^^^ 2 ^ a) q = fM m q := fun q h => by
    rw [fM_rmv ha]
    unfold rmv
    rw [if_neg (by omega)]
  exact mQ_congr (lpc_eq (by omega) (fun q h1 h2 => hq q (by omega))) _ (fun j hj => hq _ (by omega)) (fun _ _ => rfl) (fun j hj => lpc_eq (by omega) (fun q h1 h2 => by
    unfold rmv
    rw [hq q (by omega)]))
theorem nI_shlN {t : Int32} {a : Nat} (h : t = nI a) (ha : a < 31) : (1 : Int32) <<< (t &&& 31) = nI (2 ^ a) := by
  rw [h]; exact nI_shl1 a ha
theorem andnot_no {m t : Nat} (hm : m < 2 ^ 31) (ht : t < 31) (hb : m.testBit t = false) : nI m &&& (nI (2 ^ t) ^^^ (-1)) = nI m := by
  rw [nI_m1all, nI_xor, nI_and]
  congr 1
  apply Nat.eq_of_testBit_eq
  intro i
  rw [Nat.testBit_and, Nat.testBit_xor, Nat.testBit_two_pow_sub_one]
  by_cases e : i = t
  · rw [e, hb]; rfl
  · rw [Nat.testBit_two_pow_of_ne (Ne.symm e)]
    by_cases h : i < 32
    · rw [decide_eq_true h]; simp
    · have : m.testBit i = false := Nat.testBit_lt_two_pow (Nat.lt_of_lt_of_le hm (Nat.pow_le_pow_right (by decide) (by omega)))
      rw [this]; rfl
theorem mQ_skip {c : Nat → Nat → Option Nat} {p : Nat} {f : Nat → Bool} {L : (Nat → Bool) → Nat} {i q : Nat} (hq : p + 1 + i = q) (h : f q = true → c p q = none) : mQ c p f L (i + 1) = mQ c p f L i := by
  rw [mQ, hq]
  by_cases hf : f q = true
  · rw [if_pos hf, h hf]
  · rw [if_neg hf]
theorem mQ_hit {c : Nat → Nat → Option Nat} {p : Nat} {f : Nat → Bool} {L : (Nat → Bool) → Nat} {i q w : Nat} (hq : p + 1 + i = q) (hf : f q = true) (hc : c p q = some w) : mQ c p f L (i + 1) = Nat.min (mQ c p f L i) (w + L (rmv f q)) := by
  rw [mQ, hq, if_pos hf, hc]

set_option maxHeartbeats 4000000 in
set_option maxRecDepth 100000 in
theorem c_X9_layLeast (l : Launch) (D : va_G) (G : Gx) (c : Nat → Nat → Option Nat) (n : Nat) (M : St)  (hC : FCM c n M) : Cv l yX9_layLeast cX9_layLeast 7 none 1 (mw G) D (tyG G) [.ref (G.1 0)] M (fun X1 => ∃ g, X1 = sr M 21 g ∧ LMok c n g (2 ^ n)) := by
  refine m_v (nL := 7) (lv := [(0, .ref (G.1 0))]) [.ref (G.1 0)] RX9 rfl (mw_adr G) (by decide +kernel) (Nat.le_of_ble_eq_true rfl) rfl (fun K C ret => ?_)
  obtain ⟨hn16, hpm, hch⟩ := id hC
  have h2p : 1 ≤ 2 ^ n := Nat.pow_pos (by decide)
  have h216 : 2 ^ n ≤ 2 ^ 16 := Nat.pow_le_pow_right (by decide) hn16
  refine x_aload_n C (pc := 0) dX9_layLeast_0 0 rfl rfl ?_
  refine mG_leastOf C fl_X9_73 dX9_layLeast_1 ?_
  refine x_iconst C (pc := 4) (v := 0) dX9_layLeast_4 (by decide) ?_
  refine x_iconst C (pc := 5) (v := 0) dX9_layLeast_5 (by decide) ?_
  refine mS_leastOf C dX9_layLeast_6 (vp_in_nI (n := 0) (by decide) (by decide)) ?_
  refine x_iconst C (pc := 7) (v := 1) dX9_layLeast_7 (by decide) ?_
  refine x_istore_n C (pc := 8) dX9_layLeast_8 [(0, .ref (G.1 0)), (1, .int 1)] [1, 0] rfl (by decide) rfl ?_
  have L9 : ∀ (nu : Nat) (N1 : St) (s : Int32) (m : Nat), (1 ≤ m) → (m ≤ 2 ^ n) → (s = nI m) → (∃ g, N1 = sr M 21 g ∧ LMok c n g m) → (2 ^ n - m) < nu → WX K (mw G) 7 N1 9 [(0, .ref (G.1 0)), (1, .int s)] [] := by
    intro nu
    induction nu with
    | zero => intro N1 s m hm1 hmn hs hYg hmu9; exact absurd hmu9 (Nat.not_lt_zero _)
    | succ n9 ih9 =>
      intro N1 s m hm1 hmn hs hYg hmu9
      refine x_iload_n C (pc := 9) dX9_layLeast_9 1 rfl rfl ?_
      refine x_iconst C (pc := 10) (v := 1) dX9_layLeast_10 (by decide) ?_
      refine x_aload_n C (pc := 11) dX9_layLeast_11 0 rfl rfl ?_
      refine mG_presentMany C fl_X9_182 dX9_layLeast_12 ?_
      refine x_ishl C (pc := 15) dX9_layLeast_15 ?_
      refine x_icmp_ge C (pc := 16) (tgt := 149) dX9_layLeast_16 (by decide) (fun c16 => ?_) (fun c16 => ?_)
      · obtain ⟨g, hY, hg⟩ := hYg
        have hYp : (N1 111 0) = nI n := by rw [hY]; exact hpm
        have hmn2 : m = 2 ^ n := by have := geN hs (by rw [hYp]; exact nI_shl1 n (by omega)) c16 (by omega); omega
        exact ret N1 149 _ dX9_layLeast_149 ⟨g, hY, by rw [← hmn2]; exact hg⟩
      · obtain ⟨g, hY, hg⟩ := hYg
        have hYp : (N1 111 0) = nI n := by rw [hY]; exact hpm
        have hml : m < 2 ^ n := ltN hs (by rw [hYp]; exact nI_shl1 n (by omega)) c16 (by omega)
        have hm31 : m < 2 ^ 31 := by omega
        obtain ⟨a, han, ha, hl⟩ := fst_ex hm1 hml
        have hmx : ix s = m := by rw [hs]; exact ix_nI hm31
        have hmin : vp_in s 65536 := by rw [hs]; exact vp_in_nI (by omega) (by decide)
        obtain ⟨m1, hmm1⟩ : ∃ m1, m1 = m ^^^ 2 ^ a := ⟨_, rfl⟩
        have hm1lt : m1 < m := by rw [hmm1]; exact xor_lt_self ha
        have hm131 : m1 < 2 ^ 31 := by omega
        have hm1low : ∀ q, q < a + 1 → m1.testBit q = false := fun q hq => by rw [hmm1]; exact low_xor ha hl hq
        have hm1in : vp_in (nI m1) 65536 := vp_in_nI (by omega) (by decide)
        have hgl : ∀ k, k < m → (N1 21) (ix (nI k)) = nI (lpc c n n (fM k)) := fun k hk => by rw [ix_nI (by omega), hY, sr_s]; exact hg k hk
        refine x_aload_n C (pc := 19) dX9_layLeast_19 0 rfl rfl ?_
        refine x_iload_n C (pc := 20) dX9_layLeast_20 1 rfl rfl ?_
        refine x_callVi C (pc := 21) [.int s] (fun l D => c_X9_first l D G m a N1 s hs hm31 (by omega) ha hl) (me_0 G _) rfl ml_X9_185 co_X9_first im_X9_first se_X9_first in_X9 hy_X9_first (by decide) (by decide) (Nat.le_of_ble_eq_true rfl) dX9_layLeast_21 rfl (kx ?_)
        refine x_istore_n C (pc := 24) dX9_layLeast_24 [(0, .ref (G.1 0)), (1, .int s), (2, .int (nI a))] [1, 2, 0] rfl (by decide) rfl ?_
        refine x_iload_n C (pc := 25) dX9_layLeast_25 1 rfl rfl ?_
        refine x_iconst C (pc := 26) (v := 1) dX9_layLeast_26 (by decide) ?_
        refine x_iload_n C (pc := 27) dX9_layLeast_27 2 rfl rfl ?_
        refine x_ishl C (pc := 28) dX9_layLeast_28 ?_
        refine x_iconst C (pc := 29) (v := (-1)) dX9_layLeast_29 (by decide) ?_
        refine x_ixor C (pc := 30) dX9_layLeast_30 ?_
        refine x_iand C (pc := 31) dX9_layLeast_31 ?_
        refine x_top (y := nI m1) (by rw [hs, nI_shl1 a (by omega), hmm1]; exact andnot hm31 (by omega) ha) ?_
        refine x_istore_n C (pc := 32) dX9_layLeast_32 [(0, .ref (G.1 0)), (1, .int s), (2, .int (nI a)), (3, .int (nI m1))] [1, 2, 3, 0] rfl (by decide) rfl ?_
        refine x_sipush C (pc := 33) (v := 10000) dX9_layLeast_33 (by decide) ?_
        refine x_aload_n C (pc := 36) dX9_layLeast_36 0 rfl rfl ?_
        refine mG_leastOf C fl_X9_73 dX9_layLeast_37 ?_
        refine x_iload_n C (pc := 40) dX9_layLeast_40 3 rfl rfl ?_
        refine mL_leastOf C dX9_layLeast_41 (by exact hm1in) ?_
        refine x_iadd C (pc := 42) dX9_layLeast_42 ?_
        refine x_istore C (pc := 43) dX9_layLeast_43 [(0, .ref (G.1 0)), (1, .int s), (2, .int (nI a)), (3, .int (nI m1)), (4, .int (10000 + (N1 21 (ix (nI m1)))))] [1, 2, 3, 4, 0] (by decide) rfl ?_
        refine x_iload_n C (pc := 45) dX9_layLeast_45 2 rfl rfl ?_
        refine x_iconst C (pc := 46) (v := 1) dX9_layLeast_46 (by decide) ?_
        refine x_iadd C (pc := 47) dX9_layLeast_47 ?_
        refine x_istore C (pc := 48) dX9_layLeast_48 [(0, .ref (G.1 0)), (1, .int s), (2, .int (nI a)), (3, .int (nI m1)), (4, .int (10000 + (N1 21 (ix (nI m1))))), (5, .int ((nI a) + 1))] [1, 2, 3, 4, 5, 0] (by decide) rfl ?_
        have L50 : ∀ (nu : Nat) (be : Int32) (jj : Int32) (x : Nat), (a < x) → (x ≤ n) → (jj = nI x) → (be = nI (mQ c a (fM m1) (lpc c n (n - a - 1)) (x - (a + 1)))) → (n - x) < nu → WX K (mw G) 7 N1 50 [(0, .ref (G.1 0)), (1, .int s), (2, .int (nI a)), (3, .int (nI m1)), (4, .int be), (5, .int jj)] [] := by
          intro nu
          induction nu with
          | zero => intro be jj x hax hxn0 hx hbe hmu50; exact absurd hmu50 (Nat.not_lt_zero _)
          | succ n50 ih50 =>
            intro be jj x hax hxn0 hx hbe hmu50
            refine x_iload C (pc := 50) dX9_layLeast_50 5 rfl ?_
            refine x_aload_n C (pc := 52) dX9_layLeast_52 0 rfl rfl ?_
            refine mG_presentMany C fl_X9_182 dX9_layLeast_53 ?_
            refine x_icmp_ge C (pc := 56) (tgt := 135) dX9_layLeast_56 (by decide) (fun c56 => ?_) (fun c56 => ?_)
            · have hxn : x = n := by have := geN hx hYp c56 (by omega); omega
              refine x_aload_n C (pc := 135) dX9_layLeast_135 0 rfl rfl ?_
              refine mG_leastOf C fl_X9_73 dX9_layLeast_136 ?_
              refine x_iload_n C (pc := 139) dX9_layLeast_139 1 rfl rfl ?_
              refine x_iload C (pc := 140) dX9_layLeast_140 4 rfl ?_
              refine mS_leastOf C dX9_layLeast_142 (by exact hmin) ?_
              refine x_iinc C (pc := 143) (v := s + 1) dX9_layLeast_143 1 [(0, .ref (G.1 0)), (1, .int (s + 1)), (2, .int (nI a)), (3, .int (nI m1)), (4, .int be), (5, .int jj)] [1, 0, 2, 3, 4, 5] rfl (by rfl) (by decide) rfl ?_
              refine x_goto C (pc := 146) (tgt := 9) dX9_layLeast_146 (by decide) ?_
              refine x_sub [(0, .ref (G.1 0)), (1, .int (s + 1))] [0, 1] rfl ?_
              exact ih9 (ux N1 21 (ix s) be) (s + 1) (m + 1) (by omega) (by omega) (by rw [hs]; exact nI_1 m) (⟨upd g m (nI (mQ c a (fM m1) (lpc c n (n - a - 1)) (n - a - 1))), by rw [hmx, hbe, hxn, show n - (a + 1) = n - a - 1 by omega, hY, ux_srs], fun k hk => by
                simp only [upd]
                by_cases e : k = m
                · rw [if_pos e, e, hmm1, LM_fin han ha hl]
                · rw [if_neg e]; exact hg k (by omega)⟩) (by omega)
            · have hxn : x < n := ltN hx hYp c56 (by omega)
              have hcq : (c a x = none ∧ (N1 20) (ix (16 * nI a + jj)) = (-9)) ∨ ∃ w, c a x = some w ∧ w ≤ 2000000 ∧ (N1 20) (ix (16 * nI a + jj)) = nI w := by
                rw [i16 rfl hx, ix_nI (by omega), hY, sr_n _ _ (by decide)]
                exact hch a x hax hxn
              have h256 : vp_in (16 * nI a + jj) 256 := by rw [i16 rfl hx]; exact vp_in_nI (by omega) (by decide)
              have J129 : ∀ (e3 : Int32), (e3 = nI (mQ c a (fM m1) (lpc c n (n - a - 1)) (x + 1 - (a + 1)))) → WX K (mw G) 7 N1 129 [(0, .ref (G.1 0)), (1, .int s), (2, .int (nI a)), (3, .int (nI m1)), (4, .int e3), (5, .int jj)] [] := by
                intro e3 hj129
                refine x_iinc C (pc := 129) (v := jj + 1) dX9_layLeast_129 5 [(0, .ref (G.1 0)), (1, .int s), (2, .int (nI a)), (3, .int (nI m1)), (4, .int e3), (5, .int (jj + 1))] [1, 2, 3, 4, 5, 0] rfl (by rfl) (by decide) rfl ?_
                refine x_goto C (pc := 132) (tgt := 50) dX9_layLeast_132 (by decide) ?_
                exact ih50 e3 (jj + 1) (x + 1) (by omega) (by omega) (by rw [hx]; exact nI_1 x) hj129 (by omega)
              refine x_aload_n C (pc := 59) dX9_layLeast_59 0 rfl rfl ?_
              refine mG_pairCost C fl_X9_69 dX9_layLeast_60 ?_
              refine x_bipush C (pc := 63) (v := 16) dX9_layLeast_63 (by decide) ?_
              refine x_iload_n C (pc := 65) dX9_layLeast_65 2 rfl rfl ?_
              refine x_imul C (pc := 66) dX9_layLeast_66 ?_
              refine x_iload C (pc := 67) dX9_layLeast_67 5 rfl ?_
              refine x_iadd C (pc := 69) dX9_layLeast_69 ?_
              refine mL_pairCost C dX9_layLeast_70 (by exact h256) ?_
              refine x_istore C (pc := 71) dX9_layLeast_71 [(0, .ref (G.1 0)), (1, .int s), (2, .int (nI a)), (3, .int (nI m1)), (4, .int be), (5, .int jj), (6, .int (N1 20 (ix ((16 * (nI a)) + jj))))] [1, 2, 3, 4, 5, 6, 0] (by decide) rfl ?_
              refine x_iload_n C (pc := 73) dX9_layLeast_73 3 rfl rfl ?_
              refine x_iload C (pc := 74) dX9_layLeast_74 5 rfl ?_
              refine x_ishr C (pc := 76) dX9_layLeast_76 ?_
              refine x_iconst C (pc := 77) (v := 1) dX9_layLeast_77 (by decide) ?_
              refine x_iand C (pc := 78) dX9_layLeast_78 ?_
              refine x_iconst C (pc := 79) (v := 1) dX9_layLeast_79 (by decide) ?_
              refine x_icmp_ne C (pc := 80) (tgt := 129) dX9_layLeast_80 (by decide) (fun c80 => ?_) (fun c80 => ?_)
              · refine x_sub [(0, .ref (G.1 0)), (1, .int s), (2, .int (nI a)), (3, .int (nI m1)), (4, .int be), (5, .int jj)] [0, 1, 2, 3, 4, 5] rfl ?_
                exact J129 be (by rw [hbe, show x + 1 - (a + 1) = (x - (a + 1)) + 1 by omega, mQ_skip (f := fM m1) (q := x) (by omega) (fun h => absurd ((shr_tb hm131 (by omega)).mpr h) (by rw [hx] at c80; exact c80))])
              · refine x_iload C (pc := 83) dX9_layLeast_83 6 rfl ?_
                refine x_bipush C (pc := 85) (v := (-9)) dX9_layLeast_85 (by decide) ?_
                refine x_icmp_eq C (pc := 87) (tgt := 129) dX9_layLeast_87 (by decide) (fun c87 => ?_) (fun c87 => ?_)
                · refine x_sub [(0, .ref (G.1 0)), (1, .int s), (2, .int (nI a)), (3, .int (nI m1)), (4, .int be), (5, .int jj)] [0, 1, 2, 3, 4, 5] rfl ?_
                  exact J129 be (by rw [hbe, show x + 1 - (a + 1) = (x - (a + 1)) + 1 by omega, mQ_skip (f := fM m1) (q := x) (by omega) (fun _ => by
                    rcases hcq with h | ⟨w, h1, h2, h3⟩
                    · exact h.1
                    · rw [h3] at c87; exact absurd c87 (nI_m9 (by omega)))])
                · have hfx : fM m1 x = true := by rw [hx] at c80; exact (shr_tb hm131 (by omega)).mp c80
                  obtain ⟨w, hcw, hw2, hXw⟩ := hcq.resolve_left (fun h => c87 h.2)
                  have hand : nI m1 &&& ((1 <<< (jj &&& 31)) ^^^ (-1)) = nI (m1 ^^^ 2 ^ x) := by rw [nI_shlN hx (by omega)]; exact andnot hm131 (by omega) hfx
                  have hm2lt : m1 ^^^ 2 ^ x < m1 := xor_lt_self hfx
                  have hm2in : vp_in (nI (m1 ^^^ 2 ^ x)) 65536 := vp_in_nI (by omega) (by decide)
                  have hv : lpc c n n (fM (m1 ^^^ 2 ^ x)) = lpc c n (n - a - 1) (rmv (fM m1) x) := by
                    rw [LM_val han (fun q hq => by rw [xor_bit hfx, if_neg (by omega)]; exact hm1low q hq)]
                    exact lpc_eq (by omega) (fun i _ _ => fM_rmv hfx)
                  have hLb := lpc_bound (c := c) (n := n) (n - a - 1) (rmv (fM m1) x)
                  have hLb2 := lpc_bound (c := c) (n := n) (n - a - 1) (fM m1)
                  have hmq0 := mQ_le0 (c := c) (p := a) (f := fM m1) (L := lpc c n (n - a - 1)) (x - (a + 1))
                  have hmqb : mQ c a (fM m1) (lpc c n (n - a - 1)) (x - (a + 1)) < 2 ^ 31 := by omega
                  have hsum : (N1 20) (ix (16 * nI a + jj)) + (N1 21) (ix (nI (m1 ^^^ 2 ^ x))) = nI (w + lpc c n (n - a - 1) (rmv (fM m1) x)) := by rw [hXw, hgl _ (by omega), hv, nI_add]
                  refine x_iload C (pc := 90) dX9_layLeast_90 6 rfl ?_
                  refine x_aload_n C (pc := 92) dX9_layLeast_92 0 rfl rfl ?_
                  refine mG_leastOf C fl_X9_73 dX9_layLeast_93 ?_
                  refine x_iload_n C (pc := 96) dX9_layLeast_96 3 rfl rfl ?_
                  refine x_iconst C (pc := 97) (v := 1) dX9_layLeast_97 (by decide) ?_
                  refine x_iload C (pc := 98) dX9_layLeast_98 5 rfl ?_
                  refine x_ishl C (pc := 100) dX9_layLeast_100 ?_
                  refine x_iconst C (pc := 101) (v := (-1)) dX9_layLeast_101 (by decide) ?_
                  refine x_ixor C (pc := 102) dX9_layLeast_102 ?_
                  refine x_iand C (pc := 103) dX9_layLeast_103 ?_
                  refine x_top (y := nI (m1 ^^^ 2 ^ x)) (hand) ?_
                  refine mL_leastOf C dX9_layLeast_104 (by exact hm2in) ?_
                  refine x_iadd C (pc := 105) dX9_layLeast_105 ?_
                  refine x_iload C (pc := 106) dX9_layLeast_106 4 rfl ?_
                  refine x_icmp_ge C (pc := 108) (tgt := 129) dX9_layLeast_108 (by decide) (fun c108 => ?_) (fun c108 => ?_)
                  · refine x_sub [(0, .ref (G.1 0)), (1, .int s), (2, .int (nI a)), (3, .int (nI m1)), (4, .int be), (5, .int jj)] [0, 1, 2, 3, 4, 5] rfl ?_
                    exact J129 be (by rw [hbe, show x + 1 - (a + 1) = (x - (a + 1)) + 1 by omega, mQ_hit (by omega) hfx hcw]; rw [hsum, hbe] at c108; rw [show Nat.min _ _ = _ from Nat.min_eq_left ((nI_leI hmqb (by omega)).mp c108)])
                  · refine x_iload C (pc := 111) dX9_layLeast_111 6 rfl ?_
                    refine x_aload_n C (pc := 113) dX9_layLeast_113 0 rfl rfl ?_
                    refine mG_leastOf C fl_X9_73 dX9_layLeast_114 ?_
                    refine x_iload_n C (pc := 117) dX9_layLeast_117 3 rfl rfl ?_
                    refine x_iconst C (pc := 118) (v := 1) dX9_layLeast_118 (by decide) ?_
                    refine x_iload C (pc := 119) dX9_layLeast_119 5 rfl ?_
                    refine x_ishl C (pc := 121) dX9_layLeast_121 ?_
                    refine x_iconst C (pc := 122) (v := (-1)) dX9_layLeast_122 (by decide) ?_
                    refine x_ixor C (pc := 123) dX9_layLeast_123 ?_
                    refine x_iand C (pc := 124) dX9_layLeast_124 ?_
                    refine x_top (y := nI (m1 ^^^ 2 ^ x)) (hand) ?_
                    refine mL_leastOf C dX9_layLeast_125 (by exact hm2in) ?_
                    refine x_iadd C (pc := 126) dX9_layLeast_126 ?_
                    refine x_istore C (pc := 127) dX9_layLeast_127 [(0, .ref (G.1 0)), (1, .int s), (2, .int (nI a)), (3, .int (nI m1)), (4, .int ((N1 20 (ix ((16 * (nI a)) + jj))) + (N1 21 (ix (nI (m1 ^^^ 2 ^ x)))))), (5, .int jj), (6, .int (N1 20 (ix ((16 * (nI a)) + jj))))] [1, 2, 3, 4, 0, 5, 6] (by decide) rfl ?_
                    refine x_sub [(0, .ref (G.1 0)), (1, .int s), (2, .int (nI a)), (3, .int (nI m1)), (4, .int ((N1 20 (ix ((16 * (nI a)) + jj))) + (N1 21 (ix (nI (m1 ^^^ 2 ^ x)))))), (5, .int jj)] [0, 1, 2, 3, 4, 5] rfl ?_
                    exact J129 ((N1 20 (ix ((16 * (nI a)) + jj))) + (N1 21 (ix (nI (m1 ^^^ 2 ^ x))))) (by rw [show x + 1 - (a + 1) = (x - (a + 1)) + 1 by omega, mQ_hit (by omega) hfx hcw, hsum]; rw [hsum, hbe] at c108; rw [show Nat.min _ _ = _ from Nat.min_eq_right (Nat.le_of_lt (Nat.not_le.mp (fun q => c108 (nI_le q (by omega)))))])
        exact L50 _ (10000 + (N1 21 (ix (nI m1)))) ((nI a) + 1) (a + 1) (by omega) (by omega) (nI_1 a) (by rw [hgl m1 hm1lt, LM_val han hm1low, Nat.sub_self, mQ, ← nI_add]; rfl) (Nat.lt_succ_self _)
  exact L9 _ (ux M 21 (ix 0) 0) 1 1 (Nat.le_refl _) h2p rfl (⟨upd (M 21) 0 0, rfl, fun k hk => by rw [show k = 0 by omega, lpc_none (f := fM 0) (Nat.le_refl _) (fun q _ _ => Nat.zero_testBit q)]; rfl⟩) (Nat.lt_succ_self _)
