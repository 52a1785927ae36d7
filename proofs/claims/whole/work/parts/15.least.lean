
theorem x_iincW {K : Cx} {wf : St → va_W} {nL : Nat} {cc : ByteArray} {own : String} {d : Nat} {tys : List (ClassId × FieldType)} {X : St} {pc : Nat} {lv : List (Nat × Value)} {rest : List Value} (C : XC K wf nL cc own d tys) {i : Nat} {n : Int} {x v : Int32} (hd : decode cc pc = .ok (.iinc i n, 6)) (q : Nat) (lv1 : List (Nat × Value)) (ks : List Nat) (hq : lv[q]? = some (i, .int x)) (hv : x + Int32.ofInt n = v) (hn : i < nL) (hl1 : lv_pick ((i, Value.int v) :: lv.filter (fun q => !(q.1 == i) && !(q.1 + 1 == i && q.2.category == 2))) ks = lv1) (kk : WX K wf nL X (pc + 6) lv1 rest) : WX K wf nL X pc lv rest := by
  obtain ⟨p, l, e, R, s, m, args, below, meth, c, Q, D, A⟩ := K
  exact fun H locs ls hP hS hl => lv_iincW C.1 C.2.1 hd hl hq hv hn rfl (fun ls1 h1 => kk H locs ls1 hP hS (lv_sub h1 ks hl1))
def v_bitOf (X : St) (p : Int32) : Int32 := 1 <<< (((X 111 0) - 1 - p) &&& 31)
theorem bitOf_val {X : St} {n p : Nat} (h : (X 111 0) = nI n) (hp : p < n) (hn : n ≤ 16) : v_bitOf X (nI p) = nI (2 ^ (n - 1 - p)) := by
  unfold v_bitOf
  rw [h, nI_m1 (by omega), pk_sub (by omega), nI_shl1 _ (by omega)]
def LCok (c : Nat → Nat → Option Nat) (n : Nat) (G : Gx) (k : Nat) : Prop := ∀ (l : Launch) (D : va_G) (d : Nat) (X : St) (fr left : Int32) (m : Nat), k + 1 ≤ d → fr = nI (n - k) → left = nI m → m < 2 ^ k → FOK c n X → Ci l yX1_leastCost cX1_leastCost 9 (some .int) d (xw G) D (tyG G) [.ref (G.1 5), .int fr, .int left] X (fun r X1 => r = nI (lpc c n k (fX n m)) ∧ ∃ g, X1 = sr X 31 g ∧ Memo c n g)
theorem LC_fin {c : Nat → Nat → Option Nat} {n k m m1 a b : Nat} (hk : k ≤ n) (ha : n - k ≤ a) (han : a < n) (hma : m < 2 ^ (n - a)) (ht : m.testBit (n - 1 - a) = true) (hm1 : m1 = m ^^^ 2 ^ (n - 1 - a)) (h0 : b ≤ 10000 + lpc c n (n - a - 1) (fX n m1)) (hle : ∀ j w, j < n - a - 1 → fX n m1 (a + 1 + j) = true → c a (a + 1 + j) = some w → b ≤ w + lpc c n (n - a - 1) (rmv (fX n m1) (a + 1 + j))) (hmem : b = 10000 + lpc c n (n - a - 1) (fX n m1) ∨ ∃ j w, j < n - a - 1 ∧ fX n m1 (a + 1 + j) = true ∧ c a (a + 1 + j) = some w ∧ b = w + lpc c n (n - a - 1) (rmv (fX n m1) (a + 1 + j))) : b = lpc c n k (fX n m) := by
  have hfa : fX n m a = true := ht
  have e1 : lpc c n k (fX n m) = lpc c n (n - a) (fX n m) := lpc_skip k (by omega) hk (fun q h1 h2 => fX_low hma (by omega) (by omega))
  rw [e1, lpc_at han hfa]
  have hq : ∀ q, a < q → q < n → fX n m1 q = fX n m q := fun q h1 h2 => by
    rw [hm1, fX_rmv han hfa h2]
    unfold rmv
    rw [if_neg (by omega)]
  have eL : lpc c n (n - a - 1) (fX n m1) = lpc c n (n - a - 1) (fX n m) := lpc_eq (by omega) (fun q h1 h2 => hq q (by omega) h2)
  have eR : ∀ j, lpc c n (n - a - 1) (rmv (fX n m1) (a + 1 + j)) = lpc c n (n - a - 1) (rmv (fX n m) (a + 1 + j)) := fun j => lpc_eq (by omega) (fun q h1 h2 => by
    unfold rmv
    rw [hq q (by omega) h2])
  refine mQ_uniq (by rw [← eL]; exact h0) (fun j w h1 h2 h3 => ?_) ?_
  · rw [← eR]
    exact hle j w h1 (by rw [hq _ (by omega) (by omega)]; exact h2) h3
  · rcases hmem with h | ⟨j, w, h1, h2, h3, h4⟩
    · exact Or.inl (by rw [← eL]; exact h)
    · exact Or.inr ⟨j, w, h1, by rw [← hq _ (by omega) (by omega)]; exact h2, h3, by rw [← eR]; exact h4⟩
def LI (c : Nat → Nat → Option Nat) (n m1 a x bb : Nat) : Prop := (∀ j w, a + 1 + j < x → fX n m1 (a + 1 + j) = true → c a (a + 1 + j) = some w → bb ≤ w + lpc c n (n - a - 1) (rmv (fX n m1) (a + 1 + j))) ∧ (bb = 1000000 ∨ ∃ j w, a + 1 + j < x ∧ fX n m1 (a + 1 + j) = true ∧ c a (a + 1 + j) = some w ∧ bb = w + lpc c n (n - a - 1) (rmv (fX n m1) (a + 1 + j)))
theorem LI_skip {c : Nat → Nat → Option Nat} {n m1 a x bb : Nat} (h : LI c n m1 a x bb) (hx : ∀ w, fX n m1 x = true → c a x = some w → bb ≤ w + lpc c n (n - a - 1) (rmv (fX n m1) x)) : LI c n m1 a (x + 1) bb := by
  refine ⟨fun j w h1 h2 h3 => ?_, ?_⟩
  · by_cases e : a + 1 + j = x
    · rw [e] at h2 h3 ⊢; exact hx w h2 h3
    · exact h.1 j w (by omega) h2 h3
  · rcases h.2 with h1 | ⟨j, w, h1, h2⟩
    · exact Or.inl h1
    · exact Or.inr ⟨j, w, by omega, h2⟩
theorem LI_min {c : Nat → Nat → Option Nat} {n m1 a x bb w : Nat} (h : LI c n m1 a x bb) (hax : a < x) (hf : fX n m1 x = true) (hc : c a x = some w) : LI c n m1 a (x + 1) (Nat.min bb (w + lpc c n (n - a - 1) (rmv (fX n m1) x))) := by
  have e0 : a + 1 + (x - a - 1) = x := by omega
  refine ⟨fun j v h1 h2 h3 => ?_, ?_⟩
  · by_cases e : a + 1 + j = x
    · rw [e] at h3 ⊢
      rw [hc] at h3
      cases h3
      exact Nat.min_le_right _ _
    · exact Nat.le_trans (Nat.min_le_left _ _) (h.1 j v (by omega) h2 h3)
  · rcases Nat.le_total bb (w + lpc c n (n - a - 1) (rmv (fX n m1) x)) with h1 | h1
    · rw [show Nat.min bb (w + lpc c n (n - a - 1) (rmv (fX n m1) x)) = bb from Nat.min_eq_left h1]
      rcases h.2 with h2 | ⟨j, v, h2, h3⟩
      · exact Or.inl h2
      · exact Or.inr ⟨j, v, by omega, h3⟩
    · exact Or.inr ⟨x - a - 1, w, by omega, by rw [e0]; exact hf, by rw [e0]; exact hc, by rw [e0]; exact Nat.min_eq_right h1⟩
theorem min_nI {a b : Nat} (ha : a < 2 ^ 31) (hb : b < 2 ^ 31) : (if nI b < nI a then nI b else nI a) = nI (Nat.min a b) := by
  by_cases h : b < a
  · rw [if_pos ((nI_ltI hb ha).mpr h)]
    rw [show Nat.min a b = b from Nat.min_eq_right (by omega)]
  · rw [if_neg (fun q => h ((nI_ltI hb ha).mp q))]
    rw [show Nat.min a b = a from Nat.min_eq_left (by omega)]
theorem in_8192 {x : Int32} {m : Nat} (h : x = nI m) (hm : m < 2 ^ 31) (c : ¬ 8192 ≤ x) : vp_in x 8192 ∧ m < 8192 := by
  have h1 : m < 8192 := ltN h (rfl : (8192 : Int32) = nI 8192) c hm
  exact ⟨by rw [h]; exact vp_in_nI h1 (by decide), h1⟩
theorem memo_val {c : Nat → Nat → Option Nat} {n k m : Nat} {g : Nat → Int32} (hk : k ≤ n) (hn : n ≤ 16) (hm : m < 2 ^ k) (hg : Memo c n g) (h8 : m < 8192) (h0 : ¬ g m = 0) : g m - 1 = nI (lpc c n k (fX n m)) := by
  rcases hg m h8 (Nat.lt_of_lt_of_le hm (Nat.pow_le_pow_right (by decide) hk)) with h | h
  · exact absurd h h0
  · rw [h, lpc_full hk hm, nI_pred]
theorem nI_neg1 {w : Nat} (h : w < 2 ^ 31) : ¬ nI w = (-1) := fun e => by
  have := nI_pos' h
  rw [e] at this
  exact absurd this (by decide)
theorem LC_k0 {c : Nat → Nat → Option Nat} {n k : Nat} {fr : Int32} {X : St} (hF : FOK c n X) (hfr : fr = nI (n - k)) (hkn : k ≤ n) (c9 : ¬ fr < (X 111 0)) : k = 0 := by
  have h1 := hF.2.1
  have h2 := hF.1
  have h3 : ¬ n - k < n := fun h => c9 (by rw [hfr, h1]; exact nI_lt h (by omega))
  omega
theorem two31 {k m : Nat} (hm : m < 2 ^ k) (hk : k ≤ 16) : m < 2 ^ 31 := Nat.lt_of_lt_of_le hm (Nat.pow_le_pow_right (by decide) (by omega))
set_option maxHeartbeats 4000000 in
set_option maxRecDepth 100000 in
theorem c_X1_bitOf (l : Launch) (D : va_G) (G : Gx) (X : St) (p : Int32) : Ci l yX1_bitOf cX1_bitOf 2 (some .int) 0 (xw G) D (tyG G) [.ref (G.1 5), .int p] X (fun r X1 => r = (v_bitOf X p) ∧ X1 = X) := by
  refine m_i (nL := 2) (lv := [(0, .ref (G.1 5)), (1, .int p)]) [.ref (G.1 5), .int p] RX1 rfl (xw_adr G) (by decide +kernel) (Nat.le_of_ble_eq_true rfl) rfl (fun K C ret => ?_)
  refine x_iconst C (pc := 0) (v := 1) dX1_bitOf_0 (by decide) ?_
  refine x_aload_n C (pc := 1) dX1_bitOf_1 0 rfl rfl ?_
  refine xG_fsize C fl_X1_26 dX1_bitOf_2 ?_
  refine x_iconst C (pc := 5) (v := 1) dX1_bitOf_5 (by decide) ?_
  refine x_isub C (pc := 6) dX1_bitOf_6 ?_
  refine x_iload_n C (pc := 7) dX1_bitOf_7 1 rfl rfl ?_
  refine x_isub C (pc := 8) dX1_bitOf_8 ?_
  refine x_ishl C (pc := 9) dX1_bitOf_9 ?_
  exact ret (1 <<< ((((X 111 0) - 1) - p) &&& 31)) X 10 _ dX1_bitOf_10 ⟨rfl, rfl⟩
set_option maxHeartbeats 4000000 in
set_option maxRecDepth 100000 in
theorem c_X1_leastCost (l : Launch) (D : va_G) (G : Gx) (c : Nat → Nat → Option Nat) (n k d m : Nat) (IH : ∀ j, j < k → LCok c n G j) (X : St) (fr : Int32) (left : Int32) (hkn : k ≤ n) (hd : k + 1 ≤ d) (hfr : fr = nI (n - k)) (hl : left = nI m) (hm : m < 2 ^ k) (hF : FOK c n X) : Ci l yX1_leastCost cX1_leastCost 9 (some .int) d (xw G) D (tyG G) [.ref (G.1 5), .int fr, .int left] X (fun r X1 => r = nI (lpc c n k (fX n m)) ∧ ∃ g, X1 = sr X 31 g ∧ Memo c n g) := by
  refine m_i (nL := 9) (lv := [(0, .ref (G.1 5)), (1, .int fr), (2, .int left)]) [.ref (G.1 5), .int fr, .int left] RX1 rfl (xw_adr G) (by decide +kernel) (Nat.le_of_ble_eq_true rfl) rfl (fun K C ret => ?_)
  refine x_iload_n C (pc := 0) dX1_leastCost_0 2 rfl rfl ?_
  refine x_if_eq C (pc := 1) (tgt := 12) dX1_leastCost_1 (by decide) (fun c1 => ?_) (fun c1 => ?_)
  · refine x_iconst C (pc := 12) (v := 0) dX1_leastCost_12 (by decide) ?_
    exact ret 0 X 13 _ dX1_leastCost_13 ⟨by rw [lpc_none hkn (fun q h1 h2 => by have : m = 0 := (nI_eq (two31 hm (by have := hF.1; omega)) (by decide : 0 < 2 ^ 31)).mp (by rw [← hl]; exact c1); rw [this]; exact Nat.zero_testBit _)]; rfl, X 31, (sr_self X _).symm, hF.2.2.2⟩
  · refine x_iload_n C (pc := 4) dX1_leastCost_4 1 rfl rfl ?_
    refine x_aload_n C (pc := 5) dX1_leastCost_5 0 rfl rfl ?_
    refine xG_fsize C fl_X1_26 dX1_leastCost_6 ?_
    refine x_icmp_lt C (pc := 9) (tgt := 14) dX1_leastCost_9 (by decide) (fun c9 => ?_) (fun c9 => ?_)
    · obtain ⟨hn16, hsz, hch, hmemo⟩ := id hF
      have hm31 : m < 2 ^ 31 := two31 hm (by omega)
      have hk0 : 0 < k := Nat.pos_of_ne_zero (fun e => by rw [hfr, hsz, e] at c9; exact absurd c9 (nI_nlt (by omega) (by omega)))
      have hm0 : 0 < m := Nat.pos_of_ne_zero (fun e => c1 (by rw [hl, e]; rfl))
      have J39 : (True) → WX K (xw G) 9 X 39 [(0, .ref (G.1 5)), (1, .int fr), (2, .int left)] [] := by
        intro  hj39
        refine x_iload_n C (pc := 39) dX1_leastCost_39 1 rfl rfl ?_
        refine x_istore_n C (pc := 40) dX1_leastCost_40 [(0, .ref (G.1 5)), (1, .int fr), (2, .int left), (3, .int fr)] [1, 2, 3, 0] rfl (by decide) rfl ?_
        refine x_aload_n C (pc := 41) dX1_leastCost_41 0 rfl rfl ?_
        refine x_iload_n C (pc := 42) dX1_leastCost_42 1 rfl rfl ?_
        refine x_callVi C (pc := 43) [.int fr] (fun l D => c_X1_bitOf l D G X fr ) (xe_5 G _) rfl ml_X1_49 co_X1_bitOf im_X1_bitOf se_X1_bitOf in_X1 hy_X1_bitOf (by omega) (by decide) (Nat.le_of_ble_eq_true rfl) dX1_leastCost_43 rfl (kx ?_)
        have J77 : ∀ (p7 : Int32) (b7 : Int32) (a7 : Nat), (p7 = nI a7 ∧ n - k ≤ a7 ∧ a7 < n ∧ b7 = nI (2 ^ (n - 1 - a7)) ∧ m < 2 ^ (n - a7) ∧ m.testBit (n - 1 - a7) = true) → WX K (xw G) 9 X 77 [(0, .ref (G.1 5)), (1, .int fr), (2, .int left), (3, .int p7), (4, .int b7)] [] := by
          intro p7 b7 a7 hj77
          obtain ⟨hp7, ha7, han7, hb7, hm7, ht7⟩ := hj77
          obtain ⟨m1, hm1⟩ : ∃ m1, m1 = m ^^^ 2 ^ (n - 1 - a7) := ⟨_, rfl⟩
          have hm1lt : m1 < 2 ^ (n - a7 - 1) := by
            rw [hm1, show n - a7 - 1 = n - 1 - a7 by omega]
            exact xor_top (by rw [show n - 1 - a7 + 1 = n - a7 by omega]; exact hm7) ht7
          have hm131 : m1 < 2 ^ 31 := two31 hm1lt (by omega)
          have hp71 : p7 + 1 = nI (n - (n - a7 - 1)) := by rw [hp7, nI_1]; congr 1; omega
          have hpx : ix p7 = a7 := by rw [hp7]; exact ix_nI (by omega)
          have hpin : vp_in p7 16 := by rw [hp7]; exact vp_in_nI (by omega) (by decide)
          have hpr : ix p7 < 16 := by rw [hpx]; omega
          refine x_iload_n C (pc := 77) dX1_leastCost_77 2 rfl rfl ?_
          refine x_iload C (pc := 78) dX1_leastCost_78 4 rfl ?_
          refine x_iconst C (pc := 80) (v := (-1)) dX1_leastCost_80 (by decide) ?_
          refine x_ixor C (pc := 81) dX1_leastCost_81 ?_
          refine x_iand C (pc := 82) dX1_leastCost_82 ?_
          refine x_top (y := nI m1) (by rw [hl, hb7, hm1]; exact andnot hm31 (by omega) ht7) ?_
          refine x_istore C (pc := 83) dX1_leastCost_83 [(0, .ref (G.1 5)), (1, .int fr), (2, .int left), (3, .int p7), (4, .int b7), (5, .int (nI m1))] [1, 2, 3, 4, 5, 0] (by decide) rfl ?_
          refine x_ldc C (pc := 85) dX1_leastCost_85 k_X1_57 ?_
          refine x_istore C (pc := 87) dX1_leastCost_87 [(0, .ref (G.1 5)), (1, .int fr), (2, .int left), (3, .int p7), (4, .int b7), (5, .int (nI m1)), (6, .int 1000000)] [1, 2, 3, 4, 5, 6, 0] (by decide) rfl ?_
          refine x_iload_n C (pc := 89) dX1_leastCost_89 3 rfl rfl ?_
          refine x_iconst C (pc := 90) (v := 1) dX1_leastCost_90 (by decide) ?_
          refine x_iadd C (pc := 91) dX1_leastCost_91 ?_
          refine x_istore C (pc := 92) dX1_leastCost_92 [(0, .ref (G.1 5)), (1, .int fr), (2, .int left), (3, .int p7), (4, .int b7), (5, .int (nI m1)), (6, .int 1000000), (7, .int (p7 + 1))] [1, 2, 3, 4, 5, 6, 7, 0] (by decide) rfl ?_
          have L94 : ∀ (nu : Nat) (Y : St) (b : Int32) (e : Int32) (q : Int32) (x : Nat) (bb : Nat), (∃ g, Y = sr X 31 g ∧ Memo c n g) → (q = nI x) → (a7 < x) → (x ≤ n) → (b = nI (2 ^ (n - x))) → (e = nI bb) → (bb < 2 ^ 31) → (LI c n m1 a7 x bb) → (n - x) < nu → WX K (xw G) 9 Y 94 [(0, .ref (G.1 5)), (1, .int fr), (2, .int left), (3, .int p7), (4, .int b), (5, .int (nI m1)), (6, .int e), (7, .int q)] [] := by
            intro nu
            induction nu with
            | zero => intro Y b e q x bb hYg hq hx7 hxn0 hb hbb hbb2 hLI hmu94; exact absurd hmu94 (Nat.not_lt_zero _)
            | succ n94 ih94 =>
              intro Y b e q x bb hYg hq hx7 hxn0 hb hbb hbb2 hLI hmu94
              refine x_iload C (pc := 94) dX1_leastCost_94 7 rfl ?_
              refine x_aload_n C (pc := 96) dX1_leastCost_96 0 rfl rfl ?_
              refine xG_fsize C fl_X1_26 dX1_leastCost_97 ?_
              refine x_icmp_ge C (pc := 100) (tgt := 169) dX1_leastCost_100 (by decide) (fun c100 => ?_) (fun c100 => ?_)
              · obtain ⟨g, hY, hg⟩ := hYg
                have hYs : (Y 111 0) = nI n := by rw [hY]; exact hsz
                have hxn : x = n := by have := geN hq hYs c100 (by omega); omega
                have hFY : FOK c n Y := by rw [hY]; exact FOK_least hF hg
                have J197 : ∀ (Z : St) (v9 : Int32), (v9 = nI (lpc c n k (fX n m)) ∧ ∃ g, Z = sr X 31 g ∧ Memo c n g) → WX K (xw G) 9 Z 197 [(0, .ref (G.1 5)), (1, .int fr), (2, .int left), (3, .int p7), (4, .int b), (5, .int (nI m1)), (6, .int v9), (7, .int q)] [] := by
                  intro Z v9 hj197
                  obtain ⟨hv9, g9, hZ, hg9⟩ := hj197
                  refine x_iload_n C (pc := 197) dX1_leastCost_197 2 rfl rfl ?_
                  refine x_sipush C (pc := 198) (v := 8192) dX1_leastCost_198 (by decide) ?_
                  refine x_icmp_ge C (pc := 201) (tgt := 214) dX1_leastCost_201 (by decide) (fun c201 => ?_) (fun c201 => ?_)
                  · refine x_iload C (pc := 214) dX1_leastCost_214 6 rfl ?_
                    exact ret v9 Z 216 _ dX1_leastCost_216 ⟨hv9, g9, hZ, hg9⟩
                  · obtain ⟨hin8, hm8⟩ := in_8192 hl hm31 c201
                    have hixl : ix left = m := by rw [hl]; exact ix_nI hm31
                    refine x_aload_n C (pc := 204) dX1_leastCost_204 0 rfl rfl ?_
                    refine xG_least C fl_X1_23 dX1_leastCost_205 ?_
                    refine x_iload_n C (pc := 208) dX1_leastCost_208 2 rfl rfl ?_
                    refine x_iload C (pc := 209) dX1_leastCost_209 6 rfl ?_
                    refine x_iconst C (pc := 211) (v := 1) dX1_leastCost_211 (by decide) ?_
                    refine x_iadd C (pc := 212) dX1_leastCost_212 ?_
                    refine xS_least C dX1_leastCost_213 (by exact hin8) ?_
                    refine x_iload C (pc := 214) dX1_leastCost_214 6 rfl ?_
                    exact ret v9 (ux Z 31 (ix left) (v9 + 1)) 216 _ dX1_leastCost_216 ⟨hv9, upd g9 m (nI (lpc c n k (fX n m) + 1)), by rw [hZ, hixl, hv9, nI_1, ux_srs], Memo_put hg9 (lpc_full hkn hm).symm⟩
                refine x_iload C (pc := 169) dX1_leastCost_169 6 rfl ?_
                refine x_sipush C (pc := 171) (v := 10000) dX1_leastCost_171 (by decide) ?_
                refine x_icmp_le C (pc := 174) (tgt := 197) dX1_leastCost_174 (by decide) (fun c174 => ?_) (fun c174 => ?_)
                · exact J197 Y e (⟨by
                    have hb1 : bb ≤ 10000 := (nI_leI hbb2 (by decide : 10000 < 2 ^ 31)).mp (by rw [← hbb]; exact c174)
                    rw [hbb]
                    congr 1
                    refine LC_fin hkn ha7 han7 hm7 ht7 hm1 (by omega) (fun j w h1 h2 h3 => hLI.1 j w (by omega) h2 h3) (Or.inr ?_)
                    rcases hLI.2 with h | ⟨j, w, h1, h2, h3, h4⟩
                    · omega
                    · exact ⟨j, w, by omega, h2, h3, h4⟩, g, hY, hg⟩)
                · refine x_iload C (pc := 177) dX1_leastCost_177 6 rfl ?_
                  refine x_sipush C (pc := 179) (v := 10000) dX1_leastCost_179 (by decide) ?_
                  refine x_aload_n C (pc := 182) dX1_leastCost_182 0 rfl rfl ?_
                  refine x_iload_n C (pc := 183) dX1_leastCost_183 3 rfl rfl ?_
                  refine x_iconst C (pc := 184) (v := 1) dX1_leastCost_184 (by decide) ?_
                  refine x_iadd C (pc := 185) dX1_leastCost_185 ?_
                  refine x_iload C (pc := 186) dX1_leastCost_186 5 rfl ?_
                  refine x_callSi C (pc := 188) [.ref (G.1 5), .int (p7 + 1), .int (nI m1)] (fun l D => IH (n - a7 - 1) (by omega) l D (d - 1) Y (p7 + 1) (nI m1) m1 (by omega) hp71 rfl hm1lt hFY) ml_X1_45 co_X1_leastCost st_X1_leastCost in_X1 hy_X1_leastCost.2 (by omega) (by decide) (Nat.le_of_ble_eq_true rfl) dX1_leastCost_188 rfl (fun r188 X188 h188 => ?_)
                  obtain ⟨hr188v, g188v, hX188v, hg188v⟩ := h188
                  refine x_iadd C (pc := 191) dX1_leastCost_191 ?_
                  refine x_min C (pc := 192) ml_X1_30 (by omega) (Nat.le_of_ble_eq_true rfl) dX1_leastCost_192 ?_
                  refine x_istore C (pc := 195) dX1_leastCost_195 [(0, .ref (G.1 5)), (1, .int fr), (2, .int left), (3, .int p7), (4, .int b), (5, .int (nI m1)), (6, .int (if (10000 + r188) < e then (10000 + r188) else e)), (7, .int q)] [1, 2, 3, 4, 5, 6, 0, 7] (by decide) rfl ?_
                  exact J197 X188 (if (10000 + r188) < e then (10000 + r188) else e) (⟨by
                    have hL0 := lpc_bound (c := c) (n := n) (n - a7 - 1) (fX n m1)
                    rw [hr188v, hbb, show (10000 : Int32) = nI 10000 from rfl, nI_add, min_nI hbb2 (by omega)]
                    congr 1
                    have hb1 : ¬ bb ≤ 10000 := fun h => c174 (by rw [hbb]; exact nI_le h (by decide))
                    have hL := lpc_bound (c := c) (n := n) (n - a7 - 1) (fX n m1)
                    have hmin := Nat.min_le_right bb (10000 + lpc c n (n - a7 - 1) (fX n m1))
                    have hmin2 := Nat.min_le_left bb (10000 + lpc c n (n - a7 - 1) (fX n m1))
                    refine LC_fin hkn ha7 han7 hm7 ht7 hm1 hmin (fun j w h1 h2 h3 => Nat.le_trans hmin2 (hLI.1 j w (by omega) h2 h3)) ?_
                    rcases Nat.le_total bb (10000 + lpc c n (n - a7 - 1) (fX n m1)) with h | h
                    · rw [show Nat.min bb (10000 + lpc c n (n - a7 - 1) (fX n m1)) = bb from Nat.min_eq_left h]
                      rcases hLI.2 with h5 | ⟨j, w, h1, h2, h3, h4⟩
                      · omega
                      · exact Or.inr ⟨j, w, by omega, h2, h3, h4⟩
                    · exact Or.inl (Nat.min_eq_right h), g188v, by rw [hX188v, hY, sr_sr], hg188v⟩)
              · obtain ⟨g, hY, hg⟩ := hYg
                have hYs : (Y 111 0) = nI n := by rw [hY]; exact hsz
                have hxn : x < n := ltN hq hYs c100 (by omega)
                have hqin : vp_in q 16 := by rw [hq]; exact vp_in_nI (by omega) (by decide)
                have hqx : ix q = x := by rw [hq]; exact ix_nI (by omega)
                have hFY : FOK c n Y := by rw [hY]; exact FOK_least hF hg
                have hch2 := hch a7 x (by omega) hxn
                have hbq : b >>> (1 &&& 31) = nI (2 ^ (n - 1 - x)) := by rw [hb, show n - x = (n - 1 - x) + 1 by omega]; exact nI_shr1 (by omega)
                have hpq : Y (47 + ix p7) (ix q) = X (47 + a7) x := by rw [hpx, hqx, hY, sr_n _ _ (by omega)]
                have hbit : (nI m1 &&& nI (2 ^ (n - 1 - x)) = 0) ↔ fX n m1 x = false := nI_bit hm131
                have J163 : ∀ (Y3 : St) (e3 : Int32), ((∃ g, Y3 = sr X 31 g ∧ Memo c n g) ∧ ∃ nbb, e3 = nI nbb ∧ nbb < 2 ^ 31 ∧ LI c n m1 a7 (x + 1) nbb) → WX K (xw G) 9 Y3 163 [(0, .ref (G.1 5)), (1, .int fr), (2, .int left), (3, .int p7), (4, .int (nI (2 ^ (n - 1 - x)))), (5, .int (nI m1)), (6, .int e3), (7, .int q)] [] := by
                  intro Y3 e3 hj163
                  obtain ⟨hg3, nbb, he3, hb3, hLI3⟩ := hj163
                  refine x_iinc C (pc := 163) (v := q + 1) dX1_leastCost_163 7 [(0, .ref (G.1 5)), (1, .int fr), (2, .int left), (3, .int p7), (4, .int (nI (2 ^ (n - 1 - x)))), (5, .int (nI m1)), (6, .int e3), (7, .int (q + 1))] [1, 2, 3, 4, 5, 6, 7, 0] rfl (by rfl) (by decide) rfl ?_
                  refine x_goto C (pc := 166) (tgt := 94) dX1_leastCost_166 (by decide) ?_
                  exact ih94 Y3 (nI (2 ^ (n - 1 - x))) e3 (q + 1) (x + 1) nbb hg3 (by rw [hq]; exact nI_1 x) (by omega) (by omega) (by rw [show n - (x + 1) = n - 1 - x by omega]) he3 hb3 hLI3 (by omega)
                refine x_iload C (pc := 103) dX1_leastCost_103 4 rfl ?_
                refine x_iconst C (pc := 105) (v := 1) dX1_leastCost_105 (by decide) ?_
                refine x_ishr C (pc := 106) dX1_leastCost_106 ?_
                refine x_top (y := nI (2 ^ (n - 1 - x))) (hbq) ?_
                refine x_istore C (pc := 107) dX1_leastCost_107 [(0, .ref (G.1 5)), (1, .int fr), (2, .int left), (3, .int p7), (4, .int (nI (2 ^ (n - 1 - x)))), (5, .int (nI m1)), (6, .int e), (7, .int q)] [1, 2, 3, 4, 0, 5, 6, 7] (by decide) rfl ?_
                refine x_aload_n C (pc := 109) dX1_leastCost_109 0 rfl rfl ?_
                refine xG_charge C fl_X1_20 dX1_leastCost_110 ?_
                refine x_iload_n C (pc := 113) dX1_leastCost_113 3 rfl rfl ?_
                refine xL_charge C dX1_leastCost_114 (by exact hpin) ?_
                refine x_iload C (pc := 115) dX1_leastCost_115 7 rfl ?_
                refine xLL_charge C dX1_leastCost_117 (by exact hpr) (by exact hqin) ?_
                refine x_top (y := (X (47 + a7) x)) (hpq) ?_
                refine x_istore C (pc := 118) dX1_leastCost_118 [(0, .ref (G.1 5)), (1, .int fr), (2, .int left), (3, .int p7), (4, .int (nI (2 ^ (n - 1 - x)))), (5, .int (nI m1)), (6, .int e), (7, .int q), (8, .int (X (47 + a7) x))] [1, 2, 3, 4, 5, 6, 7, 8, 0] (by decide) rfl ?_
                refine x_iload C (pc := 120) dX1_leastCost_120 5 rfl ?_
                refine x_iload C (pc := 122) dX1_leastCost_122 4 rfl ?_
                refine x_iand C (pc := 124) dX1_leastCost_124 ?_
                refine x_if_eq C (pc := 125) (tgt := 163) dX1_leastCost_125 (by decide) (fun c125 => ?_) (fun c125 => ?_)
                · refine x_sub [(0, .ref (G.1 5)), (1, .int fr), (2, .int left), (3, .int p7), (4, .int (nI (2 ^ (n - 1 - x)))), (5, .int (nI m1)), (6, .int e), (7, .int q)] [0, 1, 2, 3, 4, 5, 6, 7] rfl ?_
                  exact J163 Y e (⟨⟨g, hY, hg⟩, bb, hbb, hbb2, LI_skip hLI (fun w h1 _ => absurd (hbit.mp c125) (by rw [h1]; decide))⟩)
                · refine x_iload C (pc := 128) dX1_leastCost_128 8 rfl ?_
                  refine x_iconst C (pc := 130) (v := (-1)) dX1_leastCost_130 (by decide) ?_
                  refine x_icmp_eq C (pc := 131) (tgt := 163) dX1_leastCost_131 (by decide) (fun c131 => ?_) (fun c131 => ?_)
                  · refine x_sub [(0, .ref (G.1 5)), (1, .int fr), (2, .int left), (3, .int p7), (4, .int (nI (2 ^ (n - 1 - x)))), (5, .int (nI m1)), (6, .int e), (7, .int q)] [0, 1, 2, 3, 4, 5, 6, 7] rfl ?_
                    exact J163 Y e (⟨⟨g, hY, hg⟩, bb, hbb, hbb2, LI_skip hLI (fun w _ h2 => by
                      rcases hch2 with h | ⟨v, h3, h4, h5⟩
                      · rw [h.1] at h2; cases h2
                      · rw [h5] at c131; exact absurd c131 (nI_neg1 (by omega)))⟩)
                  · refine x_iload C (pc := 134) dX1_leastCost_134 8 rfl ?_
                    refine x_iload C (pc := 136) dX1_leastCost_136 6 rfl ?_
                    refine x_icmp_ge C (pc := 138) (tgt := 163) dX1_leastCost_138 (by decide) (fun c138 => ?_) (fun c138 => ?_)
                    · refine x_sub [(0, .ref (G.1 5)), (1, .int fr), (2, .int left), (3, .int p7), (4, .int (nI (2 ^ (n - 1 - x)))), (5, .int (nI m1)), (6, .int e), (7, .int q)] [0, 1, 2, 3, 4, 5, 6, 7] rfl ?_
                      exact J163 Y e (⟨⟨g, hY, hg⟩, bb, hbb, hbb2, LI_skip hLI (fun w _ h2 => by
                        rcases hch2 with h | ⟨v, h3, h4, h5⟩
                        · rw [h.1] at h2; cases h2
                        · rw [h3] at h2; cases h2
                          rw [h5, hbb] at c138
                          have := (nI_leI hbb2 (by omega)).mp c138
                          omega)⟩)
                    · have hfx : fX n m1 x = true := by
                        cases h : fX n m1 x with
                        | false => exact absurd (hbit.mpr h) c125
                        | true => rfl
                      obtain ⟨w, hcw, hw2, hXw⟩ := hch2.resolve_left (fun h => c131 h.2)
                      have hm2lt : m1 ^^^ 2 ^ (n - 1 - x) < 2 ^ (n - a7 - 1) := xor_lt hm1lt (by omega)
                      refine x_iload C (pc := 141) dX1_leastCost_141 6 rfl ?_
                      refine x_iload C (pc := 143) dX1_leastCost_143 8 rfl ?_
                      refine x_aload_n C (pc := 145) dX1_leastCost_145 0 rfl rfl ?_
                      refine x_iload_n C (pc := 146) dX1_leastCost_146 3 rfl rfl ?_
                      refine x_iconst C (pc := 147) (v := 1) dX1_leastCost_147 (by decide) ?_
                      refine x_iadd C (pc := 148) dX1_leastCost_148 ?_
                      refine x_iload C (pc := 149) dX1_leastCost_149 5 rfl ?_
                      refine x_iload C (pc := 151) dX1_leastCost_151 4 rfl ?_
                      refine x_ixor C (pc := 153) dX1_leastCost_153 ?_
                      refine x_top (y := nI (m1 ^^^ 2 ^ (n - 1 - x))) (nI_xor _ _) ?_
                      refine x_callSi C (pc := 154) [.ref (G.1 5), .int (p7 + 1), .int (nI (m1 ^^^ 2 ^ (n - 1 - x)))] (fun l D => IH (n - a7 - 1) (by omega) l D (d - 1) Y (p7 + 1) (nI (m1 ^^^ 2 ^ (n - 1 - x))) (m1 ^^^ 2 ^ (n - 1 - x)) (by omega) hp71 rfl hm2lt hFY) ml_X1_45 co_X1_leastCost st_X1_leastCost in_X1 hy_X1_leastCost.2 (by omega) (by decide) (Nat.le_of_ble_eq_true rfl) dX1_leastCost_154 rfl (fun r154 X154 h154 => ?_)
                      obtain ⟨hr154, g154, hX154, hg154⟩ := h154
                      refine x_iadd C (pc := 157) dX1_leastCost_157 ?_
                      refine x_min C (pc := 158) ml_X1_30 (by omega) (Nat.le_of_ble_eq_true rfl) dX1_leastCost_158 ?_
                      refine x_istore C (pc := 161) dX1_leastCost_161 [(0, .ref (G.1 5)), (1, .int fr), (2, .int left), (3, .int p7), (4, .int (nI (2 ^ (n - 1 - x)))), (5, .int (nI m1)), (6, .int (if ((X (47 + a7) x) + r154) < e then ((X (47 + a7) x) + r154) else e)), (7, .int q), (8, .int (X (47 + a7) x))] [1, 2, 3, 4, 5, 6, 0, 7, 8] (by decide) rfl ?_
                      refine x_sub [(0, .ref (G.1 5)), (1, .int fr), (2, .int left), (3, .int p7), (4, .int (nI (2 ^ (n - 1 - x)))), (5, .int (nI m1)), (6, .int (if ((X (47 + a7) x) + r154) < e then ((X (47 + a7) x) + r154) else e)), (7, .int q)] [0, 1, 2, 3, 4, 5, 6, 7] rfl ?_
                      exact J163 X154 (if ((X (47 + a7) x) + r154) < e then ((X (47 + a7) x) + r154) else e) (⟨⟨g154, by rw [hX154, hY, sr_sr], hg154⟩, Nat.min bb (w + lpc c n (n - a7 - 1) (rmv (fX n m1) x)), by
                        have hv : lpc c n (n - a7 - 1) (fX n (m1 ^^^ 2 ^ (n - 1 - x))) = lpc c n (n - a7 - 1) (rmv (fX n m1) x) := lpc_eq (by omega) (fun i _ h2 => fX_rmv hxn hfx h2)
                        have hL := lpc_bound (c := c) (n := n) (n - a7 - 1) (rmv (fX n m1) x)
                        rw [hr154, hv, hXw, hbb, nI_add]
                        exact min_nI hbb2 (by omega), Nat.lt_of_le_of_lt (Nat.min_le_left _ _) hbb2, LI_min hLI hx7 hfx hcw⟩)
          exact L94 _ X b7 1000000 (p7 + 1) (a7 + 1) 1000000 (⟨X 31, (sr_self X _).symm, hmemo⟩) (by rw [hp7]; exact nI_1 a7) (by omega) (by omega) (by rw [hb7]; congr 2; omega) rfl (by decide) (⟨fun j w h => absurd h (by omega), Or.inl rfl⟩) (Nat.lt_succ_self _)
        refine x_top (y := nI (2 ^ (k - 1))) (by rw [hfr, bitOf_val hsz (by omega) hn16]; congr 2; omega) ?_
        refine x_istore C (pc := 46) dX1_leastCost_46 [(0, .ref (G.1 5)), (1, .int fr), (2, .int left), (3, .int fr), (4, .int (nI (2 ^ (k - 1))))] [1, 2, 3, 4, 0] (by decide) rfl ?_
        have L48 : ∀ (nu : Nat) (p : Int32) (b : Int32) (a : Nat), (p = nI a) → (n - k ≤ a) → (a < n) → (b = nI (2 ^ (n - 1 - a))) → (m < 2 ^ (n - a)) → (n - a) < nu → WX K (xw G) 9 X 48 [(0, .ref (G.1 5)), (1, .int fr), (2, .int left), (3, .int p), (4, .int b)] [] := by
          intro nu
          induction nu with
          | zero => intro p b a hp ha han hb hma hmu48; exact absurd hmu48 (Nat.not_lt_zero _)
          | succ n48 ih48 =>
            intro p b a hp ha han hb hma hmu48
            refine x_iload_n C (pc := 48) dX1_leastCost_48 3 rfl rfl ?_
            refine x_aload_n C (pc := 49) dX1_leastCost_49 0 rfl rfl ?_
            refine xG_fsize C fl_X1_26 dX1_leastCost_50 ?_
            refine x_iconst C (pc := 53) (v := 1) dX1_leastCost_53 (by decide) ?_
            refine x_isub C (pc := 54) dX1_leastCost_54 ?_
            refine x_icmp_ge C (pc := 55) (tgt := 77) dX1_leastCost_55 (by decide) (fun c55 => ?_) (fun c55 => ?_)
            · exact J77 p b _ (⟨hp, ha, han, hb, hma, by
                have h1 : n - 1 ≤ a := geN hp rfl (by rw [← nI_m1 (by omega), ← hsz]; exact c55) (by omega)
                have h2 : n - 1 - a = 0 := by omega
                rw [h2]
                rw [show n - a = 1 by omega] at hma
                have h3 : m = 1 := by omega
                rw [h3]; rfl⟩)
            · have hb0 : ¬ nI (n - 1) ≤ p := fun h => c55 (by rw [hsz, nI_m1 (by omega)]; exact h)
              have ha1 : a < n - 1 := ltN hp rfl hb0 (by omega)
              refine x_iload_n C (pc := 58) dX1_leastCost_58 2 rfl rfl ?_
              refine x_iload C (pc := 59) dX1_leastCost_59 4 rfl ?_
              refine x_iand C (pc := 61) dX1_leastCost_61 ?_
              refine x_if_ne C (pc := 62) (tgt := 77) dX1_leastCost_62 (by decide) (fun c62 => ?_) (fun c62 => ?_)
              · exact J77 p b _ (⟨hp, ha, han, hb, hma, by
                  cases h : m.testBit (n - 1 - a) with
                  | false => exact absurd (by rw [hl, hb]; exact (nI_bit hm31).mpr h) c62
                  | true => rfl⟩)
              · have htb : m.testBit (n - 1 - a) = false := by rw [hl, hb] at c62; exact (nI_bit hm31).mp c62
                have hma2 : m < 2 ^ (n - (a + 1)) := by
                  have h1 : m < 2 ^ ((n - 1 - a) + 1) := by rw [show n - 1 - a + 1 = n - a by omega]; exact hma
                  have h2 := low_of h1 htb
                  rw [show n - 1 - a = n - (a + 1) by omega] at h2
                  exact h2
                refine x_iinc C (pc := 65) (v := p + 1) dX1_leastCost_65 3 [(0, .ref (G.1 5)), (1, .int fr), (2, .int left), (3, .int (p + 1)), (4, .int b)] [1, 2, 3, 0, 4] rfl (by rfl) (by decide) rfl ?_
                refine x_iload C (pc := 68) dX1_leastCost_68 4 rfl ?_
                refine x_iconst C (pc := 70) (v := 1) dX1_leastCost_70 (by decide) ?_
                refine x_ishr C (pc := 71) dX1_leastCost_71 ?_
                refine x_istore C (pc := 72) dX1_leastCost_72 [(0, .ref (G.1 5)), (1, .int fr), (2, .int left), (3, .int (p + 1)), (4, .int (b >>> (1 &&& 31)))] [1, 2, 3, 4, 0] (by decide) rfl ?_
                refine x_goto C (pc := 74) (tgt := 48) dX1_leastCost_74 (by decide) ?_
                exact ih48 (p + 1) (b >>> (1 &&& 31)) (a + 1) (by rw [hp]; exact nI_1 a) (by omega) (by omega) (by rw [hb, show n - 1 - a = (n - 1 - (a + 1)) + 1 by omega]; exact nI_shr1 (by omega)) hma2 (by omega)
        exact L48 _ fr (nI (2 ^ (k - 1))) (n - k) hfr (Nat.le_refl _) (by omega) (by congr 2; omega) (by rw [show n - (n - k) = k by omega]; exact hm) (Nat.lt_succ_self _)
      refine x_iload_n C (pc := 14) dX1_leastCost_14 2 rfl rfl ?_
      refine x_sipush C (pc := 15) (v := 8192) dX1_leastCost_15 (by decide) ?_
      refine x_icmp_ge C (pc := 18) (tgt := 39) dX1_leastCost_18 (by decide) (fun c18 => ?_) (fun c18 => ?_)
      · exact J39  (trivial)
      · obtain ⟨hin8, hm8⟩ := in_8192 hl hm31 c18
        have hixl : ix left = m := by rw [hl]; exact ix_nI hm31
        refine x_aload_n C (pc := 21) dX1_leastCost_21 0 rfl rfl ?_
        refine xG_least C fl_X1_23 dX1_leastCost_22 ?_
        refine x_iload_n C (pc := 25) dX1_leastCost_25 2 rfl rfl ?_
        refine xL_least C dX1_leastCost_26 (by exact hin8) ?_
        refine x_if_eq C (pc := 27) (tgt := 39) dX1_leastCost_27 (by decide) (fun c27 => ?_) (fun c27 => ?_)
        · exact J39  (trivial)
        · refine x_aload_n C (pc := 30) dX1_leastCost_30 0 rfl rfl ?_
          refine xG_least C fl_X1_23 dX1_leastCost_31 ?_
          refine x_iload_n C (pc := 34) dX1_leastCost_34 2 rfl rfl ?_
          refine xL_least C dX1_leastCost_35 (by exact hin8) ?_
          refine x_iconst C (pc := 36) (v := 1) dX1_leastCost_36 (by decide) ?_
          refine x_isub C (pc := 37) dX1_leastCost_37 ?_
          exact ret ((X 31 (ix left)) - 1) X 38 _ dX1_leastCost_38 ⟨by rw [hixl]; exact memo_val hkn hn16 hm hmemo hm8 (by rw [hixl] at c27; exact c27), X 31, (sr_self X _).symm, hmemo⟩
    · refine x_iconst C (pc := 12) (v := 0) dX1_leastCost_12 (by decide) ?_
      exact ret 0 X 13 _ dX1_leastCost_13 ⟨by rw [LC_k0 hF hfr hkn c9]; rfl, X 31, (sr_self X _).symm, hF.2.2.2⟩
