
theorem LC_all (c : Nat → Nat → Option Nat) (n : Nat) (G : Gx) : ∀ k, k ≤ n → LCok c n G k := by
  intro k
  induction k using Nat.strongRecOn with
  | ind k IH =>
    intro hk l D d X fr left m hd hfr hl hm hF
    exact c_X1_leastCost l D G c n k d m (fun j hj => IH j hj (by omega)) X fr left hk hd hfr hl hm hF
def optI (o : Option Nat) : Int32 := match o with
  | none => -9
  | some q => nI q
theorem fm_skip {c : Nat → Nat → Option Nat} {p : Nat} {f : Nat → Bool} {L : (Nat → Bool) → Nat} {ow j q : Nat} (h : f q = true → ∀ w, c p q = some w → ¬ w + L (rmv f q) = ow) : fm c p f L ow (j + 1) q = fm c p f L ow j (q + 1) := by
  conv => lhs; unfold fm
  by_cases hf : f q = true
  · rw [if_pos hf]
    cases hc : c p q with
    | none => rfl
    | some w => simp only; rw [if_neg (h hf w hc)]
  · rw [if_neg hf]
theorem fm_hit {c : Nat → Nat → Option Nat} {p : Nat} {f : Nat → Bool} {L : (Nat → Bool) → Nat} {ow j q w : Nat} (hf : f q = true) (hc : c p q = some w) (h : w + L (rmv f q) = ow) : fm c p f L ow (j + 1) q = some q := by
  unfold fm
  rw [if_pos hf, hc]
  simp only
  rw [if_pos h]
theorem fm_congr {c : Nat → Nat → Option Nat} {p : Nat} {f g : Nat → Bool} {L : (Nat → Bool) → Nat} {ow : Nat} : ∀ j q, (∀ r, q ≤ r → r < q + j → f r = g r) → (∀ r, q ≤ r → r < q + j → L (rmv f r) = L (rmv g r)) → fm c p f L ow j q = fm c p g L ow j q
  | 0, _, _, _ => rfl
  | j + 1, q, h1, h2 => by
    have ih := fm_congr (c := c) (p := p) (ow := ow) j (q + 1) (fun r a b => h1 r (by omega) (by omega)) (fun r a b => h2 r (by omega) (by omega))
    unfold fm
    rw [h1 q (Nat.le_refl _) (by omega), h2 q (Nat.le_refl _) (by omega), ih]
theorem nI_m9 {w : Nat} (h : w < 2 ^ 31) : ¬ nI w = (-9) := fun e => by
  have := nI_pos' h
  rw [e] at this
  exact absurd this (by decide)
set_option maxHeartbeats 4000000 in
set_option maxRecDepth 100000 in
theorem c_X1_uppermostMate (l : Launch) (D : va_G) (G : Gx) (c : Nat → Nat → Option Nat) (n m a ow : Nat) (X : St) (p : Int32) (left : Int32) (owed : Int32) (hp : p = nI a) (han : a < n) (hl : left = nI m) (hm : m < 2 ^ (n - a - 1)) (how : owed = nI ow) (how2 : ow < 2 ^ 31) (hF : FOK c n X) : Ci l yX1_uppermostMate cX1_uppermostMate 6 (some .int) 18 (xw G) D (tyG G) [.ref (G.1 5), .int p, .int left, .int owed] X (fun r X1 => r = optI (fm c a (fX n m) (lpc c n (n - a - 1)) ow (n - a - 1) (a + 1)) ∧ ∃ g, X1 = sr X 31 g ∧ Memo c n g) := by
  refine m_i (nL := 6) (lv := [(0, .ref (G.1 5)), (1, .int p), (2, .int left), (3, .int owed)]) [.ref (G.1 5), .int p, .int left, .int owed] RX1 rfl (xw_adr G) (by decide +kernel) (Nat.le_of_ble_eq_true rfl) rfl (fun K C ret => ?_)
  obtain ⟨hn16, hsz, hch, hmemo⟩ := id hF
  have hm31 : m < 2 ^ 31 := two31 hm (by omega)
  have hpx : ix p = a := by rw [hp]; exact ix_nI (by omega)
  have hpin : vp_in p 16 := by rw [hp]; exact vp_in_nI (by omega) (by decide)
  have hpr : ix p < 16 := by rw [hpx]; omega
  have hp1 : p + 1 = nI (n - (n - a - 1)) := by rw [hp, nI_1]; congr 1; omega
  refine x_iload_n C (pc := 0) dX1_uppermostMate_0 1 rfl rfl ?_
  refine x_iconst C (pc := 1) (v := 1) dX1_uppermostMate_1 (by decide) ?_
  refine x_iadd C (pc := 2) dX1_uppermostMate_2 ?_
  refine x_istore C (pc := 3) dX1_uppermostMate_3 [(0, .ref (G.1 5)), (1, .int p), (2, .int left), (3, .int owed), (4, .int (p + 1))] [1, 2, 3, 4, 0] (by decide) rfl ?_
  have L5 : ∀ (nu : Nat) (Y : St) (q : Int32) (x : Nat), (∃ g, Y = sr X 31 g ∧ Memo c n g) → (q = nI x) → (a < x) → (x ≤ n) → (fm c a (fX n m) (lpc c n (n - a - 1)) ow (n - a - 1) (a + 1) = fm c a (fX n m) (lpc c n (n - a - 1)) ow (n - x) x) → (n - x) < nu → WX K (xw G) 6 Y 5 [(0, .ref (G.1 5)), (1, .int p), (2, .int left), (3, .int owed), (4, .int q)] [] := by
    intro nu
    induction nu with
    | zero => intro Y q x hYg hq hax hxn0 hfm hmu5; exact absurd hmu5 (Nat.not_lt_zero _)
    | succ n5 ih5 =>
      intro Y q x hYg hq hax hxn0 hfm hmu5
      refine x_iload C (pc := 5) dX1_uppermostMate_5 4 rfl ?_
      refine x_aload_n C (pc := 7) dX1_uppermostMate_7 0 rfl rfl ?_
      refine xG_fsize C fl_X1_26 dX1_uppermostMate_8 ?_
      refine x_icmp_ge C (pc := 11) (tgt := 79) dX1_uppermostMate_11 (by decide) (fun c11 => ?_) (fun c11 => ?_)
      · obtain ⟨g, hY, hg⟩ := hYg
        have hYs : (Y 111 0) = nI n := by rw [hY]; exact hsz
        have hxn : x = n := by have := geN hq hYs c11 (by omega); omega
        refine x_bipush C (pc := 79) (v := (-9)) dX1_uppermostMate_79 (by decide) ?_
        exact ret (-9) Y 81 _ dX1_uppermostMate_81 ⟨by rw [hfm, hxn, Nat.sub_self]; rfl, g, hY, hg⟩
      · obtain ⟨g, hY, hg⟩ := hYg
        have hYs : (Y 111 0) = nI n := by rw [hY]; exact hsz
        have hxn : x < n := ltN hq hYs c11 (by omega)
        have hqin : vp_in q 16 := by rw [hq]; exact vp_in_nI (by omega) (by decide)
        have hqx : ix q = x := by rw [hq]; exact ix_nI (by omega)
        have hFY : FOK c n Y := by rw [hY]; exact FOK_least hF hg
        have hch2 := hch a x (by omega) hxn
        have hpq : Y (47 + ix p) (ix q) = X (47 + a) x := by rw [hpx, hqx, hY, sr_n _ _ (by omega)]
        have hbv : v_bitOf Y q = nI (2 ^ (n - 1 - x)) := by rw [hq]; exact bitOf_val hYs hxn hn16
        have hbit : (left &&& nI (2 ^ (n - 1 - x)) = 0) ↔ fX n m x = false := by rw [hl]; exact nI_bit hm31
        have hns : n - x = (n - (x + 1)) + 1 := by omega
        have J73 : ∀ (Y3 : St), ((∃ g, Y3 = sr X 31 g ∧ Memo c n g) ∧ fm c a (fX n m) (lpc c n (n - a - 1)) ow (n - x) x = fm c a (fX n m) (lpc c n (n - a - 1)) ow (n - (x + 1)) (x + 1)) → WX K (xw G) 6 Y3 73 [(0, .ref (G.1 5)), (1, .int p), (2, .int left), (3, .int owed), (4, .int q)] [] := by
          intro Y3 hj73
          obtain ⟨hg3, hf3⟩ := hj73
          refine x_iinc C (pc := 73) (v := q + 1) dX1_uppermostMate_73 4 [(0, .ref (G.1 5)), (1, .int p), (2, .int left), (3, .int owed), (4, .int (q + 1))] [1, 2, 3, 4, 0] rfl (by rfl) (by decide) rfl ?_
          refine x_goto C (pc := 76) (tgt := 5) dX1_uppermostMate_76 (by decide) ?_
          exact ih5 Y3 (q + 1) (x + 1) hg3 (by rw [hq]; exact nI_1 x) (by omega) (by omega) (by rw [hfm, hf3]) (by omega)
        refine x_aload_n C (pc := 14) dX1_uppermostMate_14 0 rfl rfl ?_
        refine xG_charge C fl_X1_20 dX1_uppermostMate_15 ?_
        refine x_iload_n C (pc := 18) dX1_uppermostMate_18 1 rfl rfl ?_
        refine xL_charge C dX1_uppermostMate_19 (by exact hpin) ?_
        refine x_iload C (pc := 20) dX1_uppermostMate_20 4 rfl ?_
        refine xLL_charge C dX1_uppermostMate_22 (by exact hpr) (by exact hqin) ?_
        refine x_top (y := (X (47 + a) x)) (hpq) ?_
        refine x_istore C (pc := 23) dX1_uppermostMate_23 [(0, .ref (G.1 5)), (1, .int p), (2, .int left), (3, .int owed), (4, .int q), (5, .int (X (47 + a) x))] [1, 2, 3, 4, 5, 0] (by decide) rfl ?_
        refine x_iload_n C (pc := 25) dX1_uppermostMate_25 2 rfl rfl ?_
        refine x_aload_n C (pc := 26) dX1_uppermostMate_26 0 rfl rfl ?_
        refine x_iload C (pc := 27) dX1_uppermostMate_27 4 rfl ?_
        refine x_callVi C (pc := 29) [.int q] (fun l D => c_X1_bitOf l D G Y q ) (xe_5 G _) rfl ml_X1_49 co_X1_bitOf im_X1_bitOf se_X1_bitOf in_X1 hy_X1_bitOf (by decide) (by decide) (Nat.le_of_ble_eq_true rfl) dX1_uppermostMate_29 rfl (kx ?_)
        refine x_top (y := nI (2 ^ (n - 1 - x))) hbv ?_
        refine x_iand C (pc := 32) dX1_uppermostMate_32 ?_
        refine x_if_eq C (pc := 33) (tgt := 73) dX1_uppermostMate_33 (by decide) (fun c33 => ?_) (fun c33 => ?_)
        · refine x_sub [(0, .ref (G.1 5)), (1, .int p), (2, .int left), (3, .int owed), (4, .int q)] [0, 1, 2, 3, 4] rfl ?_
          exact J73 Y (⟨⟨g, hY, hg⟩, by rw [hns]; exact fm_skip (fun h1 => absurd (hbit.mp c33) (by rw [h1]; decide))⟩)
        · refine x_iload C (pc := 36) dX1_uppermostMate_36 5 rfl ?_
          refine x_iconst C (pc := 38) (v := (-1)) dX1_uppermostMate_38 (by decide) ?_
          refine x_icmp_eq C (pc := 39) (tgt := 73) dX1_uppermostMate_39 (by decide) (fun c39 => ?_) (fun c39 => ?_)
          · refine x_sub [(0, .ref (G.1 5)), (1, .int p), (2, .int left), (3, .int owed), (4, .int q)] [0, 1, 2, 3, 4] rfl ?_
            exact J73 Y (⟨⟨g, hY, hg⟩, by rw [hns]; exact fm_skip (fun _ w h2 => by
              rcases hch2 with h | ⟨v, h3, h4, h5⟩
              · rw [h.1] at h2; cases h2
              · rw [h5] at c39; exact absurd c39 (nI_neg1 (by omega)))⟩)
          · refine x_iload C (pc := 42) dX1_uppermostMate_42 5 rfl ?_
            refine x_iload_n C (pc := 44) dX1_uppermostMate_44 3 rfl rfl ?_
            refine x_icmp_gt C (pc := 45) (tgt := 73) dX1_uppermostMate_45 (by decide) (fun c45 => ?_) (fun c45 => ?_)
            · refine x_sub [(0, .ref (G.1 5)), (1, .int p), (2, .int left), (3, .int owed), (4, .int q)] [0, 1, 2, 3, 4] rfl ?_
              exact J73 Y (⟨⟨g, hY, hg⟩, by rw [hns]; exact fm_skip (fun _ w h2 => by
                rcases hch2 with h | ⟨v, h3, h4, h5⟩
                · rw [h.1] at h2; cases h2
                · rw [h3] at h2; cases h2
                  rw [h5, how] at c45
                  have := (nI_ltI how2 (by omega)).mp c45
                  omega)⟩)
            · have hfx : fX n m x = true := by
                cases h : fX n m x with
                | false => exact absurd (hbit.mpr h) c33
                | true => rfl
              obtain ⟨w, hcw, hw2, hXw⟩ := hch2.resolve_left (fun h => c39 h.2)
              have hm2lt : m ^^^ 2 ^ (n - 1 - x) < 2 ^ (n - a - 1) := xor_lt hm (by omega)
              have hv : lpc c n (n - a - 1) (fX n (m ^^^ 2 ^ (n - 1 - x))) = lpc c n (n - a - 1) (rmv (fX n m) x) := lpc_eq (by omega) (fun i _ h2 => fX_rmv hxn hfx h2)
              have hL := lpc_bound (c := c) (n := n) (n - a - 1) (rmv (fX n m) x)
              refine x_iload C (pc := 48) dX1_uppermostMate_48 5 rfl ?_
              refine x_aload_n C (pc := 50) dX1_uppermostMate_50 0 rfl rfl ?_
              refine x_iload_n C (pc := 51) dX1_uppermostMate_51 1 rfl rfl ?_
              refine x_iconst C (pc := 52) (v := 1) dX1_uppermostMate_52 (by decide) ?_
              refine x_iadd C (pc := 53) dX1_uppermostMate_53 ?_
              refine x_iload_n C (pc := 54) dX1_uppermostMate_54 2 rfl rfl ?_
              refine x_aload_n C (pc := 55) dX1_uppermostMate_55 0 rfl rfl ?_
              refine x_iload C (pc := 56) dX1_uppermostMate_56 4 rfl ?_
              refine x_callVi C (pc := 58) [.int q] (fun l D => c_X1_bitOf l D G Y q ) (xe_5 G _) rfl ml_X1_49 co_X1_bitOf im_X1_bitOf se_X1_bitOf in_X1 hy_X1_bitOf (by decide) (by decide) (Nat.le_of_ble_eq_true rfl) dX1_uppermostMate_58 rfl (kx ?_)
              refine x_top (y := nI (2 ^ (n - 1 - x))) hbv ?_
              refine x_ixor C (pc := 61) dX1_uppermostMate_61 ?_
              refine x_top (y := nI (m ^^^ 2 ^ (n - 1 - x))) (by rw [hl]; exact nI_xor _ _) ?_
              refine x_callSi C (pc := 62) [.ref (G.1 5), .int (p + 1), .int (nI (m ^^^ 2 ^ (n - 1 - x)))] (fun l D => LC_all c n G (n - a - 1) (by omega) l D 17 Y (p + 1) (nI (m ^^^ 2 ^ (n - 1 - x))) (m ^^^ 2 ^ (n - 1 - x)) (by omega) hp1 rfl hm2lt hFY) ml_X1_45 co_X1_leastCost st_X1_leastCost in_X1 hy_X1_leastCost.2 (by omega) (by decide) (Nat.le_of_ble_eq_true rfl) dX1_uppermostMate_62 rfl (fun r62 X62 h62 => ?_)
              obtain ⟨hr62, g62, hX62, hg62⟩ := h62
              refine x_iadd C (pc := 65) dX1_uppermostMate_65 ?_
              have hsum : X (47 + a) x + r62 = nI (w + lpc c n (n - a - 1) (rmv (fX n m) x)) := by rw [hr62, hv, hXw, nI_add]
              refine x_iload_n C (pc := 66) dX1_uppermostMate_66 3 rfl rfl ?_
              refine x_icmp_ne C (pc := 67) (tgt := 73) dX1_uppermostMate_67 (by decide) (fun c67 => ?_) (fun c67 => ?_)
              · refine x_sub [(0, .ref (G.1 5)), (1, .int p), (2, .int left), (3, .int owed), (4, .int q)] [0, 1, 2, 3, 4] rfl ?_
                exact J73 X62 (⟨⟨g62, by rw [hX62, hY, sr_sr], hg62⟩, by rw [hns]; exact fm_skip (fun _ v h2 => by
                  rw [hcw] at h2; cases h2
                  intro e
                  exact c67 (by rw [hsum, how, e]))⟩)
              · refine x_iload C (pc := 70) dX1_uppermostMate_70 4 rfl ?_
                exact ret q X62 72 _ dX1_uppermostMate_72 ⟨by rw [hfm, hns, fm_hit hfx hcw ((nI_eq (by omega) how2).mp (by rw [← hsum, ← how]; exact c67)), hq]; rfl, g62, by rw [hX62, hY, sr_sr], hg62⟩
  exact L5 _ X (p + 1) (a + 1) (⟨X 31, (sr_self X _).symm, hmemo⟩) (by rw [hp]; exact nI_1 a) (by omega) (by omega) (by congr 1) (Nat.lt_succ_self _)

def mT (c : Nat → Nat → Option Nat) (n : Nat) (b : Nat → Int32) : Nat → Nat → Int32
  | 0 => b
  | p + 1 => if fT c n p p = true then (match sel c n p (fT c n p) with
    | none => mT c n b p
    | some q => upd (upd (mT c n b p) p (nI q)) q (nI p)) else mT c n b p
theorem fT_off {c : Nat → Nat → Option Nat} {n p : Nat} (h : fT c n p p = false) : fT c n (p + 1) = fT c n p := by
  rw [fT, if_neg (by rw [h]; decide)]
theorem fT_none {c : Nat → Nat → Option Nat} {n p : Nat} (hs : sel c n p (fT c n p) = none) : fT c n (p + 1) = fT c n p := by
  rw [fT]
  by_cases h : fT c n p p = true
  · rw [if_pos h, hs]
  · rw [if_neg h]
theorem fT_some {c : Nat → Nat → Option Nat} {n p q : Nat} (h : fT c n p p = true) (hs : sel c n p (fT c n p) = some q) : fT c n (p + 1) = rmv (fT c n p) q := by
  rw [fT, if_pos h, hs]
theorem mT_off {c : Nat → Nat → Option Nat} {n p : Nat} {b : Nat → Int32} (h : fT c n p p = false) : mT c n b (p + 1) = mT c n b p := by
  rw [mT, if_neg (by rw [h]; decide)]
theorem mT_none {c : Nat → Nat → Option Nat} {n p : Nat} {b : Nat → Int32} (hs : sel c n p (fT c n p) = none) : mT c n b (p + 1) = mT c n b p := by
  rw [mT]
  by_cases h : fT c n p p = true
  · rw [if_pos h, hs]
  · rw [if_neg h]
theorem mT_some {c : Nat → Nat → Option Nat} {n p q : Nat} {b : Nat → Int32} (h : fT c n p p = true) (hs : sel c n p (fT c n p) = some q) : mT c n b (p + 1) = upd (upd (mT c n b p) p (nI q)) q (nI p) := by
  rw [mT, if_pos h, hs]
def mt0 (X : St) : Nat → Int32 := fun i => if i < 16 then (-9) else (X 29) i
def lst0 (X : St) (n : Nat) : Nat → Int32 := fun i => if 0 ≤ i ∧ i < Nat.min 8192 (2 ^ n) then 0 else (X 31) i
theorem lst0_memo (c : Nat → Nat → Option Nat) (X : St) (n : Nat) : Memo c n (lst0 X n) := by
  intro m h1 h2
  left
  unfold lst0
  rw [if_pos ⟨Nat.zero_le _, by have : m < Nat.min 8192 (2 ^ n) := Nat.lt_min.mpr ⟨h1, h2⟩; exact this⟩]
def FCH (c : Nat → Nat → Option Nat) (n : Nat) (X : St) : Prop := n ≤ 16 ∧ (X 111 0) = nI n ∧ (∀ p q, p < q → q < n → (c p q = none ∧ X (47 + p) q = (-1)) ∨ ∃ w, c p q = some w ∧ w ≤ 2000000 ∧ X (47 + p) q = nI w)
theorem FCH_ok {c : Nat → Nat → Option Nat} {n : Nat} {X : St} {g f : Nat → Int32} (h : FCH c n X) (hg : Memo c n g) : FOK c n (sr (sr X 31 g) 29 f) := by
  obtain ⟨h1, h2, h3⟩ := h
  refine ⟨h1, h2, fun p q hp hq => ?_, hg⟩
  have e : sr (sr X 31 g) 29 f (47 + p) = X (47 + p) := by rw [sr_n _ _ (by omega), sr_n _ _ (by omega)]
  rw [e]
  exact h3 p q hp hq
theorem sr_lm (X : St) (g g2 f : Nat → Int32) : sr (sr (sr X 31 g) 29 f) 31 g2 = sr (sr X 31 g2) 29 f := by
  rw [sr_comm _ _ _ (by decide : 29 ≠ 31), sr_sr]
theorem all_bits {n p : Nat} (hp : p < n) : fX n (2 ^ n - 1) p = true := by
  unfold fX
  rw [Nat.testBit_two_pow_sub_one]
  exact decide_eq_true (by omega)

set_option maxHeartbeats 4000000 in
set_option maxRecDepth 100000 in
theorem c_X1_solve (l : Launch) (D : va_G) (G : Gx) (c : Nat → Nat → Option Nat) (n : Nat) (X : St)  (hC : FCH c n X) : Ci l yX1_solve cX1_solve 6 (some .int) 19 (xw G) D (tyG G) [.ref (G.1 5)] X (fun r X1 => r = nI (lpc c n n (fun _ => true)) ∧ ∃ g, X1 = sr (sr X 31 g) 29 (mT c n (mt0 X) n)) := by
  refine m_i (nL := 6) (lv := [(0, .ref (G.1 5))]) [.ref (G.1 5)] RX1 rfl (xw_adr G) (by decide +kernel) (Nat.le_of_ble_eq_true rfl) rfl (fun K C ret => ?_)
  obtain ⟨hn16, hsz, hch⟩ := id hC
  have h2n : 2 ^ n < 2 ^ 31 := Nat.pow_lt_pow_right (by decide) (by omega)
  have h2p : 0 < 2 ^ n := Nat.pow_pos (by decide)
  refine x_aload_n C (pc := 0) dX1_solve_0 0 rfl rfl ?_
  refine xG_least C fl_X1_23 dX1_solve_1 ?_
  refine x_iconst C (pc := 4) (v := 0) dX1_solve_4 (by decide) ?_
  refine x_sipush C (pc := 5) (v := 8192) dX1_solve_5 (by decide) ?_
  refine x_iconst C (pc := 8) (v := 1) dX1_solve_8 (by decide) ?_
  refine x_aload_n C (pc := 9) dX1_solve_9 0 rfl rfl ?_
  refine xG_fsize C fl_X1_26 dX1_solve_10 ?_
  refine x_ishl C (pc := 13) dX1_solve_13 ?_
  refine x_min C (pc := 14) ml_X1_30 (by decide) (Nat.le_of_ble_eq_true rfl) dX1_solve_14 ?_
  refine x_top (y := nI (Nat.min 8192 (2 ^ n))) (by rw [hsz, nI_shl1 n (by omega), show (8192 : Int32) = nI 8192 from rfl]; exact min_nI (by decide) h2n) ?_
  refine x_iconst C (pc := 17) (v := 0) dX1_solve_17 (by decide) ?_
  refine x_callSv C (pc := 18) [.ref (G.1 31), .int 0, .int (nI (Nat.min 8192 (2 ^ n))), .int 0] (fun l D => c_fillR l D (xw_adr G) (xa_least G) 0 rfl (by decide) X 0 (Nat.min 8192 (2 ^ n)) 0 (Nat.zero_le _) (Nat.min_le_left _ _)) ml_X1_36 co_J7_fill_fda19 st_J7_fill_fda19 in_J7 hy_J7_fill_fda19 (by decide) (by decide) (Nat.le_of_ble_eq_true rfl) dX1_solve_18 rfl (kxv ?_)
  refine x_aload_n C (pc := 21) dX1_solve_21 0 rfl rfl ?_
  refine xG_mate C fl_X1_15 dX1_solve_22 ?_
  refine x_bipush C (pc := 25) (v := (-9)) dX1_solve_25 (by decide) ?_
  refine x_callSv C (pc := 27) [.ref (G.1 29), .int (-9)] (fun l D => c_fillI l D (xw_adr G) (xa_mate G) 0 rfl (by decide) (sr X 31 (fun i => if 0 ≤ i ∧ i < (Nat.min 8192 (2 ^ n)) then 0 else X 31 i)) (-9)) ml_X1_42 co_J7_fill_53178 st_J7_fill_53178 in_J7 hy_J7_fill_53178 (by decide) (by decide) (Nat.le_of_ble_eq_true rfl) dX1_solve_27 rfl (kxv ?_)
  refine x_eqX (X' := (sr (sr X 31 (lst0 X n)) 29 (mt0 X))) rfl ?_
  refine x_iconst C (pc := 30) (v := 1) dX1_solve_30 (by decide) ?_
  refine x_aload_n C (pc := 31) dX1_solve_31 0 rfl rfl ?_
  refine xG_fsize C fl_X1_26 dX1_solve_32 ?_
  refine x_ishl C (pc := 35) dX1_solve_35 ?_
  refine x_iconst C (pc := 36) (v := 1) dX1_solve_36 (by decide) ?_
  refine x_isub C (pc := 37) dX1_solve_37 ?_
  refine x_top (y := nI (2 ^ n - 1)) (by show (1 : Int32) <<< ((X 111 0) &&& 31) - 1 = _; rw [hsz, nI_shl1 n (by omega)]; exact nI_m1 h2p) ?_
  refine x_istore_n C (pc := 38) dX1_solve_38 [(0, .ref (G.1 5)), (1, .int (nI (2 ^ n - 1)))] [1, 0] rfl (by decide) rfl ?_
  refine x_aload_n C (pc := 39) dX1_solve_39 0 rfl rfl ?_
  refine x_iconst C (pc := 40) (v := 0) dX1_solve_40 (by decide) ?_
  refine x_iload_n C (pc := 41) dX1_solve_41 1 rfl rfl ?_
  refine x_callSi C (pc := 42) [.ref (G.1 5), .int 0, .int (nI (2 ^ n - 1))] (fun l D => LC_all c n G n (Nat.le_refl _) l D 17 (sr (sr X 31 (lst0 X n)) 29 (mt0 X)) 0 (nI (2 ^ n - 1)) (2 ^ n - 1) (by omega) (by rw [Nat.sub_self]; rfl) rfl (by omega) (FCH_ok hC (lst0_memo c X n))) ml_X1_45 co_X1_leastCost st_X1_leastCost in_X1 hy_X1_leastCost.2 (by omega) (by decide) (Nat.le_of_ble_eq_true rfl) dX1_solve_42 rfl (fun r42 X42 h42 => ?_)
  obtain ⟨hr42, g42, hX42, hg42⟩ := h42
  refine x_istore_n C (pc := 45) dX1_solve_45 [(0, .ref (G.1 5)), (1, .int (nI (2 ^ n - 1))), (2, .int r42)] [1, 2, 0] rfl (by decide) rfl ?_
  refine x_iload_n C (pc := 46) dX1_solve_46 2 rfl rfl ?_
  refine x_istore_n C (pc := 47) dX1_solve_47 [(0, .ref (G.1 5)), (1, .int (nI (2 ^ n - 1))), (2, .int r42), (3, .int r42)] [1, 2, 3, 0] rfl (by decide) rfl ?_
  refine x_iconst C (pc := 48) (v := 0) dX1_solve_48 (by decide) ?_
  refine x_istore C (pc := 49) dX1_solve_49 [(0, .ref (G.1 5)), (1, .int (nI (2 ^ n - 1))), (2, .int r42), (3, .int r42), (4, .int 0)] [1, 2, 3, 4, 0] (by decide) rfl ?_
  have L51 : ∀ (nu : Nat) (Y : St) (lf : Int32) (ow : Int32) (p : Int32) (a : Nat) (m : Nat), (p = nI a) → (a ≤ n) → (lf = nI m) → (m < 2 ^ (n - a)) → (∀ r, a ≤ r → r < n → fX n m r = fT c n a r) → (ow = nI (lpc c n (n - a) (fT c n a))) → (∃ g, Y = sr (sr X 31 g) 29 (mT c n (mt0 X) a) ∧ Memo c n g) → (n - a) < nu → WX K (xw G) 6 Y 51 [(0, .ref (G.1 5)), (1, .int lf), (2, .int r42), (3, .int ow), (4, .int p)] [] := by
    intro nu
    induction nu with
    | zero => intro Y lf ow p a m hp han0 hlf hml hfT how hYg hmu51; exact absurd hmu51 (Nat.not_lt_zero _)
    | succ n51 ih51 =>
      intro Y lf ow p a m hp han0 hlf hml hfT how hYg hmu51
      refine x_iload C (pc := 51) dX1_solve_51 4 rfl ?_
      refine x_aload_n C (pc := 53) dX1_solve_53 0 rfl rfl ?_
      refine xG_fsize C fl_X1_26 dX1_solve_54 ?_
      refine x_icmp_ge C (pc := 57) (tgt := 152) dX1_solve_57 (by decide) (fun c57 => ?_) (fun c57 => ?_)
      · obtain ⟨g, hY, hg⟩ := hYg
        have hYs : (Y 111 0) = nI n := by rw [hY]; exact hsz
        have han : a = n := by have := geN hp hYs c57 (by omega); omega
        refine x_iload_n C (pc := 152) dX1_solve_152 2 rfl rfl ?_
        exact ret r42 Y 153 _ dX1_solve_153 ⟨hr42.trans (by congr 1; exact lpc_eq (Nat.le_refl _) (fun r _ h2 => all_bits h2)), g, by rw [hY, han]⟩
      · obtain ⟨g, hY, hg⟩ := hYg
        have hYs : (Y 111 0) = nI n := by rw [hY]; exact hsz
        have han : a < n := ltN hp hYs c57 (by omega)
        have hpx : ix p = a := by rw [hp]; exact ix_nI (by omega)
        have hpin : vp_in p 16 := by rw [hp]; exact vp_in_nI (by omega) (by decide)
        have hpr : ix p < 16 := by rw [hpx]; omega
        have hbv : v_bitOf Y p = nI (2 ^ (n - 1 - a)) := by rw [hp]; exact bitOf_val hYs han hn16
        have hm31 : m < 2 ^ 31 := two31 hml (by omega)
        have hbit : (lf &&& nI (2 ^ (n - 1 - a)) = 0) ↔ fX n m a = false := by rw [hlf]; exact nI_bit hm31
        have hFY : FOK c n Y := by rw [hY]; exact FCH_ok hC hg
        have hlb := lpc_bound (c := c) (n := n) (n - a) (fT c n a)
        have J146 : ∀ (Y2 : St) (lf2 : Int32) (ow2 : Int32) (m2 : Nat), (lf2 = nI m2 ∧ m2 < 2 ^ (n - (a + 1)) ∧ (∀ r, a + 1 ≤ r → r < n → fX n m2 r = fT c n (a + 1) r) ∧ ow2 = nI (lpc c n (n - (a + 1)) (fT c n (a + 1))) ∧ ∃ g, Y2 = sr (sr X 31 g) 29 (mT c n (mt0 X) (a + 1)) ∧ Memo c n g) → WX K (xw G) 6 Y2 146 [(0, .ref (G.1 5)), (1, .int lf2), (2, .int r42), (3, .int ow2), (4, .int p)] [] := by
          intro Y2 lf2 ow2 m2 hj146
          obtain ⟨hi1, hi2, hi3, hi4, hi5⟩ := hj146
          refine x_iinc C (pc := 146) (v := p + 1) dX1_solve_146 4 [(0, .ref (G.1 5)), (1, .int lf2), (2, .int r42), (3, .int ow2), (4, .int (p + 1))] [1, 2, 3, 4, 0] rfl (by rfl) (by decide) rfl ?_
          refine x_goto C (pc := 149) (tgt := 51) dX1_solve_149 (by decide) ?_
          exact ih51 Y2 lf2 ow2 (p + 1) (a + 1) m2 (by rw [hp]; exact nI_1 a) (by omega) hi1 hi2 hi3 hi4 hi5 (by omega)
        refine x_iload_n C (pc := 60) dX1_solve_60 1 rfl rfl ?_
        refine x_aload_n C (pc := 61) dX1_solve_61 0 rfl rfl ?_
        refine x_iload C (pc := 62) dX1_solve_62 4 rfl ?_
        refine x_callVi C (pc := 64) [.int p] (fun l D => c_X1_bitOf l D G Y p ) (xe_5 G _) rfl ml_X1_49 co_X1_bitOf im_X1_bitOf se_X1_bitOf in_X1 hy_X1_bitOf (by decide) (by decide) (Nat.le_of_ble_eq_true rfl) dX1_solve_64 rfl (kx ?_)
        refine x_top (y := nI (2 ^ (n - 1 - a))) hbv ?_
        refine x_iand C (pc := 67) dX1_solve_67 ?_
        refine x_if_eq C (pc := 68) (tgt := 146) dX1_solve_68 (by decide) (fun c68 => ?_) (fun c68 => ?_)
        · exact J146 Y lf ow _ (⟨hlf, by
            have h1 : m < 2 ^ ((n - 1 - a) + 1) := by rw [show n - 1 - a + 1 = n - a by omega]; exact hml
            have h2 := low_of h1 (hbit.mp c68)
            rw [show n - 1 - a = n - (a + 1) by omega] at h2
            exact h2, fun r h1 h2 => by rw [fT_off (by rw [← hfT a (Nat.le_refl _) han]; exact hbit.mp c68)]; exact hfT r (by omega) h2, by
            rw [how, fT_off (by rw [← hfT a (Nat.le_refl _) han]; exact hbit.mp c68), lpc_off han (by rw [← hfT a (Nat.le_refl _) han]; exact hbit.mp c68)]
            rfl, g, by rw [mT_off (by rw [← hfT a (Nat.le_refl _) han]; exact hbit.mp c68)]; exact hY, hg⟩)
        · have hfa : fX n m a = true := by
            cases h : fX n m a with
            | false => exact absurd (hbit.mpr h) c68
            | true => rfl
          have hTa : fT c n a a = true := by rw [← hfT a (Nat.le_refl _) han]; exact hfa
          obtain ⟨m1, hm1⟩ : ∃ m1, m1 = m ^^^ 2 ^ (n - 1 - a) := ⟨_, rfl⟩
          have hm1lt : m1 < 2 ^ (n - a - 1) := by
            rw [hm1, show n - a - 1 = n - 1 - a by omega]
            exact xor_top (by rw [show n - 1 - a + 1 = n - a by omega]; exact hml) hfa
          have hm131 : m1 < 2 ^ 31 := two31 hm1lt (by omega)
          have hf1 : ∀ r, a < r → r < n → fX n m1 r = fT c n a r := fun r h1 h2 => by
            rw [hm1, fX_rmv han hfa h2, ← hfT r (by omega) h2]
            unfold rmv
            rw [if_neg (by omega)]
          refine x_iload_n C (pc := 71) dX1_solve_71 1 rfl rfl ?_
          refine x_aload_n C (pc := 72) dX1_solve_72 0 rfl rfl ?_
          refine x_iload C (pc := 73) dX1_solve_73 4 rfl ?_
          refine x_callVi C (pc := 75) [.int p] (fun l D => c_X1_bitOf l D G Y p ) (xe_5 G _) rfl ml_X1_49 co_X1_bitOf im_X1_bitOf se_X1_bitOf in_X1 hy_X1_bitOf (by decide) (by decide) (Nat.le_of_ble_eq_true rfl) dX1_solve_75 rfl (kx ?_)
          refine x_top (y := nI (2 ^ (n - 1 - a))) hbv ?_
          refine x_ixor C (pc := 78) dX1_solve_78 ?_
          refine x_top (y := nI m1) (by rw [hlf, hm1]; exact nI_xor _ _) ?_
          refine x_istore_n C (pc := 79) dX1_solve_79 [(0, .ref (G.1 5)), (1, .int (nI m1)), (2, .int r42), (3, .int ow), (4, .int p)] [1, 0, 2, 3, 4] rfl (by decide) rfl ?_
          refine x_aload_n C (pc := 80) dX1_solve_80 0 rfl rfl ?_
          refine x_iload C (pc := 81) dX1_solve_81 4 rfl ?_
          refine x_iload_n C (pc := 83) dX1_solve_83 1 rfl rfl ?_
          refine x_iload_n C (pc := 84) dX1_solve_84 3 rfl rfl ?_
          refine x_callVi C (pc := 85) [.int p, .int (nI m1), .int ow] (fun l D => c_X1_uppermostMate l D G c n m1 a (lpc c n (n - a) (fT c n a)) Y p (nI m1) ow hp han rfl hm1lt how (by omega) hFY) (xe_5 G _) rfl ml_X1_53 co_X1_uppermostMate im_X1_uppermostMate se_X1_uppermostMate in_X1 hy_X1_uppermostMate (by decide) (by decide) (Nat.le_of_ble_eq_true rfl) dX1_solve_85 rfl (fun r85 X85 h85 => ?_)
          obtain ⟨hr85, g85, hX85, hg85⟩ := h85
          refine x_istore C (pc := 88) dX1_solve_88 [(0, .ref (G.1 5)), (1, .int (nI m1)), (2, .int r42), (3, .int ow), (4, .int p), (5, .int r85)] [1, 2, 3, 4, 5, 0] (by decide) rfl ?_
          have hsel : fm c a (fX n m1) (lpc c n (n - a - 1)) (lpc c n (n - a) (fT c n a)) (n - a - 1) (a + 1) = sel c n a (fT c n a) := fm_congr _ _ (fun r h1 h2 => hf1 r (by omega) (by omega)) (fun r h1 h2 => lpc_eq (by omega) (fun i h3 h4 => by unfold rmv; rw [hf1 i (by omega) h4]))
          rw [hsel] at hr85
          have hY85 : X85 = sr (sr X 31 g85) 29 (mT c n (mt0 X) a) := by rw [hX85, hY, sr_lm]
          refine x_iload C (pc := 90) dX1_solve_90 5 rfl ?_
          refine x_bipush C (pc := 92) (v := (-9)) dX1_solve_92 (by decide) ?_
          refine x_icmp_ne C (pc := 94) (tgt := 106) dX1_solve_94 (by decide) (fun c94 => ?_) (fun c94 => ?_)
          · obtain ⟨b, hsb⟩ : ∃ b, sel c n a (fT c n a) = some b := by
              cases h : sel c n a (fT c n a) with
              | none => rw [hr85, h] at c94; exact absurd rfl c94
              | some b => exact ⟨b, rfl⟩
            obtain ⟨hab, hbn, hTb, w, hcw, hsum⟩ := sel_some han hsb
            have hrb : r85 = nI b := by rw [hr85, hsb]; rfl
            have hfb : fX n m1 b = true := by rw [hf1 b hab hbn]; exact hTb
            have hbx : ix r85 = b := by rw [hrb]; exact ix_nI (by omega)
            have hbin : vp_in r85 16 := by rw [hrb]; exact vp_in_nI (by omega) (by decide)
            have hs85 : (X85 111 0) = nI n := by rw [hY85]; exact hsz
            have hbv2 : v_bitOf X85 r85 = nI (2 ^ (n - 1 - b)) := by rw [hrb]; exact bitOf_val hs85 hbn hn16
            have hw : X (47 + a) b = nI w := by
              rcases hch a b hab hbn with h | ⟨v, h1, h2, h3⟩
              · rw [h.1] at hcw; cases hcw
              · rw [h1] at hcw; cases hcw; exact h3
            have hpq : X85 (47 + ix p) (ix r85) = nI w := by rw [hpx, hbx, hY85, sr_n _ _ (by omega), sr_n _ _ (by omega)]; exact hw
            refine x_iload_n C (pc := 106) dX1_solve_106 1 rfl rfl ?_
            refine x_aload_n C (pc := 107) dX1_solve_107 0 rfl rfl ?_
            refine x_iload C (pc := 108) dX1_solve_108 5 rfl ?_
            refine x_callVi C (pc := 110) [.int r85] (fun l D => c_X1_bitOf l D G X85 r85 ) (xe_5 G _) rfl ml_X1_49 co_X1_bitOf im_X1_bitOf se_X1_bitOf in_X1 hy_X1_bitOf (by decide) (by decide) (Nat.le_of_ble_eq_true rfl) dX1_solve_110 rfl (kx ?_)
            refine x_top (y := nI (2 ^ (n - 1 - b))) hbv2 ?_
            refine x_ixor C (pc := 113) dX1_solve_113 ?_
            refine x_top (y := nI (m1 ^^^ 2 ^ (n - 1 - b))) (nI_xor _ _) ?_
            refine x_istore_n C (pc := 114) dX1_solve_114 [(0, .ref (G.1 5)), (1, .int (nI (m1 ^^^ 2 ^ (n - 1 - b)))), (2, .int r42), (3, .int ow), (4, .int p), (5, .int r85)] [1, 0, 2, 3, 4, 5] rfl (by decide) rfl ?_
            refine x_iload_n C (pc := 115) dX1_solve_115 3 rfl rfl ?_
            refine x_aload_n C (pc := 116) dX1_solve_116 0 rfl rfl ?_
            refine xG_charge C fl_X1_20 dX1_solve_117 ?_
            refine x_iload C (pc := 120) dX1_solve_120 4 rfl ?_
            refine xL_charge C dX1_solve_122 (by exact hpin) ?_
            refine x_iload C (pc := 123) dX1_solve_123 5 rfl ?_
            refine xLL_charge C dX1_solve_125 (by exact hpr) (by exact hbin) ?_
            refine x_top (y := nI w) (hpq) ?_
            refine x_isub C (pc := 126) dX1_solve_126 ?_
            refine x_istore_n C (pc := 127) dX1_solve_127 [(0, .ref (G.1 5)), (1, .int (nI (m1 ^^^ 2 ^ (n - 1 - b)))), (2, .int r42), (3, .int (ow - (nI w))), (4, .int p), (5, .int r85)] [1, 2, 3, 0, 4, 5] rfl (by decide) rfl ?_
            refine x_aload_n C (pc := 128) dX1_solve_128 0 rfl rfl ?_
            refine xG_mate C fl_X1_15 dX1_solve_129 ?_
            refine x_iload C (pc := 132) dX1_solve_132 4 rfl ?_
            refine x_iload C (pc := 134) dX1_solve_134 5 rfl ?_
            refine xS_mate C dX1_solve_136 (by exact hpin) ?_
            refine x_aload_n C (pc := 137) dX1_solve_137 0 rfl rfl ?_
            refine xG_mate C fl_X1_15 dX1_solve_138 ?_
            refine x_iload C (pc := 141) dX1_solve_141 5 rfl ?_
            refine x_iload C (pc := 143) dX1_solve_143 4 rfl ?_
            refine xS_mate C dX1_solve_145 (by exact hbin) ?_
            refine x_sub [(0, .ref (G.1 5)), (1, .int (nI (m1 ^^^ 2 ^ (n - 1 - b)))), (2, .int r42), (3, .int (ow - (nI w))), (4, .int p)] [0, 1, 2, 3, 4] rfl ?_
            exact J146 (ux (ux X85 29 (ix p) r85) 29 (ix r85) p) (nI (m1 ^^^ 2 ^ (n - 1 - b))) (ow - (nI w)) _ (⟨rfl, xor_lt hm1lt (by omega), fun r h1 h2 => by rw [fT_some hTa hsb, fX_rmv hbn hfb h2]; unfold rmv; rw [hf1 r (by omega) h2], by
              rw [how, ← hsum, fT_some hTa hsb, Nat.add_comm w, ← nI_add]
              exact Int32.add_sub_cancel _ _, g85, by
              rw [hpx, hbx, hrb, hp, hY85, ux_srs, ux_srs, mT_some hTa hsb], hg85⟩)
          · have hsn : sel c n a (fT c n a) = none := by
              cases h : sel c n a (fT c n a) with
              | none => rfl
              | some b => rw [hr85, h] at c94; exact absurd c94 (nI_m9 (by have := (sel_some han h).2.1; omega))
            have hlp := sel_none han hTa hsn
            refine x_iincW C (pc := 97) (v := ow + (-10000)) dX1_solve_97 3 [(0, .ref (G.1 5)), (1, .int (nI m1)), (2, .int r42), (3, .int (ow + (-10000))), (4, .int p), (5, .int r85)] [1, 2, 3, 0, 4, 5] rfl (by rfl) (by decide) rfl ?_
            refine x_goto C (pc := 103) (tgt := 146) dX1_solve_103 (by decide) ?_
            refine x_sub [(0, .ref (G.1 5)), (1, .int (nI m1)), (2, .int r42), (3, .int (ow + (-10000))), (4, .int p)] [0, 1, 2, 3, 4] rfl ?_
            exact J146 X85 (nI m1) (ow + (-10000)) _ (⟨rfl, hm1lt, fun r h1 h2 => by rw [fT_none hsn]; exact hf1 r (by omega) h2, by
              rw [how, hlp, fT_none hsn, Nat.add_comm 10000, ← nI_add]
              show nI _ + nI 10000 + (-10000) = _
              rw [Int32.add_assoc]
              exact Int32.add_zero _, g85, by rw [mT_none hsn]; exact hY85, hg85⟩)
  exact L51 _ X42 (nI (2 ^ n - 1)) r42 0 0 (2 ^ n - 1) rfl (Nat.zero_le _) rfl (by rw [Nat.sub_zero]; omega) (fun r _ h2 => all_bits h2) (by rw [hr42]; congr 1; exact lpc_eq (Nat.le_refl _) (fun r _ h2 => all_bits h2)) (⟨g42, by rw [hX42, sr_lm]; rfl, hg42⟩) (Nat.lt_succ_self _)
