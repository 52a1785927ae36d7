theorem fm_cg2 {c c2 : Nat → Nat → Option Nat} {p : Nat} {f : Nat → Bool} {L L2 : (Nat → Bool) → Nat} {ow : Nat} (hL : ∀ g, L g = L2 g) : ∀ j q, (∀ r, q ≤ r → r < q + j → c p r = c2 p r) → fm c p f L ow j q = fm c2 p f L2 ow j q
  | 0, q, _ => rfl
  | j + 1, q, h => by
    unfold fm
    rw [fm_cg2 hL j (q + 1) (fun r h1 h2 => h r (by omega) (by omega)), h q (Nat.le_refl _) (by omega), hL]
theorem sel_cg {c c2 : Nat → Nat → Option Nat} {n p : Nat} {f : Nat → Bool} (hc : ∀ p q, p < q → q < n → c p q = c2 p q) (hp : p < n) : sel c n p f = sel c2 n p f := by
  unfold sel
  rw [lpc_congr hc (n - p) f f (by omega) (fun _ _ _ => rfl)]
  exact fm_cg2 (fun g => lpc_congr hc (n - p - 1) g g (by omega) (fun _ _ _ => rfl)) _ _ (fun r h1 h2 => hc p r (by omega) (by omega))
theorem fT_cg {c c2 : Nat → Nat → Option Nat} {n : Nat} (hc : ∀ p q, p < q → q < n → c p q = c2 p q) : ∀ p, p ≤ n → fT c n p = fT c2 n p
  | 0, _ => rfl
  | p + 1, hp => by
    unfold fT
    rw [fT_cg hc p (by omega), sel_cg hc (by omega)]
theorem cE_cg {c c2 : Nat → Nat → Option Nat} {n : Nat} (hc : ∀ p q, p < q → q < n → c p q = c2 p q) : ∀ p, p ≤ n → cE c n p = cE c2 n p
  | 0, _ => rfl
  | p + 1, hp => by
    unfold cE
    rw [fT_cg hc p (by omega), sel_cg hc (by omega), cE_cg hc p (by omega)]
theorem ME_cg {c c2 : Nat → Nat → Option Nat} {n : Nat} {wh wh2 : Nat → Int32} {M : St} (hc : ∀ p q, p < q → q < n → c p q = c2 p q) (hw : ∀ p, p < n → wh p = wh2 p) : ∀ p, p ≤ n → ME c n wh M p = ME c2 n wh2 M p
  | 0, _ => rfl
  | p + 1, hp => by
    unfold ME
    rw [fT_cg hc p (by omega), sel_cg hc (by omega), ME_cg hc hw p (by omega), hw p (by omega)]
    by_cases e : fT c2 n p p = true
    · rw [if_pos e, if_pos e]
      cases hs : sel c2 n p (fT c2 n p) with
      | none => rfl
      | some q =>
        have := (sel_some (by omega) hs).2.1
        show sM_addBout _ _ _ = sM_addBout _ _ _
        rw [hw q this]
    · rw [if_neg e, if_neg e]
theorem plC_mono {wi bd : Nat → Int32} {m : Int32} {a : Nat} : ∀ b, a ≤ b → plC wi bd m a ≤ plC wi bd m b
  | 0, h => by rw [show a = 0 by omega]; exact Nat.le_refl _
  | b + 1, h => by
    by_cases e : a = b + 1
    · rw [e]; exact Nat.le_refl _
    · have := plC_mono (wi := wi) (bd := bd) (m := m) b (show a ≤ b by omega)
      show plC wi bd m a ≤ (if wi (ix (bd b)) = m then plC wi bd m b + 1 else plC wi bd m b)
      by_cases c : wi (ix (bd b)) = m
      · rw [if_pos c]
        omega
      · rw [if_neg c]; exact this
theorem plR_ix {wi bd : Nat → Int32} {m : Int32} {row : Nat → Int32} : ∀ n k, k < plC wi bd m n → ∃ r, r < n ∧ plR wi bd m row n k = bd r ∧ plC wi bd m r = k
  | 0, k, h => absurd h (Nat.not_lt_zero _)
  | n + 1, k, h => by
    unfold plC at h
    unfold plR
    by_cases c : wi (ix (bd n)) = m
    · rw [if_pos c] at h ⊢
      by_cases e : k = plC wi bd m n
      · exact ⟨n, by omega, by rw [e, pk_us], e.symm⟩
      · obtain ⟨r, h1, h2, h3⟩ := plR_ix (wi := wi) (bd := bd) (m := m) (row := row) n k (by omega)
        exact ⟨r, by omega, by rw [pk_un e]; exact h2, h3⟩
    · rw [if_neg c] at h ⊢
      obtain ⟨r, h1, h2, h3⟩ := plR_ix (wi := wi) (bd := bd) (m := m) (row := row) n k h
      exact ⟨r, by omega, h2, h3⟩
theorem plR_cg {wi bd : Nat → Int32} {m : Int32} {row row2 : Nat → Int32} : ∀ n k, k < plC wi bd m n → plR wi bd m row n k = plR wi bd m row2 n k
  | 0, k, h => absurd h (Nat.not_lt_zero _)
  | n + 1, k, h => by
    unfold plC at h
    unfold plR
    by_cases c : wi (ix (bd n)) = m
    · rw [if_pos c] at h
      rw [if_pos c, if_pos c]
      by_cases e : k = plC wi bd m n
      · rw [e, pk_us, pk_us]
      · rw [pk_un e, pk_un e]; exact plR_cg n k (by omega)
    · rw [if_neg c] at h
      rw [if_neg c, if_neg c]; exact plR_cg n k h
theorem nI_sub {a b : Nat} (h : b ≤ a) : nI a - nI b = nI (a - b) := by
  rw [show nI a = nI (a - b) + nI b by rw [nI_add]; congr 1; omega]
  exact Int32.add_sub_cancel _ _
theorem nI_subn {a b : Nat} (h : a < b) (hb : b < 2 ^ 30) : ¬ 0 ≤ nI a - nI b := by
  rw [Int32.le_iff_toInt_le, Int32.toInt_sub, nI_toInt (by omega), nI_toInt (by omega), Int.bmod_def, show ((2 ^ 32 : Nat) : Int) = 4294967296 from rfl, show (0 : Int32).toInt = 0 from by decide]
  split <;> omega
theorem abs_eq {a b : Nat} (ha : a ≤ 512) (hb : b ≤ 512) : ∃ j, j ≤ 512 ∧ v_abs (nI a - nI b) = nI j ∧ vM_abs (nI a - nI b) = nI j := by
  unfold v_abs vM_abs
  by_cases c : b ≤ a
  · rw [nI_sub c, if_pos (nI_pos' (by omega)), if_pos (nI_pos' (by omega))]
    exact ⟨a - b, by omega, rfl, rfl⟩
  · have hn := nI_subn (a := a) (b := b) (by omega) (by omega)
    rw [if_neg hn, if_neg hn, Int32.zero_sub, Int32.neg_sub, nI_sub (by omega)]
    exact ⟨b - a, by omega, rfl, rfl⟩
theorem byt_le {v : Int32} (h : v.toInt8.toInt32 = v) (h0 : ¬ v < 0) : ∃ j, j ≤ 127 ∧ v = nI j := by
  have h1 : v.toInt ≤ 127 := by
    rw [← h, Int8.toInt_toInt32]
    have := Int8.toInt_le v.toInt8
    have e : Int8.maxValue.toInt = 127 := by decide
    omega
  obtain ⟨j, j1, j2⟩ := nI_of h0
  refine ⟨j, ?_, j2⟩
  rw [j2, nI_toInt j1] at h1
  omega
theorem price_bd {X M : St} (hS : IS X M) {n : Int32} {k : Nat} (hn : n = nI k) (hk : k ≤ 512) : ∃ w, w ≤ 1500000 ∧ v_X4_priceOf X n = nI w := by
  have h4 : n * n * 4 = nI (k * k * 4) := by rw [hn, show (4 : Int32) = nI 4 from rfl, pk_mul, pk_mul]
  have hkk : k * k * 4 ≤ 1500000 := by
    have : k * k ≤ 512 * 512 := Nat.mul_le_mul hk hk
    omega
  unfold v_X4_priceOf
  by_cases h1 : (X 103 0) = (-9)
  · rw [if_pos h1, h4]; exact ⟨_, hkk, rfl⟩
  · rw [if_neg h1]
    by_cases h2 : (X 22) (ix (X 103 0)) = (-1)
    · rw [if_pos h2, h4]; exact ⟨_, hkk, rfl⟩
    · rw [if_neg h2]
      by_cases h3 : (X 22) (ix (X 103 0)) = 0
      · rw [if_pos h3]; exact ⟨0, by omega, rfl⟩
      · rw [if_neg h3]
        have hb := hS.2.2.2.2 (ix (X 103 0)) (in_ix (hS.2.1 h1))
        generalize (ix (if (X 22) (ix (X 103 0)) - 1 < n then (X 22) (ix (X 103 0)) - 1 else n)) = i
        by_cases c : 0 < X (43 + ix (X 103 0)) i
        · rw [if_pos c]
          obtain ⟨j, j1, j2⟩ := byt_le (hb i) (fun q => by
            rw [Int32.lt_iff_toInt_lt] at q c
            have := (by decide : (0 : Int32).toInt = 0)
            omega)
          exact ⟨j, by omega, j2⟩
        · rw [if_neg c]; exact ⟨0, by omega, rfl⟩
theorem chg_eq {k : Nat} {X M : St} {E N B : Nat} (hq : RQ X M) (hB : IB X E N) (hS : IS X M) (hW : IW X k) (hMt : IMt X B) (hk : k ≤ 512) {rp rq u v : Nat} (h1 : rp < rq) (h2 : rq < N) (hu : u < E) (ru : (X 13) u = nI rp) (gu : (X 18) u = 0) (hv : v < E) (rv : (X 13) v = nI rq) (gv : (X 18) v = 0) : (v_chg X (nI u) (nI v) = (-1) ∧ vM_chg M (nI u) (nI v) B N = (-9)) ∨ ∃ w, w ≤ 2000000 ∧ v_chg X (nI u) (nI v) = nI w ∧ vM_chg M (nI u) (nI v) B N = nI w := by
  have h16 := hB.1
  have hNE := hB.2.1
  obtain ⟨-, e2⟩ := bars_eq (M := M) hq hMt (show u < 16 by omega) (show v < 16 by omega)
  unfold v_chg vM_chg
  by_cases c : v_bars X (nI u) (nI v) = 0
  · right
    obtain ⟨a, a1, a2⟩ := hW u
    obtain ⟨b, b1, b2⟩ := hW v
    obtain ⟨j, j1, j2, j3⟩ := abs_eq (a := a) (b := b) (by omega) (by omega)
    obtain ⟨w, w1, w2⟩ := price_bd hS (rfl : nI j = nI j) j1
    rw [if_pos c, if_pos (e2.mp c), ix_nI (by omega), ix_nI (by omega), ← rq_wins hq, a2, b2, j2, j3, ← price_eq hq hS rfl (by omega), w2, ← rgS_eq hq hB hv gv, ← rgS_eq hq hB hu gu, ru, rv, nI_add, nI_sub (by omega)]
    exact ⟨w + rq - rp, by omega, rfl, rfl⟩
  · left
    rw [if_neg c, if_neg (fun q => c (e2.mpr q))]
    exact ⟨rfl, rfl⟩
/-- whom the board's order gives to the places -/
theorem who_at {X : St} {E N p : Nat} (hB : IB X E N) (hp : p < nX X N) : ∃ r u, r < N ∧ u < E ∧ whX X N p = nI u ∧ (X 20) r = nI u ∧ (X 13) u = nI r ∧ (X 18) u = 0 ∧ plC (X 19) (X 20) 0 r = p := by
  obtain ⟨r, r1, r2, r3⟩ := plR_ix (row := X 28) N p hp
  obtain ⟨u, a1, a2, a3, a4⟩ := hB.2.2.2.2.1 r r1
  exact ⟨r, u, r1, a1, r2.trans a2, a2, a3, a4, r3⟩
theorem who_lt {X : St} {p q r s : Nat} (h : p < q) (hr : plC (X 19) (X 20) 0 r = p) (hs : plC (X 19) (X 20) 0 s = q) : r < s := by
  rcases Nat.lt_or_ge r s with c | c
  · exact c
  · have := plC_mono (wi := (X 19)) (bd := (X 20)) (m := 0) r c
    omega
theorem nXM {X M : St} (hq : RQ X M) (N : Nat) : nX X N = nM M N := by
  unfold nX nM
  rw [rq_away hq, rq_board hq]
theorem whXM {X M : St} (hq : RQ X M) {N p : Nat} (hp : p < nX X N) : whX X N p = whM M N p := by
  unfold whX whM
  rw [← rq_away hq, ← rq_board hq]
  exact plR_cg N p hp
theorem pair_eq {k : Nat} {X M : St} {E N B : Nat} (hq : RQ X M) (hB : IB X E N) (hS : IS X M) (hW : IW X k) (hMt : IMt X B) (hk : k ≤ 512) {p q : Nat} (h1 : p < q) (h2 : q < nX X N) : (v_chg X (whX X N p) (whX X N q) = (-1) ∧ vM_chg M (whM M N p) (whM M N q) B N = (-9)) ∨ ∃ w, w ≤ 2000000 ∧ v_chg X (whX X N p) (whX X N q) = nI w ∧ vM_chg M (whM M N p) (whM M N q) B N = nI w := by
  obtain ⟨r, u, r1, u1, u2, u3, u4, u5, u6⟩ := who_at hB (show p < nX X N by omega)
  obtain ⟨s, v, s1, v1, v2, v3, v4, v5, v6⟩ := who_at hB h2
  rw [← whXM hq (show p < nX X N by omega), ← whXM hq h2, u2, v2]
  exact chg_eq hq hB hS hW hMt hk (who_lt h1 u6 v6) s1 u1 u4 u5 v1 v4 v5
theorem c_eq {k : Nat} {X M : St} {E N B : Nat} (hq : RQ X M) (hB : IB X E N) (hS : IS X M) (hW : IW X k) (hMt : IMt X B) (hk : k ≤ 512) : ∀ p q, p < q → q < nX X N → cM M B N p q = cX X N p q := fun p q h1 h2 => by
  unfold cM cX
  rcases pair_eq hq hB hS hW hMt hk h1 h2 with ⟨a, b⟩ | ⟨w, w1, a, b⟩
  · rw [a, b, if_pos rfl, if_pos rfl]
  · rw [a, b, if_neg (nI_m9 (by omega)), if_neg (nI_neg1 (by omega))]
def DI (X M : St) (B l : Nat) : Prop := (X 110 0) = (M 110 0) ∧ X 23 = M 15 ∧ X 24 = M 16 ∧ X 25 = M 17 ∧ X 26 = M 18 ∧ X 107 = M 107 ∧ X 108 = M 108 ∧ X 106 = M 106 ∧ X 110 = M 110 ∧ (X 107 0) = nI B ∧ (X 108 0) = nI l ∧ l = cntN (X 26) B ∧ (∀ k, k < B → ∃ u v, u < 16 ∧ v < 16 ∧ u ≠ v ∧ (X 24) k = nI u ∧ (X 25) k = nI v ∧ ((X 26) k = (-9) ∨ (X 26) k = nI u ∨ (X 26) k = nI v)) ∧ IMt X B
theorem cnt_low {f : Nat → Int32} {B : Nat} {v : Int32} : ∀ n, n ≤ B → cntN (upd f B v) n = cntN f n
  | 0, _ => rfl
  | n + 1, h => by
    unfold cntN
    rw [cnt_low n (by omega), pk_un (by omega)]
theorem mt_bit {m t b : Nat} : (m ||| 2 ^ t).testBit b = true ↔ m.testBit b = true ∨ t = b := by
  rw [Nat.testBit_or, Nat.testBit_two_pow, Bool.or_eq_true, decide_eq_true_iff]
theorem ex_suc {f g : Nat → Int32} {B u v a b : Nat} (hu : u < 16) (hv : v < 16) (ha : a < 16) (hb : b < 16) : (∃ k, k < B + 1 ∧ ((upd f B (nI u) k = nI a ∧ upd g B (nI v) k = nI b) ∨ (upd f B (nI u) k = nI b ∧ upd g B (nI v) k = nI a))) ↔ (∃ k, k < B ∧ ((f k = nI a ∧ g k = nI b) ∨ (f k = nI b ∧ g k = nI a))) ∨ (u = a ∧ v = b) ∨ (u = b ∧ v = a) := by
  constructor
  · rintro ⟨k, h1, h2⟩
    by_cases e : k = B
    · subst e
      rw [pk_us, pk_us] at h2
      rw [nI_eq (by omega) (by omega), nI_eq (by omega) (by omega), nI_eq (by omega) (by omega), nI_eq (by omega) (by omega)] at h2
      exact Or.inr h2
    · rw [pk_un e, pk_un e] at h2
      exact Or.inl ⟨k, by omega, h2⟩
  · rintro (⟨k, h1, h2⟩ | h)
    · exact ⟨k, by omega, by rw [pk_un (by omega), pk_un (by omega)]; exact h2⟩
    · refine ⟨B, by omega, ?_⟩
      rw [pk_us, pk_us]
      rcases h with ⟨c1, c2⟩ | ⟨c1, c2⟩
      · rw [c1, c2]; exact Or.inl ⟨rfl, rfl⟩
      · rw [c1, c2]; exact Or.inr ⟨rfl, rfl⟩
theorem or_lt16 {m t : Nat} (hm : m < 2 ^ 16) (ht : t < 16) : m ||| 2 ^ t < 2 ^ 16 := Nat.or_lt_two_pow hm (Nat.pow_lt_pow_right (by decide) ht)
theorem DI_add {X M : St} {B l u v : Nat} (h : DI X M B l) (hB : B < 120) (hu : u < 16) (hv : v < 16) (huv : u ≠ v) : DI (s_X6_addBout X (nI u) (nI v)) (sM_addBout M (nI u) (nI v)) (B + 1) (l + 1) := by
  obtain ⟨g1, g2, g3, g4, g5, g6, g7, g8, g9, g10, g11, g12, g13, g14⟩ := h
  have iB : ix (X 107 0) = B := by rw [g10]; exact ix_nI (by omega)
  have iu : ix (nI u) = u := ix_nI (by omega)
  have iv : ix (nI v) = v := ix_nI (by omega)
  have jB : ix (M 107 0) = B := by rw [← g6]; exact iB
  refine ⟨g1, ?_, ?_, ?_, ?_, ?_, ?_, g8, g9, ?_, ?_, ?_, fun k hk => ?_, fun a ha => ?_⟩
  · show upd (X 23) (ix (X 107 0)) (X 106 0) = upd (M 15) (ix (M 107 0)) (M 106 0)
    rw [g2, g6, g8]
  · show upd (X 24) (ix (X 107 0)) (nI u) = upd (M 16) (ix (M 107 0)) (nI u)
    rw [g3, g6]
  · show upd (X 25) (ix (X 107 0)) (nI v) = upd (M 17) (ix (M 107 0)) (nI v)
    rw [g4, g6]
  · show upd (X 26) (ix (X 107 0)) (-9) = upd (M 18) (ix (M 107 0)) (-9)
    rw [g5, g6]
  · show upd (X 107) 0 (X 107 0 + 1) = upd (M 107) 0 (M 107 0 + 1)
    rw [g6]
  · show upd (X 108) 0 (X 108 0 + 1) = upd (M 108) 0 (M 108 0 + 1)
    rw [g7]
  · show upd (X 107) 0 (X 107 0 + 1) 0 = _
    rw [pk_us, g10, nI_1]
  · show upd (X 108) 0 (X 108 0 + 1) 0 = _
    rw [pk_us, g11, nI_1]
  · show l + 1 = cntN (upd (X 26) (ix (X 107 0)) (-9)) (B + 1)
    rw [iB]
    unfold cntN
    rw [cnt_low B (Nat.le_refl _), pk_us, if_pos rfl, ← g12]
  · show ∃ u2 v2, u2 < 16 ∧ v2 < 16 ∧ u2 ≠ v2 ∧ upd (X 24) (ix (X 107 0)) (nI u) k = nI u2 ∧ upd (X 25) (ix (X 107 0)) (nI v) k = nI v2 ∧ (upd (X 26) (ix (X 107 0)) (-9) k = (-9) ∨ upd (X 26) (ix (X 107 0)) (-9) k = nI u2 ∨ upd (X 26) (ix (X 107 0)) (-9) k = nI v2)
    rw [iB]
    by_cases e : k = B
    · subst e
      exact ⟨u, v, hu, hv, huv, pk_us, pk_us, Or.inl pk_us⟩
    · rw [pk_un e, pk_un e, pk_un e]; exact g13 k (by omega)
  · show ∃ m, m < 2 ^ 16 ∧ upd (upd (X 27) (ix (nI u)) ((X 27) (ix (nI u)) ||| (1 <<< (nI v &&& 31)))) (ix (nI v)) (upd (X 27) (ix (nI u)) ((X 27) (ix (nI u)) ||| (1 <<< (nI v &&& 31))) (ix (nI v)) ||| (1 <<< (nI u &&& 31))) a = nI m ∧ ∀ b, b < 16 → (m.testBit b = true ↔ ∃ k, k < B + 1 ∧ ((upd (X 24) (ix (X 107 0)) (nI u) k = nI a ∧ upd (X 25) (ix (X 107 0)) (nI v) k = nI b) ∨ (upd (X 24) (ix (X 107 0)) (nI u) k = nI b ∧ upd (X 25) (ix (X 107 0)) (nI v) k = nI a)))
    rw [iB, iu, iv, nI_shl1 v (by omega), nI_shl1 u (by omega), pk_un (f := X 27) huv.symm]
    obtain ⟨m, m1, m2, m3⟩ := g14 a ha
    by_cases ca : a = v
    · subst ca
      rw [pk_us, m2, nI_or]
      refine ⟨m ||| 2 ^ u, or_lt16 m1 hu, rfl, fun b hb => ?_⟩
      rw [ex_suc hu hv ha hb, mt_bit, m3 b hb]
      constructor
      · rintro (c | c)
        · exact Or.inl c
        · exact Or.inr (Or.inr ⟨c, rfl⟩)
      · rintro (c | ⟨c, -⟩ | ⟨c, -⟩)
        · exact Or.inl c
        · exact absurd c huv
        · exact Or.inr c
    · rw [pk_un ca]
      by_cases cu : a = u
      · subst cu
        rw [pk_us, m2, nI_or]
        refine ⟨m ||| 2 ^ v, or_lt16 m1 hv, rfl, fun b hb => ?_⟩
        rw [ex_suc hu hv ha hb, mt_bit, m3 b hb]
        constructor
        · rintro (c | c)
          · exact Or.inl c
          · exact Or.inr (Or.inl ⟨rfl, c⟩)
        · rintro (c | ⟨-, c⟩ | ⟨-, c⟩)
          · exact Or.inl c
          · exact Or.inr c
          · exact absurd c.symm ca
      · rw [pk_un cu]
        refine ⟨m, m1, m2, fun b hb => ?_⟩
        rw [ex_suc hu hv ha hb, m3 b hb]
        constructor
        · exact Or.inl
        · rintro (c | ⟨c, -⟩ | ⟨-, c⟩)
          · exact c
          · exact absurd c.symm cu
          · exact absurd c.symm ca
theorem DE {c : Nat → Nat → Option Nat} {n B l : Nat} {wh : Nat → Int32} {X M : St} (hn : n ≤ 16) (hB : B + 8 ≤ 120) (h0 : DI (ux X 110 0 0) (ux M 110 0 0) B l) (hw : ∀ p, p < n → ∃ u, u < 16 ∧ wh p = nI u) (hd : ∀ p q, p < q → q < n → ¬ wh p = wh q) : ∀ p, p ≤ n → DI (XE c n wh X p) (ME c n wh M p) (B + cE c n p) (l + cE c n p)
  | 0, _ => h0
  | p + 1, hp => by
    have ih := DE (c := c) hn hB h0 hw hd p (by omega)
    have hb := cE_bound c n (p + 1) hp
    unfold XE ME
    by_cases hf : fT c n p p = true
    · rw [if_pos hf, if_pos hf]
      cases hs : sel c n p (fT c n p) with
      | none =>
        have e : cE c n (p + 1) = cE c n p := by
          show (if fT c n p p = true then (match sel c n p (fT c n p) with | none => cE c n p | some _ => cE c n p + 1) else cE c n p) = _
          rw [if_pos hf, hs]
        rw [e]
        obtain ⟨g1, g2, g3, g4, g5, g6, g7, g8, g9, g10, g11, g12, g13, g14⟩ := ih
        refine ⟨?_, g2, g3, g4, g5, g6, g7, g8, ?_, g10, g11, g12, g13, g14⟩
        · show upd (XE c n wh X p 110) 0 (XE c n wh X p 110 0 ||| (1 <<< (wh p &&& 31))) 0 = upd (ME c n wh M p 110) 0 (ME c n wh M p 110 0 ||| (1 <<< (wh p &&& 31))) 0
          rw [g9]
        · show upd (XE c n wh X p 110) 0 (XE c n wh X p 110 0 ||| (1 <<< (wh p &&& 31))) = upd (ME c n wh M p 110) 0 (ME c n wh M p 110 0 ||| (1 <<< (wh p &&& 31)))
          rw [g9]
      | some q =>
        have e : cE c n (p + 1) = cE c n p + 1 := by
          show (if fT c n p p = true then (match sel c n p (fT c n p) with | none => cE c n p | some _ => cE c n p + 1) else cE c n p) = _
          rw [if_pos hf, hs]
        obtain ⟨q1, q2, -⟩ := sel_some (by omega) hs
        obtain ⟨u, u1, u2⟩ := hw p (by omega)
        obtain ⟨v, v1, v2⟩ := hw q q2
        rw [e]
        show DI (s_X6_addBout _ (wh p) (wh q)) (sM_addBout _ (wh p) (wh q)) (B + cE c n p + 1) (l + cE c n p + 1)
        rw [u2, v2]
        refine DI_add ih (by omega) u1 v1 (fun q3 => hd p q q1 q2 ?_)
        rw [u2, v2, q3]
    · rw [if_neg hf, if_neg hf]
      have e : cE c n (p + 1) = cE c n p := by
        show (if fT c n p p = true then (match sel c n p (fT c n p) with | none => cE c n p | some _ => cE c n p + 1) else cE c n p) = _
        rw [if_neg hf]
      rw [e]; exact ih
theorem ls_eq {aw bd ls : Nat → Int32} : ∀ n, lsL aw bd ls n = lsM aw bd ls n
  | 0 => rfl
  | n + 1 => by
    unfold lsL lsM
    rw [ls_eq n]
    by_cases e : aw (ix (bd n)) = 0
    · rw [if_pos e, if_pos e, Int32.add_zero, upd_self]
    · rw [if_neg e, if_neg e]
set_option maxHeartbeats 1000000 in
theorem Rel_draw {k : Nat} {X M Z Z2 : St} {E N B d D l L L2 W P : Nat} {c : Nat → Nat → Option Nat} {n : Nat} {wh : Nat → Int32} {v : Int32} (hq : RQ X M) (hB : IB X E N) (hS : IS X M) (hW : IW X k) (hT : IT X B d D l) (hMt : IMt X B) (hC : IC X L) (hRa : IRa X M E) (hRb : IRb X L2 W) (hRc : IRc X E N l W) (hP : IP X M P) (hgo : ¬ (X 104 0) = 0) (hl : l = 0) (hdD : d < D) (hn : n ≤ 16) (hw : ∀ p, p < n → ∃ u, u < 16 ∧ wh p = nI u) (hd : ∀ p q, p < q → q < n → ¬ wh p = wh q)
    (hZ : ∀ a, isF a = false → Z a = ux X 109 0 v a) (hZ2 : ∀ a, isFM a = false → Z2 a = ux M 109 0 v a) : Rel (k + 1) (s_enter c n N wh Z) (sM_enter c n N wh Z2) := by
  obtain ⟨t1, t2, t3, t4, t5, t6, t7, t8, t9⟩ := id hT
  have h0 : DI (ux Z 110 0 0) (ux Z2 110 0 0) B l := by
    refine ⟨?_, ?_, ?_, ?_, ?_, ?_, ?_, ?_, ?_, ?_, ?_, ?_, ?_, ?_⟩
    · show upd (Z 110) 0 0 0 = upd (Z2 110) 0 0 0
      rw [pk_us, pk_us]
    · show Z 23 = Z2 15
      rw [hZ 23 rfl, hZ2 15 rfl]; exact @rq_day X M hq
    · show Z 24 = Z2 16
      rw [hZ 24 rfl, hZ2 16 rfl]; exact @rq_upper X M hq
    · show Z 25 = Z2 17
      rw [hZ 25 rfl, hZ2 17 rfl]; exact @rq_lower X M hq
    · show Z 26 = Z2 18
      rw [hZ 26 rfl, hZ2 18 rfl]; exact @rq_winner X M hq
    · show Z 107 = Z2 107
      rw [hZ 107 rfl, hZ2 107 rfl]; exact @rq_bouts X M hq
    · show Z 108 = Z2 108
      rw [hZ 108 rfl, hZ2 108 rfl]; exact @rq_lacking X M hq
    · show Z 106 = Z2 106
      rw [hZ 106 rfl, hZ2 106 rfl]; exact @rq_drawn X M hq
    · show upd (Z 110) 0 0 = upd (Z2 110) 0 0
      rw [hZ 110 rfl, hZ2 110 rfl]
      show upd (X 110) 0 0 = upd (M 110) 0 0
      rw [rq_satOut hq]
    · show Z 107 0 = nI B
      rw [hZ 107 rfl]; exact t1
    · show Z 108 0 = nI l
      rw [hZ 108 rfl]; exact t4
    · show l = cntN (Z 26) B
      rw [hZ 26 rfl]; exact t8
    · show ∀ k, k < B → ∃ u v, u < 16 ∧ v < 16 ∧ u ≠ v ∧ Z 24 k = nI u ∧ Z 25 k = nI v ∧ (Z 26 k = (-9) ∨ Z 26 k = nI u ∨ Z 26 k = nI v)
      rw [hZ 26 rfl, hZ 24 rfl, hZ 25 rfl]; exact t9
    · show ∀ a, a < 16 → ∃ m, m < 2 ^ 16 ∧ Z 27 a = nI m ∧ ∀ b, b < 16 → (m.testBit b = true ↔ ∃ k, k < B ∧ ((Z 24 k = nI a ∧ Z 25 k = nI b) ∨ (Z 24 k = nI b ∧ Z 25 k = nI a)))
      rw [hZ 27 rfl, hZ 24 rfl, hZ 25 rfl]; exact hMt
  obtain ⟨-, g2, g3, g4, g5, g6, g7, g8, g9, g10, g11, g12, g13, g14⟩ := DE (c := c) hn (by omega) h0 hw hd n (Nat.le_refl _)
  have hcE : 2 * cE c n n + cN n (n - n) (fT c n n) ≤ n := cE_bound c n n (Nat.le_refl _)
  obtain ⟨Y, hY⟩ : ∃ Y, Y = s_enter c n N wh Z := ⟨_, rfl⟩
  obtain ⟨M1, hM1⟩ : ∃ Y, Y = sM_enter c n N wh Z2 := ⟨_, rfl⟩
  rw [← hY, ← hM1]
  have y9 : Y 9 = X 9 := by rw [hY]; exact ((XE_row c n wh Z (a := 9) (by decide) (by decide) (by decide) (by decide) (by decide) (by decide) (by decide) (by decide) n).trans (hZ 9 rfl))
  have y10 : Y 10 = X 10 := by rw [hY]; exact ((XE_row c n wh Z (a := 10) (by decide) (by decide) (by decide) (by decide) (by decide) (by decide) (by decide) (by decide) n).trans (hZ 10 rfl))
  have y11 : Y 11 = X 11 := by rw [hY]; exact ((XE_row c n wh Z (a := 11) (by decide) (by decide) (by decide) (by decide) (by decide) (by decide) (by decide) (by decide) n).trans (hZ 11 rfl))
  have y12 : Y 12 = X 12 := by rw [hY]; exact ((XE_row c n wh Z (a := 12) (by decide) (by decide) (by decide) (by decide) (by decide) (by decide) (by decide) (by decide) n).trans (hZ 12 rfl))
  have y13 : Y 13 = X 13 := by rw [hY]; exact ((XE_row c n wh Z (a := 13) (by decide) (by decide) (by decide) (by decide) (by decide) (by decide) (by decide) (by decide) n).trans (hZ 13 rfl))
  have y14 : Y 14 = X 14 := by rw [hY]; exact ((XE_row c n wh Z (a := 14) (by decide) (by decide) (by decide) (by decide) (by decide) (by decide) (by decide) (by decide) n).trans (hZ 14 rfl))
  have y16 : Y 16 = X 16 := by rw [hY]; exact ((XE_row c n wh Z (a := 16) (by decide) (by decide) (by decide) (by decide) (by decide) (by decide) (by decide) (by decide) n).trans (hZ 16 rfl))
  have y17 : Y 17 = X 17 := by rw [hY]; exact ((XE_row c n wh Z (a := 17) (by decide) (by decide) (by decide) (by decide) (by decide) (by decide) (by decide) (by decide) n).trans (hZ 17 rfl))
  have y18 : Y 18 = X 18 := by rw [hY]; exact ((XE_row c n wh Z (a := 18) (by decide) (by decide) (by decide) (by decide) (by decide) (by decide) (by decide) (by decide) n).trans (hZ 18 rfl))
  have y19 : Y 19 = X 19 := by rw [hY]; exact ((XE_row c n wh Z (a := 19) (by decide) (by decide) (by decide) (by decide) (by decide) (by decide) (by decide) (by decide) n).trans (hZ 19 rfl))
  have y20 : Y 20 = X 20 := by rw [hY]; exact ((XE_row c n wh Z (a := 20) (by decide) (by decide) (by decide) (by decide) (by decide) (by decide) (by decide) (by decide) n).trans (hZ 20 rfl))
  have y22 : Y 22 = X 22 := by rw [hY]; exact ((XE_row c n wh Z (a := 22) (by decide) (by decide) (by decide) (by decide) (by decide) (by decide) (by decide) (by decide) n).trans (hZ 22 rfl))
  have y32 : Y 32 = X 32 := by rw [hY]; exact ((XE_row c n wh Z (a := 32) (by decide) (by decide) (by decide) (by decide) (by decide) (by decide) (by decide) (by decide) n).trans (hZ 32 rfl))
  have y33 : Y 33 = X 33 := by rw [hY]; exact ((XE_row c n wh Z (a := 33) (by decide) (by decide) (by decide) (by decide) (by decide) (by decide) (by decide) (by decide) n).trans (hZ 33 rfl))
  have y34 : Y 34 = X 34 := by rw [hY]; exact ((XE_row c n wh Z (a := 34) (by decide) (by decide) (by decide) (by decide) (by decide) (by decide) (by decide) (by decide) n).trans (hZ 34 rfl))
  have y35 : Y 35 = X 35 := by rw [hY]; exact ((XE_row c n wh Z (a := 35) (by decide) (by decide) (by decide) (by decide) (by decide) (by decide) (by decide) (by decide) n).trans (hZ 35 rfl))
  have y36 : Y 36 = X 36 := by rw [hY]; exact ((XE_row c n wh Z (a := 36) (by decide) (by decide) (by decide) (by decide) (by decide) (by decide) (by decide) (by decide) n).trans (hZ 36 rfl))
  have y37 : Y 37 = X 37 := by rw [hY]; exact ((XE_row c n wh Z (a := 37) (by decide) (by decide) (by decide) (by decide) (by decide) (by decide) (by decide) (by decide) n).trans (hZ 37 rfl))
  have y38 : Y 38 = X 38 := by rw [hY]; exact ((XE_row c n wh Z (a := 38) (by decide) (by decide) (by decide) (by decide) (by decide) (by decide) (by decide) (by decide) n).trans (hZ 38 rfl))
  have y39 : Y 39 = X 39 := by rw [hY]; exact ((XE_row c n wh Z (a := 39) (by decide) (by decide) (by decide) (by decide) (by decide) (by decide) (by decide) (by decide) n).trans (hZ 39 rfl))
  have y42 : Y 42 = X 42 := by rw [hY]; exact ((XE_row c n wh Z (a := 42) (by decide) (by decide) (by decide) (by decide) (by decide) (by decide) (by decide) (by decide) n).trans (hZ 42 rfl))
  have y43 : Y 43 = X 43 := by rw [hY]; exact ((XE_row c n wh Z (a := 43) (by decide) (by decide) (by decide) (by decide) (by decide) (by decide) (by decide) (by decide) n).trans (hZ 43 rfl))
  have y44 : Y 44 = X 44 := by rw [hY]; exact ((XE_row c n wh Z (a := 44) (by decide) (by decide) (by decide) (by decide) (by decide) (by decide) (by decide) (by decide) n).trans (hZ 44 rfl))
  have y45 : Y 45 = X 45 := by rw [hY]; exact ((XE_row c n wh Z (a := 45) (by decide) (by decide) (by decide) (by decide) (by decide) (by decide) (by decide) (by decide) n).trans (hZ 45 rfl))
  have y46 : Y 46 = X 46 := by rw [hY]; exact ((XE_row c n wh Z (a := 46) (by decide) (by decide) (by decide) (by decide) (by decide) (by decide) (by decide) (by decide) n).trans (hZ 46 rfl))
  have y100 : Y 100 = X 100 := by rw [hY]; exact ((XE_row c n wh Z (a := 100) (by decide) (by decide) (by decide) (by decide) (by decide) (by decide) (by decide) (by decide) n).trans (hZ 100 rfl))
  have y101 : Y 101 = X 101 := by rw [hY]; exact ((XE_row c n wh Z (a := 101) (by decide) (by decide) (by decide) (by decide) (by decide) (by decide) (by decide) (by decide) n).trans (hZ 101 rfl))
  have y102 : Y 102 = X 102 := by rw [hY]; exact ((XE_row c n wh Z (a := 102) (by decide) (by decide) (by decide) (by decide) (by decide) (by decide) (by decide) (by decide) n).trans (hZ 102 rfl))
  have y103 : Y 103 = X 103 := by rw [hY]; exact ((XE_row c n wh Z (a := 103) (by decide) (by decide) (by decide) (by decide) (by decide) (by decide) (by decide) (by decide) n).trans (hZ 103 rfl))
  have y104 : Y 104 = X 104 := by rw [hY]; exact ((XE_row c n wh Z (a := 104) (by decide) (by decide) (by decide) (by decide) (by decide) (by decide) (by decide) (by decide) n).trans (hZ 104 rfl))
  have y105 : Y 105 = X 105 := by rw [hY]; exact ((XE_row c n wh Z (a := 105) (by decide) (by decide) (by decide) (by decide) (by decide) (by decide) (by decide) (by decide) n).trans (hZ 105 rfl))
  have y112 : Y 112 = X 112 := by rw [hY]; exact ((XE_row c n wh Z (a := 112) (by decide) (by decide) (by decide) (by decide) (by decide) (by decide) (by decide) (by decide) n).trans (hZ 112 rfl))
  have y113 : Y 113 = X 113 := by rw [hY]; exact ((XE_row c n wh Z (a := 113) (by decide) (by decide) (by decide) (by decide) (by decide) (by decide) (by decide) (by decide) n).trans (hZ 113 rfl))
  have y114 : Y 114 = X 114 := by rw [hY]; exact ((XE_row c n wh Z (a := 114) (by decide) (by decide) (by decide) (by decide) (by decide) (by decide) (by decide) (by decide) n).trans (hZ 114 rfl))
  have y115 : Y 115 = X 115 := by rw [hY]; exact ((XE_row c n wh Z (a := 115) (by decide) (by decide) (by decide) (by decide) (by decide) (by decide) (by decide) (by decide) n).trans (hZ 115 rfl))
  have y116 : Y 116 = X 116 := by rw [hY]; exact ((XE_row c n wh Z (a := 116) (by decide) (by decide) (by decide) (by decide) (by decide) (by decide) (by decide) (by decide) n).trans (hZ 116 rfl))
  have y117 : Y 117 = X 117 := by rw [hY]; exact ((XE_row c n wh Z (a := 117) (by decide) (by decide) (by decide) (by decide) (by decide) (by decide) (by decide) (by decide) n).trans (hZ 117 rfl))
  have y118 : Y 118 = X 118 := by rw [hY]; exact ((XE_row c n wh Z (a := 118) (by decide) (by decide) (by decide) (by decide) (by decide) (by decide) (by decide) (by decide) n).trans (hZ 118 rfl))
  have y119 : Y 119 = X 119 := by rw [hY]; exact ((XE_row c n wh Z (a := 119) (by decide) (by decide) (by decide) (by decide) (by decide) (by decide) (by decide) (by decide) n).trans (hZ 119 rfl))
  have m1 : M1 1 = M 1 := by rw [hM1]; exact ((ME_row c n wh Z2 (a := 1) (by decide) (by decide) (by decide) (by decide) (by decide) (by decide) (by decide) n).trans (hZ2 1 rfl))
  have m2 : M1 2 = M 2 := by rw [hM1]; exact ((ME_row c n wh Z2 (a := 2) (by decide) (by decide) (by decide) (by decide) (by decide) (by decide) (by decide) n).trans (hZ2 2 rfl))
  have m3 : M1 3 = M 3 := by rw [hM1]; exact ((ME_row c n wh Z2 (a := 3) (by decide) (by decide) (by decide) (by decide) (by decide) (by decide) (by decide) n).trans (hZ2 3 rfl))
  have m4 : M1 4 = M 4 := by rw [hM1]; exact ((ME_row c n wh Z2 (a := 4) (by decide) (by decide) (by decide) (by decide) (by decide) (by decide) (by decide) n).trans (hZ2 4 rfl))
  have m5 : M1 5 = M 5 := by rw [hM1]; exact ((ME_row c n wh Z2 (a := 5) (by decide) (by decide) (by decide) (by decide) (by decide) (by decide) (by decide) n).trans (hZ2 5 rfl))
  have m6 : M1 6 = M 6 := by rw [hM1]; exact ((ME_row c n wh Z2 (a := 6) (by decide) (by decide) (by decide) (by decide) (by decide) (by decide) (by decide) n).trans (hZ2 6 rfl))
  have m7 : M1 7 = M 7 := by rw [hM1]; exact ((ME_row c n wh Z2 (a := 7) (by decide) (by decide) (by decide) (by decide) (by decide) (by decide) (by decide) n).trans (hZ2 7 rfl))
  have m9 : M1 9 = M 9 := by rw [hM1]; exact ((ME_row c n wh Z2 (a := 9) (by decide) (by decide) (by decide) (by decide) (by decide) (by decide) (by decide) n).trans (hZ2 9 rfl))
  have m10 : M1 10 = M 10 := by rw [hM1]; exact ((ME_row c n wh Z2 (a := 10) (by decide) (by decide) (by decide) (by decide) (by decide) (by decide) (by decide) n).trans (hZ2 10 rfl))
  have m11 : M1 11 = M 11 := by rw [hM1]; exact ((ME_row c n wh Z2 (a := 11) (by decide) (by decide) (by decide) (by decide) (by decide) (by decide) (by decide) n).trans (hZ2 11 rfl))
  have m12 : M1 12 = M 12 := by rw [hM1]; exact ((ME_row c n wh Z2 (a := 12) (by decide) (by decide) (by decide) (by decide) (by decide) (by decide) (by decide) n).trans (hZ2 12 rfl))
  have m13 : M1 13 = M 13 := by rw [hM1]; exact ((ME_row c n wh Z2 (a := 13) (by decide) (by decide) (by decide) (by decide) (by decide) (by decide) (by decide) n).trans (hZ2 13 rfl))
  have m22 : M1 22 = M 22 := by rw [hM1]; exact ((ME_row c n wh Z2 (a := 22) (by decide) (by decide) (by decide) (by decide) (by decide) (by decide) (by decide) n).trans (hZ2 22 rfl))
  have m23 : M1 23 = M 23 := by rw [hM1]; exact ((ME_row c n wh Z2 (a := 23) (by decide) (by decide) (by decide) (by decide) (by decide) (by decide) (by decide) n).trans (hZ2 23 rfl))
  have m24 : M1 24 = M 24 := by rw [hM1]; exact ((ME_row c n wh Z2 (a := 24) (by decide) (by decide) (by decide) (by decide) (by decide) (by decide) (by decide) n).trans (hZ2 24 rfl))
  have m25 : M1 25 = M 25 := by rw [hM1]; exact ((ME_row c n wh Z2 (a := 25) (by decide) (by decide) (by decide) (by decide) (by decide) (by decide) (by decide) n).trans (hZ2 25 rfl))
  have m26 : M1 26 = M 26 := by rw [hM1]; exact ((ME_row c n wh Z2 (a := 26) (by decide) (by decide) (by decide) (by decide) (by decide) (by decide) (by decide) n).trans (hZ2 26 rfl))
  have m27 : M1 27 = M 27 := by rw [hM1]; exact ((ME_row c n wh Z2 (a := 27) (by decide) (by decide) (by decide) (by decide) (by decide) (by decide) (by decide) n).trans (hZ2 27 rfl))
  have m28 : M1 28 = M 28 := by rw [hM1]; exact ((ME_row c n wh Z2 (a := 28) (by decide) (by decide) (by decide) (by decide) (by decide) (by decide) (by decide) n).trans (hZ2 28 rfl))
  have m32 : M1 32 = M 32 := by rw [hM1]; exact ((ME_row c n wh Z2 (a := 32) (by decide) (by decide) (by decide) (by decide) (by decide) (by decide) (by decide) n).trans (hZ2 32 rfl))
  have m33 : M1 33 = M 33 := by rw [hM1]; exact ((ME_row c n wh Z2 (a := 33) (by decide) (by decide) (by decide) (by decide) (by decide) (by decide) (by decide) n).trans (hZ2 33 rfl))
  have m100 : M1 100 = M 100 := by rw [hM1]; exact ((ME_row c n wh Z2 (a := 100) (by decide) (by decide) (by decide) (by decide) (by decide) (by decide) (by decide) n).trans (hZ2 100 rfl))
  have m101 : M1 101 = M 101 := by rw [hM1]; exact ((ME_row c n wh Z2 (a := 101) (by decide) (by decide) (by decide) (by decide) (by decide) (by decide) (by decide) n).trans (hZ2 101 rfl))
  have m102 : M1 102 = M 102 := by rw [hM1]; exact ((ME_row c n wh Z2 (a := 102) (by decide) (by decide) (by decide) (by decide) (by decide) (by decide) (by decide) n).trans (hZ2 102 rfl))
  have m103 : M1 103 = M 103 := by rw [hM1]; exact ((ME_row c n wh Z2 (a := 103) (by decide) (by decide) (by decide) (by decide) (by decide) (by decide) (by decide) n).trans (hZ2 103 rfl))
  have m104 : M1 104 = M 104 := by rw [hM1]; exact ((ME_row c n wh Z2 (a := 104) (by decide) (by decide) (by decide) (by decide) (by decide) (by decide) (by decide) n).trans (hZ2 104 rfl))
  have m105 : M1 105 = M 105 := by rw [hM1]; exact ((ME_row c n wh Z2 (a := 105) (by decide) (by decide) (by decide) (by decide) (by decide) (by decide) (by decide) n).trans (hZ2 105 rfl))
  have m112 : M1 112 = M 112 := by rw [hM1]; exact ((ME_row c n wh Z2 (a := 112) (by decide) (by decide) (by decide) (by decide) (by decide) (by decide) (by decide) n).trans (hZ2 112 rfl))
  have m113 : M1 113 = M 113 := by rw [hM1]; exact ((ME_row c n wh Z2 (a := 113) (by decide) (by decide) (by decide) (by decide) (by decide) (by decide) (by decide) n).trans (hZ2 113 rfl))
  have m114 : M1 114 = M 114 := by rw [hM1]; exact ((ME_row c n wh Z2 (a := 114) (by decide) (by decide) (by decide) (by decide) (by decide) (by decide) (by decide) n).trans (hZ2 114 rfl))
  have m115 : M1 115 = M 115 := by rw [hM1]; exact ((ME_row c n wh Z2 (a := 115) (by decide) (by decide) (by decide) (by decide) (by decide) (by decide) (by decide) n).trans (hZ2 115 rfl))
  have m116 : M1 116 = M 116 := by rw [hM1]; exact ((ME_row c n wh Z2 (a := 116) (by decide) (by decide) (by decide) (by decide) (by decide) (by decide) (by decide) n).trans (hZ2 116 rfl))
  have m117 : M1 117 = M 117 := by rw [hM1]; exact ((ME_row c n wh Z2 (a := 117) (by decide) (by decide) (by decide) (by decide) (by decide) (by decide) (by decide) n).trans (hZ2 117 rfl))
  have m118 : M1 118 = M 118 := by rw [hM1]; exact ((ME_row c n wh Z2 (a := 118) (by decide) (by decide) (by decide) (by decide) (by decide) (by decide) (by decide) n).trans (hZ2 118 rfl))
  have y109 : Y 109 = upd (X 109) 0 v := by rw [hY]; exact ((XE_row c n wh Z (a := 109) (by decide) (by decide) (by decide) (by decide) (by decide) (by decide) (by decide) (by decide) n).trans (hZ 109 rfl))
  have m109 : M1 109 = upd (M 109) 0 v := by rw [hM1]; exact ((ME_row c n wh Z2 (a := 109) (by decide) (by decide) (by decide) (by decide) (by decide) (by decide) (by decide) n).trans (hZ2 109 rfl))
  have y15 : Y 15 = lsL (X 19) (X 20) (X 15) N := by
    rw [hY]; show lsL (Z 19) (Z 20) (Z 15) N = _
    rw [hZ 19 rfl, hZ 20 rfl, hZ 15 rfl]; rfl
  have m8 : M1 8 = lsM (M 6) (M 11) (M 8) N := by
    rw [hM1]; show lsM (Z2 6) (Z2 11) (Z2 8) N = _
    rw [hZ2 6 rfl, hZ2 11 rfl, hZ2 8 rfl]; rfl
  have y106 : Y 106 = upd (X 106) 0 (X 106 0 + 1) := by
    rw [hY]; show upd (XE c n wh Z n 106) 0 (Z 106 0 + 1) = _
    rw [XE_row c n wh Z (a := 106) (by decide) (by decide) (by decide) (by decide) (by decide) (by decide) (by decide) (by decide) n, hZ 106 rfl]; rfl
  have m106 : M1 106 = upd (M 106) 0 (M 106 0 + 1) := by
    rw [hM1]; show upd (ME c n wh Z2 n 106) 0 (Z2 106 0 + 1) = _
    rw [ME_row c n wh Z2 (a := 106) (by decide) (by decide) (by decide) (by decide) (by decide) (by decide) (by decide) n, hZ2 106 rfl]; rfl
  refine ⟨E, N, B + cE c n n, d + 1, D, l + cE c n n, L, L2, W, P, (RQ_mk (X := Y) (M := M1) (y100.trans ((@rq_latest X M hq).trans m100.symm)) (y9.trans ((@rq_times X M hq).trans m1.symm)) (y101.trans ((@rq_ever X M hq).trans m101.symm)) (y102.trans ((@rq_standing X M hq).trans m102.symm)) (y10.trans ((@rq_kind X M hq).trans m2.symm)) (y11.trans ((@rq_stable X M hq).trans m3.symm)) (y12.trans ((@rq_kin X M hq).trans m4.symm)) (y14.trans ((@rq_wins X M hq).trans m7.symm)) (by rw [y15, m8, ls_eq, rq_away hq, rq_board hq, rq_losses hq]) (y16.trans ((@rq_titles X M hq).trans m9.symm)) (y17.trans ((@rq_marks X M hq).trans m10.symm)) (y18.trans ((@rq_gone X M hq).trans m5.symm)) (y19.trans ((@rq_away X M hq).trans m6.symm)) (y20.trans ((@rq_board X M hq).trans m11.symm)) (y22.trans ((@rq_ssize X M hq).trans m12.symm)) (y103.trans ((@rq_teller X M hq).trans m104.symm)) (y104.trans ((@rq_going X M hq).trans m103.symm)) (y105.trans ((@rq_days X M hq).trans m105.symm)) (by rw [y106, m106, rq_drawn hq]) (by rw [hY, hM1]; exact g6) (by rw [hY, hM1]; exact g7) (by rw [y109, m109]; rw [rq_cost hq]) (by rw [hY, hM1]; exact g9) (by rw [hY, hM1]; exact g2) (by rw [hY, hM1]; exact g3) (by rw [hY, hM1]; exact g4) (by rw [hY, hM1]; exact g5) (y112.trans ((@rq_lines X M hq).trans m112.symm)) (y32.trans ((@rq_low X M hq).trans m22.symm)) (y33.trans ((@rq_high X M hq).trans m23.symm)) (y34.trans ((@rq_up X M hq).trans m24.symm)) (y115.trans ((@rq_wtimes X M hq).trans m113.symm)) (y116.trans ((@rq_fresh X M hq).trans m114.symm)) (y114.trans ((@rq_linesThen X M hq).trans m115.symm)) (y35.trans ((@rq_former X M hq).trans m32.symm)) (y42.trans ((@rq_row X M hq).trans m33.symm)) (y118.trans ((@rq_begun X M hq).trans m116.symm)) (y119.trans ((@rq_holder X M hq).trans m118.symm))), ?_, ?_, ?_, ?_, ?_, ?_, ?_, ?_, ?_, ?_⟩
  · unfold IB; rw [y101, y102, y20, y13, y18]; exact hB
  · exact IS_cg hS y22 y103 (i4 y43 y44 y45 y46) m13
  · unfold IW; rw [y14]; exact IW_mono hW
  · unfold IT
    rw [y106, y105, pk_us, t2, nI_1]
    refine ⟨by rw [hY]; exact g10, rfl, t3, by rw [hY]; exact g11, by omega, t6, by omega, by rw [hY]; exact g12, by rw [hY]; exact g13⟩
  · rw [hY]; exact g14
  · unfold IC; rw [y112]; exact hC
  · unfold IRa; rw [y18, y38, y36, y37, y39, m25, m26, m27, m28]; exact hRa
  · unfold IRb; rw [y114, y113, y35]; exact hRb
  · intro q
    rw [y116] at q
    exact absurd (hRc q).2.2.2.2.2 hgo
  · unfold IP; rw [y117, y42, y118, y104, m117]; exact hP
theorem goDD {X M : St} {B d D l : Nat} (hq : RQ X M) (hT : IT X B d D l) : goD X ↔ goDM M := by
  obtain ⟨t1, t2, t3, t4, t5, t6, -⟩ := hT
  unfold goD goDM
  rw [← rq_going hq, ← rq_lacking hq, ← rq_drawn hq, ← rq_days hq, t2, t3]
  have e : nI d < nI D ↔ ¬ nI d = nI D := by
    rw [nI_ltI (by omega) (by omega), nI_eq (by omega) (by omega)]; omega
  rw [e]
theorem goD_d {X : St} {B d D l : Nat} (hT : IT X B d D l) (h : goD X) : d < D ∧ l = 0 := by
  obtain ⟨t1, t2, t3, t4, t5, t6, t7, t8, t9⟩ := hT
  obtain ⟨-, h2, h3⟩ := h
  have hl : l < 2 ^ 31 := by
    have : ∀ n, cntN (X 26) n ≤ n := fun n => by
      induction n with
      | zero => exact Nat.le_refl _
      | succ n ih =>
        show cntN (X 26) n + (if (X 26) n = (-9) then 1 else 0) ≤ n + 1
        by_cases e : (X 26) n = (-9)
        · rw [if_pos e]; omega
        · rw [if_neg e]; omega
    have := this B
    omega
  rw [t2, t3] at h3
  refine ⟨(nI_ltI (by omega) (by omega)).mp h3, ?_⟩
  rw [t4] at h2
  rcases Nat.eq_zero_or_pos l with e | e
  · exact e
  · exact absurd (nI_lt (a := 0) e hl) h2
theorem abs_ex {k : Nat} {X M : St} {E N : Nat} (hB : IB X E N) (hW : IW X k) (hk : k ≤ 512) {p q : Nat} (h1 : p < q) (h2 : q < nX X N) : ∃ j, j < 2 ^ 31 ∧ v_abs ((X 14) (ix (whX X N p)) - (X 14) (ix (whX X N q))) = nI j ∧ vM_abs ((X 14) (ix (whX X N p)) - (X 14) (ix (whX X N q))) = nI j := by
  obtain ⟨a, a1, a2⟩ := hW (ix (whX X N p))
  obtain ⟨b, b1, b2⟩ := hW (ix (whX X N q))
  obtain ⟨j, j1, j2, j3⟩ := abs_eq (a := a) (b := b) (by omega) (by omega)
  rw [a2, b2]
  exact ⟨j, by omega, j2, j3⟩
set_option maxHeartbeats 1000000 in
theorem law_draw {k : Nat} {X M : St} (h : Rel k X M) (hk512 : k < 512) (G H : Gx) : ∃ PX PM : Int32 → St → Prop, (∀ l D, Ci l yX8_draw cX8_draw 1 (some .int) 20 (xw G) D (tyG G) [.ref (G.1 0)] X PX) ∧ (∀ l D, Ci l yX9_draw cX9_draw 8 (some .int) 2 (mw H) D (tyG H) [.ref (H.1 0)] M PM) ∧ ∀ r X1 r2 M1, PX r X1 → PM r2 M1 → r = r2 ∧ Rel (k + 1) X1 M1 := by
  obtain ⟨E, N, B, d, D, l, L, L2, W, P, hq, hB, hS, hW, hT, hMt, hC, hRa, hRb, hRc, hP⟩ := id h
  have hN16 : N ≤ 16 := Nat.le_trans hB.2.1 hB.1
  have h112 : goD X → B + 8 ≤ 120 := fun g => by
    have := (goD_d hT g).1
    obtain ⟨-, -, -, -, t5, t6, t7, -⟩ := hT
    omega
  have hn := nXM hq N
  have hpe := fun p q (h1 : p < q) (h2 : q < nX X N) => pair_eq hq hB hS hW hMt (show k ≤ 512 by omega) h1 h2
  have hc := c_eq hq hB hS hW hMt (show k ≤ 512 by omega)
  refine ⟨_, _, fun l D => c_X8_draw l D G N B X hB.2.2.2.1 hN16 (IB_in hB) hT.1 h112 hS.2.1 hS.1 (fun p q h1 h2 => ?_) (fun p q h1 h2 => ?_), fun l D => c_X9_draw l D H B N M ((congrFun (rq_standing hq) 0).symm.trans hB.2.2.2.1) hN16 (rq_board hq ▸ IB_in hB) ((congrFun (rq_bouts hq) 0).symm.trans hT.1) (IT_120 hT) (fun g => h112 ((goDD hq hT).mpr g)) (rq_teller hq ▸ hS.2.1) (rq_ssize hq ▸ hS.1) (fun p q h1 h2 => ?_) (fun p q h1 h2 => ?_), ?_⟩
  · obtain ⟨j, j1, j2, -⟩ := abs_ex (M := M) hB hW (show k ≤ 512 by omega) h1 h2
    exact ⟨j, j1, j2⟩
  · rcases hpe p q h1 h2 with ⟨a, -⟩ | ⟨w, w1, a, -⟩
    · exact Or.inl a
    · exact Or.inr ⟨w, w1, a⟩
  · rw [← hn] at h2
    obtain ⟨j, j1, -, j2⟩ := abs_ex (M := M) hB hW (show k ≤ 512 by omega) h1 h2
    rw [← whXM hq (show p < nX X N by omega), ← whXM hq h2, ← rq_wins hq]
    exact ⟨j, j1, j2⟩
  · rw [← hn] at h2
    rcases hpe p q h1 h2 with ⟨-, a⟩ | ⟨w, w1, -, a⟩
    · exact Or.inl a
    · exact Or.inr ⟨w, w1, a⟩
  · rintro r X1 r2 M1 ⟨e1, p1⟩ ⟨e2, p2⟩
    have ecE : cE (cM M B N) (nX X N) (nX X N) = cE (cX X N) (nX X N) (nX X N) := cE_cg hc (nX X N) (Nat.le_refl _)
    refine ⟨?_, ?_⟩
    · rw [e1, e2]
      obtain ⟨t1, t2, t3, t4, t5, t6, -⟩ := hT
      unfold v_draw vM_draw
      rw [← hn, ecE, ← rq_going hq, ← rq_lacking hq, ← rq_drawn hq, ← rq_days hq, t2, t3]
      by_cases c1 : (X 104 0) = 0
      · rw [if_pos c1, if_pos c1]
      · rw [if_neg c1, if_neg c1]
        by_cases c2 : 0 < (X 108 0)
        · rw [if_pos c2, if_pos c2]
        · rw [if_neg c2, if_neg c2]
          by_cases c3 : d = D
          · rw [if_neg (show ¬ nI d < nI D from nI_nlt (by omega) (by omega)), if_pos (by rw [c3])]
          · rw [if_pos (nI_lt (by omega) (by omega)), if_neg (fun q => c3 ((nI_eq (by omega) (by omega)).mp q))]
    · rcases p1 with ⟨g1, x1⟩ | ⟨g1, Z, z1, x1⟩
      · rcases p2 with ⟨g2, x2⟩ | ⟨g2, -⟩
        · rw [x1, x2]; exact Rel_mono h
        · exact absurd ((goDD hq hT).mpr g2) g1
      · rcases p2 with ⟨g2, -⟩ | ⟨g2, Z2, z2, x2⟩
        · exact absurd ((goDD hq hT).mp g1) g2
        · rw [x1, x2, ← hn]
          rw [← hn, lpc_congr hc (nX X N) (fun _ => true) (fun _ => true) (Nat.le_refl _) (fun _ _ _ => rfl)] at z2
          have es : sM_enter (cM M B N) (nX X N) N (whM M N) Z2 = sM_enter (cX X N) (nX X N) N (whX X N) Z2 := by
            unfold sM_enter
            rw [ME_cg hc (fun p hp => (whXM hq hp).symm) (nX X N) (Nat.le_refl _)]
          rw [es]
          obtain ⟨d1, d2⟩ := goD_d hT g1
          have hn16 : nX X N ≤ 16 := Nat.le_trans (plC_le _ _ _ _) hN16
          refine Rel_draw hq hB hS hW hT hMt hC hRa hRb hRc hP g1.1 d2 d1 hn16 (fun p hp => ?_) (fun p q h1 h2 e => ?_) z1 z2
          · obtain ⟨r, u, r1, u1, u2, -⟩ := who_at hB hp
            exact ⟨u, by have := hB.1; omega, u2⟩
          · obtain ⟨r, u, r1, u1, u2, u3, u4, u5, u6⟩ := who_at hB (show p < nX X N by omega)
            obtain ⟨s, v, s1, v1, v2, v3, v4, v5, v6⟩ := who_at hB h2
            have := who_lt h1 u6 v6
            have := IB_inj hB (a := r) (b := s) r1 s1 (by rw [u3, v3, ← u2, ← v2, e])
            omega