
/-! the cheapest fitting, as a pure value: places 0 .. n-1, costs c (none: barred), those left by a predicate -/
def rmv (f : Nat → Bool) (q : Nat) : Nat → Bool := fun i => if i = q then false else f i
def mQ (c : Nat → Nat → Option Nat) (p : Nat) (f : Nat → Bool) (L : (Nat → Bool) → Nat) : Nat → Nat
  | 0 => 10000 + L f
  | i + 1 => if f (p + 1 + i) = true then (match c p (p + 1 + i) with
    | none => mQ c p f L i
    | some w => Nat.min (mQ c p f L i) (w + L (rmv f (p + 1 + i)))) else mQ c p f L i
def lpc (c : Nat → Nat → Option Nat) (n : Nat) : Nat → (Nat → Bool) → Nat
  | 0, _ => 0
  | k + 1, f => if f (n - (k + 1)) = true then mQ c (n - (k + 1)) f (lpc c n k) k else lpc c n k f
theorem mQ_le0 {c : Nat → Nat → Option Nat} {p : Nat} {f : Nat → Bool} {L : (Nat → Bool) → Nat} : ∀ i, mQ c p f L i ≤ 10000 + L f
  | 0 => Nat.le_refl _
  | i + 1 => by
    have ih := mQ_le0 (c := c) (p := p) (f := f) (L := L) i
    unfold mQ
    split
    · split
      · exact ih
      · exact Nat.le_trans (Nat.min_le_left _ _) ih
    · exact ih
theorem mQ_leq {c : Nat → Nat → Option Nat} {p : Nat} {f : Nat → Bool} {L : (Nat → Bool) → Nat} {j w : Nat} (hf : f (p + 1 + j) = true) (hc : c p (p + 1 + j) = some w) : ∀ i, j < i → mQ c p f L i ≤ w + L (rmv f (p + 1 + j))
  | 0, h => absurd h (Nat.not_lt_zero _)
  | i + 1, h => by
    by_cases e : j = i
    · subst e
      unfold mQ
      rw [if_pos hf, hc]
      exact Nat.min_le_right _ _
    · have ih := mQ_leq (L := L) hf hc i (by omega)
      unfold mQ
      split
      · split
        · exact ih
        · exact Nat.le_trans (Nat.min_le_left _ _) ih
      · exact ih
theorem mQ_mem {c : Nat → Nat → Option Nat} {p : Nat} {f : Nat → Bool} {L : (Nat → Bool) → Nat} : ∀ i, mQ c p f L i = 10000 + L f ∨ ∃ j w, j < i ∧ f (p + 1 + j) = true ∧ c p (p + 1 + j) = some w ∧ mQ c p f L i = w + L (rmv f (p + 1 + j))
  | 0 => Or.inl rfl
  | i + 1 => by
    have ih := mQ_mem (c := c) (p := p) (f := f) (L := L) i
    have keep : mQ c p f L (i + 1) = mQ c p f L i → (mQ c p f L (i + 1) = 10000 + L f ∨ ∃ j w, j < i + 1 ∧ f (p + 1 + j) = true ∧ c p (p + 1 + j) = some w ∧ mQ c p f L (i + 1) = w + L (rmv f (p + 1 + j))) := by
      intro e
      rw [e]
      rcases ih with h | ⟨j, w, h1, h2, h3, h4⟩
      · exact Or.inl h
      · exact Or.inr ⟨j, w, by omega, h2, h3, h4⟩
    by_cases hf : f (p + 1 + i) = true
    · cases hc : c p (p + 1 + i) with
      | none => exact keep (by rw [mQ, if_pos hf, hc])
      | some w =>
        have e : mQ c p f L (i + 1) = Nat.min (mQ c p f L i) (w + L (rmv f (p + 1 + i))) := by rw [mQ, if_pos hf, hc]
        rcases Nat.le_total (mQ c p f L i) (w + L (rmv f (p + 1 + i))) with h | h
        · exact keep (by rw [e]; exact Nat.min_eq_left h)
        · exact Or.inr ⟨i, w, by omega, hf, hc, by rw [e]; exact Nat.min_eq_right h⟩
    · exact keep (by rw [mQ, if_neg hf])
theorem mQ_uniq {c : Nat → Nat → Option Nat} {p : Nat} {f : Nat → Bool} {L : (Nat → Bool) → Nat} {i b : Nat} (h0 : b ≤ 10000 + L f) (hq : ∀ j w, j < i → f (p + 1 + j) = true → c p (p + 1 + j) = some w → b ≤ w + L (rmv f (p + 1 + j))) (hm : b = 10000 + L f ∨ ∃ j w, j < i ∧ f (p + 1 + j) = true ∧ c p (p + 1 + j) = some w ∧ b = w + L (rmv f (p + 1 + j))) : b = mQ c p f L i := by
  apply Nat.le_antisymm
  · rcases mQ_mem (c := c) (p := p) (f := f) (L := L) i with h | ⟨j, w, h1, h2, h3, h4⟩
    · rw [h]; exact h0
    · rw [h4]; exact hq j w h1 h2 h3
  · rcases hm with h | ⟨j, w, h1, h2, h3, h4⟩
    · rw [h]; exact mQ_le0 i
    · rw [h4]; exact mQ_leq h2 h3 i h1
theorem mQ_congr {c c2 : Nat → Nat → Option Nat} {p : Nat} {f g : Nat → Bool} {L L2 : (Nat → Bool) → Nat} (h0 : L f = L2 g) : ∀ i, (∀ j, j < i → f (p + 1 + j) = g (p + 1 + j)) → (∀ j, j < i → c p (p + 1 + j) = c2 p (p + 1 + j)) → (∀ j, j < i → L (rmv f (p + 1 + j)) = L2 (rmv g (p + 1 + j))) → mQ c p f L i = mQ c2 p g L2 i
  | 0, _, _, _ => by unfold mQ; rw [h0]
  | i + 1, h1, h2, h3 => by
    have ih := mQ_congr h0 i (fun j hj => h1 j (by omega)) (fun j hj => h2 j (by omega)) (fun j hj => h3 j (by omega))
    unfold mQ
    rw [h1 i (by omega), h2 i (by omega), h3 i (by omega), ih]
theorem lpc_congr {c c2 : Nat → Nat → Option Nat} {n : Nat} (hc : ∀ p q, p < q → q < n → c p q = c2 p q) : ∀ k f g, k ≤ n → (∀ q, n - k ≤ q → q < n → f q = g q) → lpc c n k f = lpc c2 n k g
  | 0, _, _, _, _ => rfl
  | k + 1, f, g, hk, h => by
    have hp : f (n - (k + 1)) = g (n - (k + 1)) := h _ (Nat.le_refl _) (by omega)
    unfold lpc
    rw [hp]
    split
    · refine mQ_congr (lpc_congr hc k f g (by omega) (fun q h1 h2 => h q (by omega) h2)) k (fun j hj => h _ (by omega) (by omega)) (fun j hj => hc _ _ (by omega) (by omega)) (fun j hj => lpc_congr hc k _ _ (by omega) (fun q h1 h2 => ?_))
      unfold rmv
      rw [h q (by omega) h2]
    · exact lpc_congr hc k f g (by omega) (fun q h1 h2 => h q (by omega) h2)
theorem lpc_eq {c : Nat → Nat → Option Nat} {n k : Nat} {f g : Nat → Bool} (hk : k ≤ n) (h : ∀ q, n - k ≤ q → q < n → f q = g q) : lpc c n k f = lpc c n k g := lpc_congr (fun _ _ _ _ => rfl) k f g hk h
theorem lpc_bound {c : Nat → Nat → Option Nat} {n : Nat} : ∀ k f, lpc c n k f ≤ 10000 * k
  | 0, _ => Nat.le_refl _
  | k + 1, f => by
    have ih := lpc_bound (c := c) (n := n) k f
    unfold lpc
    split
    · exact Nat.le_trans (mQ_le0 k) (by omega)
    · omega
theorem lpc_skip {c : Nat → Nat → Option Nat} {n j : Nat} {f : Nat → Bool} : ∀ k, j ≤ k → k ≤ n → (∀ q, n - k ≤ q → q < n - j → f q = false) → lpc c n k f = lpc c n j f
  | 0, h, _, _ => by rw [Nat.le_zero.mp h]
  | k + 1, h, hk, hf => by
    by_cases e : j = k + 1
    · rw [e]
    · have h1 : f (n - (k + 1)) = false := hf _ (Nat.le_refl _) (by omega)
      conv => lhs; unfold lpc
      rw [h1]
      exact lpc_skip k (by omega) (by omega) (fun q h2 h3 => hf q (by omega) h3)
theorem lpc_none {c : Nat → Nat → Option Nat} {n k : Nat} {f : Nat → Bool} (hk : k ≤ n) (h : ∀ q, n - k ≤ q → q < n → f q = false) : lpc c n k f = 0 := lpc_skip (j := 0) k (Nat.zero_le _) hk (fun q h1 h2 => h q h1 (by omega))
/-- at a place that is there -/
theorem lpc_at {c : Nat → Nat → Option Nat} {n p : Nat} {f : Nat → Bool} (hp : p < n) (hf : f p = true) : lpc c n (n - p) f = mQ c p f (lpc c n (n - p - 1)) (n - p - 1) := by
  obtain ⟨k, hk⟩ : ∃ k, n - p = k + 1 := ⟨n - p - 1, by omega⟩
  have e : n - (k + 1) = p := by omega
  rw [hk, lpc, e, if_pos hf]
  rfl
theorem lpc_off {c : Nat → Nat → Option Nat} {n p : Nat} {f : Nat → Bool} (hp : p < n) (hf : f p = false) : lpc c n (n - p) f = lpc c n (n - p - 1) f := by
  refine lpc_skip (n - p) (by omega) (by omega) (fun q h1 h2 => ?_)
  rw [show q = p by omega, hf]
/-- the first mate that keeps the cost -/
def fm (c : Nat → Nat → Option Nat) (p : Nat) (f : Nat → Bool) (L : (Nat → Bool) → Nat) (ow : Nat) : Nat → Nat → Option Nat
  | 0, _ => none
  | j + 1, q => if f q = true then (match c p q with
    | none => fm c p f L ow j (q + 1)
    | some w => if w + L (rmv f q) = ow then some q else fm c p f L ow j (q + 1)) else fm c p f L ow j (q + 1)
def sel (c : Nat → Nat → Option Nat) (n p : Nat) (f : Nat → Bool) : Option Nat := fm c p f (lpc c n (n - p - 1)) (lpc c n (n - p) f) (n - p - 1) (p + 1)
def fT (c : Nat → Nat → Option Nat) (n : Nat) : Nat → Nat → Bool
  | 0 => fun _ => true
  | p + 1 => if fT c n p p = true then (match sel c n p (fT c n p) with
    | none => fT c n p
    | some q => rmv (fT c n p) q) else fT c n p
theorem fm_some {c : Nat → Nat → Option Nat} {p : Nat} {f : Nat → Bool} {L : (Nat → Bool) → Nat} {ow r : Nat} : ∀ j q, fm c p f L ow j q = some r → q ≤ r ∧ r < q + j ∧ f r = true ∧ ∃ w, c p r = some w ∧ w + L (rmv f r) = ow
  | 0, q, h => by unfold fm at h; cases h
  | j + 1, q, h => by
    have go : fm c p f L ow j (q + 1) = some r → q ≤ r ∧ r < q + (j + 1) ∧ f r = true ∧ ∃ w, c p r = some w ∧ w + L (rmv f r) = ow := by
      intro h2
      obtain ⟨a, b, d⟩ := fm_some j (q + 1) h2
      exact ⟨by omega, by omega, d⟩
    unfold fm at h
    by_cases hf : f q = true
    · rw [if_pos hf] at h
      cases hc : c p q with
      | none => rw [hc] at h; exact go h
      | some w =>
        rw [hc] at h
        simp only at h
        by_cases e : w + L (rmv f q) = ow
        · rw [if_pos e] at h
          cases h
          exact ⟨Nat.le_refl _, by omega, hf, w, hc, e⟩
        · rw [if_neg e] at h
          exact go h
    · rw [if_neg hf] at h
      exact go h
theorem fm_none {c : Nat → Nat → Option Nat} {p : Nat} {f : Nat → Bool} {L : (Nat → Bool) → Nat} {ow : Nat} : ∀ j q, fm c p f L ow j q = none → ∀ r w, q ≤ r → r < q + j → f r = true → c p r = some w → ¬ w + L (rmv f r) = ow
  | 0, q, _, r, w, h1, h2, _, _ => by omega
  | j + 1, q, h, r, w, h1, h2, h3, h4 => by
    unfold fm at h
    by_cases e : r = q
    · subst e
      rw [if_pos h3, h4] at h
      simp only at h
      intro e2
      rw [if_pos e2] at h
      cases h
    · have go : fm c p f L ow j (q + 1) = none → ¬ w + L (rmv f r) = ow := fun h5 => fm_none j (q + 1) h5 r w (by omega) (by omega) h3 h4
      by_cases hf : f q = true
      · rw [if_pos hf] at h
        cases hc : c p q with
        | none => rw [hc] at h; exact go h
        | some v =>
          rw [hc] at h
          simp only at h
          by_cases e2 : v + L (rmv f q) = ow
          · rw [if_pos e2] at h; cases h
          · rw [if_neg e2] at h; exact go h
      · rw [if_neg hf] at h
        exact go h
theorem sel_some {c : Nat → Nat → Option Nat} {n p q : Nat} {f : Nat → Bool} (hp : p < n) (h : sel c n p f = some q) : p < q ∧ q < n ∧ f q = true ∧ ∃ w, c p q = some w ∧ w + lpc c n (n - p - 1) (rmv f q) = lpc c n (n - p) f := by
  obtain ⟨a, b, d⟩ := fm_some _ _ h
  exact ⟨by omega, by omega, d⟩
theorem sel_none {c : Nat → Nat → Option Nat} {n p : Nat} {f : Nat → Bool} (hp : p < n) (hf : f p = true) (h : sel c n p f = none) : lpc c n (n - p) f = 10000 + lpc c n (n - p - 1) f := by
  rw [lpc_at hp hf]
  rcases mQ_mem (c := c) (p := p) (f := f) (L := lpc c n (n - p - 1)) (n - p - 1) with h1 | ⟨j, w, h1, h2, h3, h4⟩
  · exact h1
  · have := fm_none _ _ h (p + 1 + j) w (by omega) (by omega) h2 h3
    rw [lpc_at hp hf] at this
    exact absurd h4.symm this
/-- bits -/
def fX (n m : Nat) : Nat → Bool := fun p => m.testBit (n - 1 - p)
theorem nI_and (a b : Nat) : nI a &&& nI b = nI (a &&& b) := by
  apply Int32.toBitVec_inj.mp
  show BitVec.ofNat 32 a &&& BitVec.ofNat 32 b = BitVec.ofNat 32 (a &&& b)
  apply BitVec.eq_of_toNat_eq
  simp [BitVec.toNat_and, BitVec.toNat_ofNat, Nat.and_mod_two_pow]
theorem nI_xor (a b : Nat) : nI a ^^^ nI b = nI (a ^^^ b) := by
  apply Int32.toBitVec_inj.mp
  show BitVec.ofNat 32 a ^^^ BitVec.ofNat 32 b = BitVec.ofNat 32 (a ^^^ b)
  apply BitVec.eq_of_toNat_eq
  simp [BitVec.toNat_xor, BitVec.toNat_ofNat, Nat.xor_mod_two_pow]
theorem nI_or (a b : Nat) : nI a ||| nI b = nI (a ||| b) := by
  apply Int32.toBitVec_inj.mp
  show BitVec.ofNat 32 a ||| BitVec.ofNat 32 b = BitVec.ofNat 32 (a ||| b)
  apply BitVec.eq_of_toNat_eq
  simp [BitVec.toNat_or, BitVec.toNat_ofNat, Nat.or_mod_two_pow]
theorem nI_shl1 : ∀ t, t < 31 → (1 : Int32) <<< (nI t &&& 31) = nI (2 ^ t) := by decide +kernel
theorem nI_shr1 {t : Nat} (h : t < 30) : nI (2 ^ (t + 1)) >>> ((1 : Int32) &&& 31) = nI (2 ^ t) := by
  have h2 : ∀ t, t < 30 → nI (2 ^ (t + 1)) >>> ((1 : Int32) &&& 31) = nI (2 ^ t) := by decide +kernel
  exact h2 t h
theorem and_bit (m t : Nat) : (m &&& 2 ^ t = 0) ↔ m.testBit t = false := by
  constructor
  · intro h
    cases hb : m.testBit t with
    | false => rfl
    | true =>
      have : (m &&& 2 ^ t).testBit t = true := by rw [Nat.testBit_and, hb, Nat.testBit_two_pow_self]; rfl
      rw [h] at this
      simp at this
  · intro h
    apply Nat.eq_of_testBit_eq
    intro i
    rw [Nat.testBit_and, Nat.zero_testBit]
    by_cases e : i = t
    · rw [e, h]; rfl
    · rw [Nat.testBit_two_pow_of_ne (Ne.symm e)]; simp
theorem nI_bit {m t : Nat} (hm : m < 2 ^ 31) : (nI m &&& nI (2 ^ t) = 0) ↔ m.testBit t = false := by
  rw [nI_and, ← and_bit]
  have hlt : m &&& 2 ^ t < 2 ^ 31 := Nat.lt_of_le_of_lt Nat.and_le_left hm
  exact nI_eq hlt (by decide : 0 < 2 ^ 31)
theorem xor_bit {m t : Nat} (h : m.testBit t = true) (i : Nat) : (m ^^^ 2 ^ t).testBit i = if i = t then false else m.testBit i := by
  rw [Nat.testBit_xor]
  by_cases e : i = t
  · rw [if_pos e, e, h, Nat.testBit_two_pow_self]; rfl
  · rw [if_neg e, Nat.testBit_two_pow_of_ne (Ne.symm e)]; simp
theorem xor_lt {m t k : Nat} (hm : m < 2 ^ k) (ht : t < k) : m ^^^ 2 ^ t < 2 ^ k := Nat.xor_lt_two_pow hm (Nat.pow_lt_pow_right (by decide) ht)
theorem low_of {m t : Nat} (hm : m < 2 ^ (t + 1)) (hb : m.testBit t = false) : m < 2 ^ t := by
  apply Nat.lt_pow_two_of_testBit
  intro i hi
  by_cases e : i = t
  · rw [e]; exact hb
  · exact Nat.testBit_lt_two_pow (Nat.lt_of_lt_of_le hm (Nat.pow_le_pow_right (by decide) (by omega)))
theorem xor_top {m t : Nat} (hm : m < 2 ^ (t + 1)) (hb : m.testBit t = true) : m ^^^ 2 ^ t < 2 ^ t := by
  apply low_of (xor_lt hm (by omega))
  rw [xor_bit hb, if_pos rfl]
theorem nI_m1all : (-1 : Int32) = nI (2 ^ 32 - 1) := by decide
theorem andnot {m t : Nat} (hm : m < 2 ^ 31) (ht : t < 31) (hb : m.testBit t = true) : nI m &&& (nI (2 ^ t) ^^^ (-1)) = nI (m ^^^ 2 ^ t) := by
  rw [nI_m1all, nI_xor, nI_and]
  congr 1
  apply Nat.eq_of_testBit_eq
  intro i
  rw [Nat.testBit_and, Nat.testBit_xor, xor_bit hb, Nat.testBit_two_pow_sub_one]
  by_cases e : i = t
  · rw [if_pos e, e, Nat.testBit_two_pow_self, decide_eq_true (by omega : t < 32)]; simp
  · rw [if_neg e, Nat.testBit_two_pow_of_ne (Ne.symm e)]
    by_cases h : i < 32
    · rw [decide_eq_true h]; simp
    · have : m.testBit i = false := Nat.testBit_lt_two_pow (Nat.lt_of_lt_of_le hm (Nat.pow_le_pow_right (by decide) (by omega)))
      rw [this]; rfl
theorem fX_rmv {n m q : Nat} (hq : q < n) (h : fX n m q = true) {i : Nat} (hi : i < n) : fX n (m ^^^ 2 ^ (n - 1 - q)) i = rmv (fX n m) q i := by
  unfold fX rmv
  rw [xor_bit h]
  by_cases e : i = q
  · rw [if_pos e, if_pos (by rw [e])]
  · rw [if_neg e, if_neg (by omega)]
theorem fX_low {n m k p : Nat} (hm : m < 2 ^ k) (hp : p < n - k) (hn : k ≤ n) : fX n m p = false := by
  unfold fX
  exact Nat.testBit_lt_two_pow (Nat.lt_of_lt_of_le hm (Nat.pow_le_pow_right (by decide) (by omega)))
def Memo (c : Nat → Nat → Option Nat) (n : Nat) (g : Nat → Int32) : Prop := ∀ m, m < 8192 → m < 2 ^ n → g m = 0 ∨ g m = nI (lpc c n n (fX n m) + 1)
def FOK (c : Nat → Nat → Option Nat) (n : Nat) (X : St) : Prop := n ≤ 16 ∧ (X 111 0) = nI n ∧ (∀ p q, p < q → q < n → (c p q = none ∧ X (47 + p) q = (-1)) ∨ ∃ w, c p q = some w ∧ w ≤ 2000000 ∧ X (47 + p) q = nI w) ∧ Memo c n (X 31)
theorem FOK_least {c : Nat → Nat → Option Nat} {n : Nat} {X : St} {g : Nat → Int32} (h : FOK c n X) (hg : Memo c n g) : FOK c n (sr X 31 g) := by
  obtain ⟨h1, h2, h3, h4⟩ := h
  refine ⟨h1, h2, fun p q hp hq => ?_, hg⟩
  have e : sr X 31 g (47 + p) = X (47 + p) := sr_n _ _ (by omega)
  rw [e]
  exact h3 p q hp hq
theorem Memo_put {c : Nat → Nat → Option Nat} {n : Nat} {g : Nat → Int32} {m v : Nat} (h : Memo c n g) (hv : v = lpc c n n (fX n m)) : Memo c n (upd g m (nI (v + 1))) := by
  intro q hq hq2
  simp only [upd]
  by_cases e : q = m
  · rw [if_pos e, hv, e]; exact Or.inr rfl
  · rw [if_neg e]; exact h q hq hq2
theorem lpc_full {c : Nat → Nat → Option Nat} {n k m : Nat} (hk : k ≤ n) (hm : m < 2 ^ k) : lpc c n n (fX n m) = lpc c n k (fX n m) := lpc_skip n hk (Nat.le_refl _) (fun q _ h2 => fX_low hm h2 hk)
