theorem lo_0 (f : Nat → Int32) : listOf f 0 = [] := by
  unfold listOf; rw [List.range_zero, List.map_nil]
theorem lo_cg {f g : Nat → Int32} {n : Nat} (h : ∀ r, r < n → f r = g r) : listOf f n = listOf g n := by
  induction n with
  | zero => rw [lo_0, lo_0]
  | succ n ih => rw [lo_succ, lo_succ, ih (fun r hr => h r (by omega)), h n (by omega)]
theorem lo_inj {f : Nat → Int32} {n : Nat} (h : (listOf f n).Nodup) : ∀ a b, a < n → b < n → ix (f a) = ix (f b) → a = b := fun a b ha hb e => by
  unfold listOf List.Nodup at h
  rw [List.pairwise_map, List.pairwise_iff_getElem] at h
  have key : ∀ a b, a < b → b < n → ix (f a) ≠ ix (f b) := fun a b c hb => by
    have := h a b (by rw [List.length_range]; omega) (by rw [List.length_range]; omega) c
    rwa [List.getElem_range, List.getElem_range] at this
  rcases Nat.lt_trichotomy a b with c | c | c
  · exact absurd e (key a b c hb)
  · exact c
  · exact absurd e.symm (key b a c ha)
def fo (bd g f : Nat → Int32) : Nat → Nat → Int32
  | 0 => f
  | n + 1 => upd (fo bd g f n) (ix (bd n)) (g n)
theorem fo_at {bd g f : Nat → Int32} : ∀ n, (∀ a b, a < n → b < n → ix (bd a) = ix (bd b) → a = b) → ∀ r, r < n → fo bd g f n (ix (bd r)) = g r
  | 0, _, r, hr => by omega
  | n + 1, hi, r, hr => by
    show upd (fo bd g f n) (ix (bd n)) (g n) (ix (bd r)) = g r
    by_cases e : r = n
    · subst e; exact pk_us
    · rw [pk_un (fun q => e (hi r n hr (by omega) q))]
      exact fo_at n (fun a b ha hb => hi a b (by omega) (by omega)) r (by omega)
theorem fo_out {bd g f : Nat → Int32} {w : Nat} : ∀ n, (∀ r, r < n → ix (bd r) ≠ w) → fo bd g f n w = f w
  | 0, _ => rfl
  | n + 1, h => by
    show upd (fo bd g f n) (ix (bd n)) (g n) w = f w
    rw [pk_un (fun q => h n (by omega) q.symm)]
    exact fo_out n (fun r hr => h r (by omega))
theorem recB_fo (bd f : Nat → Int32) : ∀ n, recB bd f n = fo bd nI f n
  | 0 => rfl
  | n + 1 => by
    show upd (recB bd f n) (ix (bd n)) (nI n) = upd (fo bd nI f n) (ix (bd n)) (nI n)
    rw [recB_fo bd f n]
theorem insL_out {ai : Nat → Int32} {w : Int32} : ∀ (k : Nat) (o : Nat → Int32) (r : Nat), k < r → insL ai w k o r = o r
  | 0, o, r, h => by show upd o 0 w r = o r; exact pk_un (by omega)
  | k + 1, o, r, h => by
    unfold insL
    by_cases c : ai (ix (o k)) ≤ ai (ix w)
    · rw [if_pos c]; exact pk_un (by omega)
    · rw [if_neg c, insL_out k _ r (by omega)]; exact pk_un (by omega)
theorem insL_cg {ai aj : Nat → Int32} {w : Int32} : ∀ (k : Nat) (o p : Nat → Int32), (∀ j, j < k → o j = p j) → (∀ j, j < k → ai (ix (o j)) = aj (ix (o j))) → ai (ix w) = aj (ix w) → ∀ r, r ≤ k → insL ai w k o r = insL aj w k p r
  | 0, o, p, _, _, _, r, h => by
    show upd o 0 w r = upd p 0 w r
    rw [show r = 0 by omega, pk_us, pk_us]
  | k + 1, o, p, h1, h2, h3, r, h => by
    unfold insL
    rw [h2 k (by omega), h3, h1 k (by omega)]
    by_cases c : aj (ix (p k)) ≤ aj (ix w)
    · rw [if_pos c, if_pos c]
      by_cases e : r = k + 1
      · subst e; rw [pk_us, pk_us]
      · rw [pk_un e, pk_un e]; exact h1 r (by omega)
    · rw [if_neg c, if_neg c]
      by_cases e : r = k + 1
      · subst e; rw [insL_out k _ _ (by omega), insL_out k _ _ (by omega), pk_us, pk_us]
      · exact insL_cg k _ _ (fun j hj => by rw [pk_un (by omega), pk_un (by omega)]; exact h1 j (by omega)) (fun j hj => by rw [pk_un (by omega)]; exact h2 j (by omega)) h3 r (by omega)
theorem insL_perm {ai : Nat → Int32} {w : Int32} : ∀ (k : Nat) (o : Nat → Int32), (listOf (insL ai w k o) (k + 1)).Perm (ix w :: listOf o k)
  | 0, o => by
    rw [lo_succ, lo_0, lo_0]
    show ([] ++ [ix (upd o 0 w 0)] : List Nat).Perm [ix w]
    rw [pk_us]; exact List.Perm.refl _
  | k + 1, o => by
    rw [lo_succ]
    by_cases c : ai (ix (o k)) ≤ ai (ix w)
    · have e : insL ai w (k + 1) o = upd o (k + 1) w := by
        show (if ai (ix (o k)) ≤ ai (ix w) then upd o (k + 1) w else insL ai w k (upd o (k + 1) (o k))) = _
        rw [if_pos c]
      rw [e, pk_us, lo_cg (g := o) (fun r hr => pk_un (by omega))]
      exact List.perm_append_singleton _ _
    · have e : insL ai w (k + 1) o = insL ai w k (upd o (k + 1) (o k)) := by
        show (if ai (ix (o k)) ≤ ai (ix w) then upd o (k + 1) w else insL ai w k (upd o (k + 1) (o k))) = _
        rw [if_neg c]
      rw [e, insL_out k _ _ (by omega), pk_us]
      refine ((insL_perm k _).append_right _).trans ?_
      rw [lo_cg (g := o) (fun r hr => pk_un (by omega)), lo_succ]
      exact List.Perm.refl _
theorem arrL_perm {ai fm o : Nat → Int32} : ∀ n, (listOf (arrL ai fm o n) n).Perm (listOf fm n)
  | 0 => by rw [lo_0, lo_0]
  | n + 1 => by
    refine (insL_perm n (arrL ai fm o n)).trans ?_
    rw [lo_succ]
    exact ((arrL_perm n).cons _).trans (List.perm_append_singleton _ _).symm
theorem oaL_fo (M : St) (bf sc : Nat → Int32) (L : Nat) : ∀ n, oaL M bf sc L n = fo bf (fun r => 2 * (nI r - oaU M (bf r) sc L) + hfM (oaU M (bf r) sc L)) (M 29) n
  | 0 => rfl
  | n + 1 => by
    show upd (oaL M bf sc L n) _ _ = upd (fo bf _ (M 29) n) _ _
    rw [oaL_fo M bf sc L n]
/-- the two sorts are one -/
theorem sort_eq {M : St} {ai fm o bf sc : Nat → Int32} {L N : Nat} (hf : ∀ r, r < N → fm r = bf r) (hi : ∀ a b, a < N → b < N → ix (fm a) = ix (fm b) → a = b) (ha : ∀ r, r < N → ai (ix (fm r)) = 2 * (nI r - oaU M (bf r) sc L) + hfM (oaU M (bf r) sc L)) : ∀ n, n ≤ N → ∀ r, r < n → arrL ai fm o n r = odL M bf sc L n r
  | 0, _, r, hr => by omega
  | n + 1, hn, r, hr => by
    show insL ai (fm n) n (arrL ai fm o n) r = insL (oaL M bf sc L (n + 1)) (bf n) n (odL M bf sc L n) r
    have key : ∀ i, i < n + 1 → ai (ix (fm i)) = oaL M bf sc L (n + 1) (ix (fm i)) := fun i hin => by
      rw [ha i (by omega), oaL_fo, hf i (by omega)]
      exact (fo_at (bd := bf) (g := fun r => 2 * (nI r - oaU M (bf r) sc L) + hfM (oaU M (bf r) sc L)) (f := (M 29)) (n + 1) (fun a b h1 h2 q => hi a b (by omega) (by omega) (by rw [hf a (by omega), hf b (by omega)]; exact q)) i hin).symm
    rw [hf n (by omega)] at *
    refine insL_cg n _ _ (fun j hj => sort_eq hf hi ha n (by omega) j hj) (fun j hj => ?_) ?_ r (by omega)
    · have : ix (arrL ai fm o n j) ∈ listOf fm n := (arrL_perm n).mem_iff.mp (lo_mem.mpr ⟨j, hj, rfl⟩)
      obtain ⟨i, h1, h2⟩ := lo_mem.mp this
      rw [← h2]; exact key i (by omega)
    · have := key n (by omega)
      rw [hf n (by omega)] at this
      exact this
theorem half_eq (a s : Int32) : a - v_half s = a + hfM s := by
  unfold v_half hfM
  by_cases h1 : s ≤ 0
  · rw [if_pos h1, if_pos h1]
    by_cases h2 : 0 ≤ s
    · rw [if_pos h2, if_pos h2, Int32.sub_zero, Int32.add_zero]
    · rw [if_neg h2, if_neg h2, Int32.sub_eq_add_neg]; rfl
  · rw [if_neg h1, if_neg h1, Int32.sub_eq_add_neg]
theorem steps_eq {X M : St} (h1 : (X 34) = (M 24)) (h2 : (X 10) = (M 2)) (w bl : Int32) : v_X0_steps X bl ((X 10) (ix w)) = vM_goesUp M w bl := by
  unfold v_X0_steps vM_goesUp vM_up
  rw [h1, h2]
  by_cases c1 : bl = (-9)
  · rw [if_pos c1, if_pos c1]
    by_cases k1 : (M 2) (ix w) = 1
    · rw [if_pos k1, if_pos (by decide), k1]; decide
    · rw [if_neg k1]
      by_cases k2 : (M 2) (ix w) = 2
      · rw [if_pos k2]; decide
      · rw [if_neg k2]
  · rw [if_neg c1, if_neg c1]
    by_cases k1 : (M 2) (ix w) = 1
    · rw [if_pos k1, if_pos k1, if_neg (show ¬ (M 2) (ix w) = 2 by rw [k1]; decide)]
      by_cases u1 : (M 24) (ix bl) < (-1)
      · rw [if_pos u1, if_neg (Int32.not_le.mpr u1)]
      · rw [if_neg u1, if_pos (Int32.not_lt.mp u1)]
    · rw [if_neg k1, if_neg k1]
theorem difL_l (fm ra af : Nat → Int32) : ∀ n, difL fm ra af n = lsum (fun w => if ra w = af w then 0 else 1) (listOf fm n)
  | 0 => by rw [lo_0]; rfl
  | n + 1 => by
    rw [lo_succ, lsum_snoc, ← difL_l fm ra af n]
    show (if ra (ix (fm n)) = af (ix (fm n)) then difL fm ra af n else difL fm ra af n + 1) = difL fm ra af n + (if ra (ix (fm n)) = af (ix (fm n)) then 0 else 1)
    by_cases e : ra (ix (fm n)) = af (ix (fm n))
    · rw [if_pos e, if_pos e, Int32.add_zero]
    · rw [if_neg e, if_neg e]
theorem ctL_l {od f T : Nat → Int32} : ∀ n, (∀ r, r < n → T (ix (od r)) = nI r) → ctL od f n = lsum (fun w => if f w = T w then 0 else 1) (listOf od n)
  | 0, _ => by rw [lo_0]; rfl
  | n + 1, h => by
    rw [lo_succ, lsum_snoc, ← ctL_l n (fun r hr => h r (by omega))]
    show ctL od f n + (if f (ix (od n)) = nI n then 0 else 1) = ctL od f n + (if f (ix (od n)) = T (ix (od n)) then 0 else 1)
    rw [h n (by omega)]
theorem lsum_cg {g g' : Nat → Int32} : ∀ l : List Nat, (∀ a, a ∈ l → g a = g' a) → lsum g l = lsum g' l
  | [], _ => rfl
  | a :: t, h => by
    show lsum g t + g a = lsum g' t + g' a
    rw [lsum_cg t (fun b hb => h b (List.mem_cons_of_mem _ hb)), h a List.mem_cons_self]
theorem ctL_cg {od od' f : Nat → Int32} : ∀ n, (∀ r, r < n → od r = od' r) → ctL od f n = ctL od' f n
  | 0, _ => rfl
  | n + 1, h => by
    show ctL od f n + (if f (ix (od n)) = nI n then 0 else 1) = ctL od' f n + (if f (ix (od' n)) = nI n then 0 else 1)
    rw [ctL_cg n (fun r hr => h r (by omega)), h n (by omega)]
theorem recB_cg {bd bd' f : Nat → Int32} : ∀ n, (∀ r, r < n → bd r = bd' r) → recB bd f n = recB bd' f n
  | 0, _ => rfl
  | n + 1, h => by
    show upd (recB bd f n) (ix (bd n)) (nI n) = upd (recB bd' f n) (ix (bd' n)) (nI n)
    rw [recB_cg n (fun r hr => h r (by omega)), h n (by omega)]
theorem recF_cg {bd bd' f : Nat → Int32} (n : Nat) (h : ∀ r, r < n → bd r = bd' r) : recF bd f n = recF bd' f n := by
  funext i
  unfold recF
  by_cases e : i < n
  · rw [if_pos e, if_pos e, h i e]
  · rw [if_neg e, if_neg e]
theorem recF_at {bd f : Nat → Int32} {n r : Nat} (h : r < n) : recF bd f n r = bd r := if_pos h
theorem recF_no {bd f : Nat → Int32} {n r : Nat} (h : ¬ r < n) : recF bd f n r = f r := if_neg h