
def mmU (hl st : Nat → Int32) (s : Int32) (w : Nat) : Int32 := if hl w = 0 then (if st w = s then 1 else 0) else 0
def mmT (hl st wi : Nat → Int32) (s : Int32) (w : Nat) : Int32 := if hl w = 0 then (if st w = s then wi w else 0) else 0
def mmS (hl st wi : Nat → Int32) (s : Int32) : Nat → Int32
  | 0 => 0
  | w + 1 => mmS hl st wi s w + mmT hl st wi s w
def mmC (hl st : Nat → Int32) (s : Int32) : Nat → Int32
  | 0 => 0
  | w + 1 => mmC hl st s w + mmU hl st s w
theorem mm_0 {hl st wi : Nat → Int32} {s : Int32} {w : Nat} (h : mmU hl st s w = 0) : (0 : Int32) = mmT hl st wi s w := by
  unfold mmU at h
  unfold mmT
  by_cases h1 : hl w = 0
  · rw [if_pos h1] at h ⊢
    by_cases h2 : st w = s
    · rw [if_pos h2] at h; exact absurd h (by decide)
    · rw [if_neg h2]
  · rw [if_neg h1]
theorem mm_1 {hl st wi : Nat → Int32} {s : Int32} {w : Nat} (h : ¬ mmU hl st s w = 0) : wi w = mmT hl st wi s w ∧ (1 : Int32) = mmU hl st s w := by
  unfold mmU at h ⊢
  unfold mmT
  by_cases h1 : hl w = 0
  · rw [if_pos h1] at h ⊢
    by_cases h2 : st w = s
    · rw [if_pos h2, if_pos h1, if_pos h2]; exact ⟨rfl, rfl⟩
    · rw [if_neg h2] at h; exact absurd rfl h
  · rw [if_neg h1] at h; exact absurd rfl h
def vM_mean (M : St) (s : Int32) (E : Nat) : Int32 := if vin s 0 7 = 0 then (-1) else if mmC (M 5) (M 3) s E = 0 then (-3) else mmS (M 5) (M 3) (M 7) s E / mmC (M 5) (M 3) s E
def sM_mean (M : St) (s : Int32) (E : Nat) : St := if vin s 0 7 = 0 then M else if mmC (M 5) (M 3) s E = 0 then sM_found M 4 else M
def shZ (f : Nat → Int32) (a n : Nat) : Nat → Int32 := fun j => if 16 * a ≤ j ∧ j < 16 * a + n then 0 else f j
theorem shZ_step (f : Nat → Int32) (a n : Nat) : upd (shZ f a n) (16 * a + n) 0 = shZ f a (n + 1) := by
  funext j
  simp only [shZ, upd]
  by_cases e : j = 16 * a + n
  · rw [if_pos e, if_pos (by omega)]
  · rw [if_neg e]
    by_cases h : 16 * a ≤ j ∧ j < 16 * a + n
    · rw [if_pos h, if_pos (by omega)]
    · rw [if_neg h, if_neg (by omega)]
theorem shZ_0 (f : Nat → Int32) (a : Nat) : shZ f a 0 = f := by
  funext j
  simp only [shZ]
  rw [if_neg (by omega)]
def sM_sheet (M : St) (s n : Int32) : St := if vin s 0 3 = 0 then M else if n ≤ 16 then (if 0 ≤ n then sr (ux M 12 (ix s) n) 13 (shZ (M 13) (ix s) 16) else sM_found M 5) else M
def vM_sheet (s n : Int32) : Int32 := if vin s 0 3 = 0 then (-1) else if n ≤ 16 then (if 0 ≤ n then n else (-3)) else (-1)
def zr (f : Nat → Int32) (v : Int32) (n : Nat) : Nat → Int32 := fun j => if j < n then v else f j
theorem zr_step (f : Nat → Int32) (v : Int32) (n : Nat) : upd (zr f v n) n v = zr f v (n + 1) := by
  funext j
  simp only [zr, upd]
  by_cases e : j = n
  · rw [if_pos e, if_pos (by omega)]
  · rw [if_neg e]
    by_cases h : j < n
    · rw [if_pos h, if_pos (by omega)]
    · rw [if_neg h, if_neg (by omega)]
theorem zr_0 (f : Nat → Int32) (v : Int32) : zr f v 0 = f := by
  funext j
  simp [zr]
def sM_mt (M : St) (d : Int32) : St := ux (ux (ux (ux (ux (ux (ux M 103 0 1) 114 0 0) 105 0 d) 106 0 0) 107 0 0) 108 0 0) 116 0 0
def vM_meet (M : St) (d : Int32) : Int32 := if vin d 1 15 = 0 then (-1) else if (M 103 0) = 0 then (M 102 0) else (-4)
def sM_meet (M : St) (d : Int32) : St := if vin d 1 15 = 0 then M else if (M 103 0) = 0 then sr (sr (sM_mt M d) 7 (zr (M 7) 0 16)) 8 (zr (M 8) 0 16) else M
theorem mt_0 (M : St) (d : Int32) : sM_mt M d = sr (sr (sM_mt M d) 7 (zr (M 7) 0 0)) 8 (zr (M 8) 0 0) := by
  rw [zr_0, zr_0]
  exact (sr2_self (sM_mt M d) 7 8).symm
def bb1 (M : St) (a b : Int32) : Int32 := if (M 3) (ix a) = (M 3) (ix b) then 1 else 0
def bb2 (M : St) (a b : Int32) : Int32 := if (M 4) (ix a) = (-9) then 0 else if (M 4) (ix a) = (M 4) (ix b) then 2 else 0
def metN (u l a b x : Int32) : Int32 := if x = 0 then (if u = a then (if l = b then 1 else if u = b then (if l = a then 1 else 0) else 0) else if u = b then (if l = a then 1 else 0) else 0) else 1
def metL (u l : Nat → Int32) (a b : Int32) : Nat → Int32
  | 0 => 0
  | k + 1 => metN (u k) (l k) a b (metL u l a b k)
def vM_met (M : St) (a b : Int32) (B : Nat) : Int32 := if (M 103 0) = 0 then 0 else metL (M 16) (M 17) a b B
def vM_bars (M : St) (a b : Int32) (B : Nat) : Int32 := if vM_met M a b B = 0 then bb1 M a b + bb2 M a b else bb1 M a b + bb2 M a b + 4
def vM_barred (M : St) (a b : Int32) (B : Nat) : Int32 := if vM_isOne M a = 0 then (-1) else if vM_isOne M b = 0 then (-1) else if a = b then (-1) else if (M 5) (ix a) = 0 then (if (M 5) (ix b) = 0 then vM_bars M a b B else (-3)) else (-3)
def sM_barred (M : St) (a b : Int32) : St := if vM_isOne M a = 0 then M else if vM_isOne M b = 0 then M else if a = b then M else if (M 5) (ix a) = 0 then (if (M 5) (ix b) = 0 then M else sM_found M 1) else sM_found M 1
theorem or_ite (c : Prop) [Decidable c] (b v : Int32) : b ||| (if c then v else 0) = if c then b ||| v else b := by
  by_cases h : c
  · rw [if_pos h, if_pos h]
  · rw [if_neg h, if_neg h]; exact Int32.or_zero
def vM_leaders (M : St) (N : Nat) : Int32 := if (M 103 0) = 0 then (-4) else ldB (M 7) (M 11) (mostW (M 7) (M 11) N) N
/-- the leaders' bits -/
theorem ldB_bits {wi bd : Nat → Int32} {m : Int32} : ∀ n, (∀ r, r < n → vp_in (bd r) 16) → ∃ k, k < 2 ^ 16 ∧ ldB wi bd m n = nI k ∧ ∀ w, k.testBit w = true ↔ ∃ r, r < n ∧ bd r = nI w ∧ w < 16 ∧ wi w = m
  | 0, _ => ⟨0, by decide, rfl, fun w => ⟨fun h => by simp at h, fun ⟨r, h, _⟩ => absurd h (Nat.not_lt_zero _)⟩⟩
  | n + 1, h => by
    obtain ⟨k, h1, h2, h3⟩ := ldB_bits (wi := wi) (bd := bd) (m := m) n (fun r hr => h r (by omega))
    have hb := h n (by omega)
    have hbl := in_ix hb
    have hbe := in_nI hb (by decide)
    unfold ldB
    by_cases e : wi (ix (bd n)) = m
    · rw [if_pos e, h2]
      refine ⟨k ||| 2 ^ ix (bd n), Nat.or_lt_two_pow h1 (Nat.pow_lt_pow_right (by decide) hbl), ?_, fun w => ?_⟩
      · conv => lhs; rw [hbe, nI_shl1 _ (by omega), nI_or]
      · rw [Nat.testBit_or, Bool.or_eq_true, h3]
        constructor
        · rintro (⟨r, a1, a2⟩ | a)
          · exact ⟨r, by omega, a2⟩
          · have : w = ix (bd n) := by
              by_cases q : w = ix (bd n)
              · exact q
              · rw [Nat.testBit_two_pow_of_ne (Ne.symm q)] at a; cases a
            exact ⟨n, by omega, by rw [this]; exact hbe, by omega, by rw [this]; exact e⟩
        · rintro ⟨r, a1, a2, a3, a4⟩
          by_cases q : r = n
          · right
            rw [q, hbe] at a2
            have : ix (bd n) = w := (nI_eq (by omega) (by omega)).mp a2
            rw [this, Nat.testBit_two_pow_self]
          · exact Or.inl ⟨r, by omega, a2, a3, a4⟩
    · rw [if_neg e]
      refine ⟨k, h1, h2, fun w => ?_⟩
      rw [h3]
      constructor
      · rintro ⟨r, a1, a2⟩; exact ⟨r, by omega, a2⟩
      · rintro ⟨r, a1, a2, a3, a4⟩
        refine ⟨r, ?_, a2, a3, a4⟩
        by_cases q : r = n
        · exfalso
          rw [q, hbe] at a2
          have : ix (bd n) = w := (nI_eq (by omega) (by omega)).mp a2
          rw [this] at e
          exact e a4
        · omega
theorem shr_nI : ∀ t, t < 32 → (nI t &&& 31).toBitVec.smod 32 = BitVec.ofNat 32 t := by decide +kernel
theorem shr_bit {k t : Nat} (hk : k < 2 ^ 31) (ht : t < 31) : (nI k >>> (nI t &&& 31)) &&& 1 = nI ((k / 2 ^ t) % 2) := by
  have h1 : nI k >>> (nI t &&& 31) = nI (k / 2 ^ t) := pk_shrN hk _ t (by rw [shr_nI t (by omega), BitVec.toNat_ofNat]; omega)
  rw [h1, show (1 : Int32) = nI 1 from rfl, nI_and, Nat.and_one_is_mod]
theorem shr_tb {k t : Nat} (hk : k < 2 ^ 31) (ht : t < 31) : ((nI k >>> (nI t &&& 31)) &&& 1 = 1) ↔ k.testBit t = true := by
  rw [shr_bit hk ht, Nat.testBit_eq_decide_div_mod_eq, decide_eq_true_iff]
  exact nI_eq (by omega) (by decide : 1 < 2 ^ 31)
theorem ldB_at {wi bd : Nat → Int32} {m : Int32} {N r : Nat} (hB : ∀ r, r < N → vp_in (bd r) 16) (hr : r < N) : ((ldB wi bd m N >>> (bd r &&& 31)) &&& 1 = 1) ↔ wi (ix (bd r)) = m := by
  obtain ⟨k, h1, h2, h3⟩ := ldB_bits (wi := wi) (bd := bd) (m := m) N hB
  have hb := hB r hr
  have hbl := in_ix hb
  have hbe := in_nI hb (by decide)
  have e : (ldB wi bd m N >>> (bd r &&& 31)) &&& 1 = (nI k >>> (nI (ix (bd r)) &&& 31)) &&& 1 := by rw [h2, ← hbe]
  rw [e, shr_tb (Nat.lt_trans h1 (by decide)) (by omega), h3]
  constructor
  · rintro ⟨q, a1, a2, a3, a4⟩; exact a4
  · intro h; exact ⟨r, hr, hbe, hbl, h⟩
def poM (M : St) (m : Int32) (j : Nat) : St := ux (sr (ux M 116 0 1) 33 (plR (M 7) (M 11) m (M 33) j)) 117 0 (nI (plC (M 7) (M 11) m j))
theorem poM_0 {M : St} {m : Int32} : poM M m 0 = ux (ux M 116 0 1) 117 0 0 := by
  unfold poM plR plC
  rw [show sr (ux M 116 0 1) 33 (M 33) = ux M 116 0 1 from sr_self (ux M 116 0 1) 33]
  rfl
theorem poM_step {M : St} {m : Int32} {j : Nat} (h : (M 7) (ix ((M 11) j)) = m) : ux (ux (poM M m j) 33 (plC (M 7) (M 11) m j) ((M 11) j)) 117 0 (nI (plC (M 7) (M 11) m j) + 1) = poM M m (j + 1) := by
  unfold poM
  rw [plR, plC, if_pos h, if_pos h, ux_com _ _ _ _ _ (by decide : 117 ≠ 33), ux_srs, ux_ux, nI_1]
theorem poM_skip {M : St} {m : Int32} {j : Nat} (h : ¬ (M 7) (ix ((M 11) j)) = m) : poM M m j = poM M m (j + 1) := by
  unfold poM
  rw [plR, plC, if_neg h, if_neg h]
def goP (M : St) : Prop := ¬ (M 103 0) = 0 ∧ ¬ (M 106 0) < (M 105 0) ∧ ¬ 0 < (M 108 0)
def vM_playOff (M : St) (N : Nat) : Int32 := if (M 103 0) = 0 then (-4) else if (M 106 0) < (M 105 0) then (-4) else if 0 < (M 108 0) then (-4) else if (M 116 0) = 0 then (if (M 102 0) = 0 then (-4) else vM_left (poM M (mostW (M 7) (M 11) N) N)) else (-4)
def sM_playOff (M : St) (N : Nat) : St := if (M 103 0) = 0 then M else if (M 106 0) < (M 105 0) then M else if 0 < (M 108 0) then M else if (M 116 0) = 0 then (if (M 102 0) = 0 then M else sM_left (poM M (mostW (M 7) (M 11) N) N)) else M
def vM_won (M : St) (f : Int32) : Int32 := if f = 0 then (M 33) 1 else (M 33) 0
def sM_set (M : St) (f : Int32) (N : Nat) : St := ux (ux (sr M 33 (shf (M 33) N)) 33 (ix ((M 117 0) - 2)) (vM_won M f)) 117 0 ((M 117 0) - 1)
def vM_wins (M : St) (f : Int32) (N : Nat) : Int32 := if 2 ≤ (M 117 0) then vM_left (sM_set M f N) else (-4)
def sM_wins (M : St) (f : Int32) (N : Nat) : St := if 2 ≤ (M 117 0) then sM_left (sM_set M f N) else M
def dMW (M : St) (N : Nat) : Nat → Int64
  | 0 => 17
  | w + 1 => if (M 5) w = 0 then fld (fun k => vM_toldOf M (nI w) (nI k) N) (dMW M N w) 7 else 31 * dMW M N w - 1
def dMB (M : St) (h : Int64) : Nat → Int64
  | 0 => h
  | b + 1 => fld (fun k => vM_boutTold M (nI b) (nI k)) (dMB M h b) 4
def dMS (M : St) (h : Int64) : Nat → Int64
  | 0 => h
  | s + 1 => fld (fun k => (M 13) (16 * s + k)) (31 * dMS M h s + ((M 12) s).toInt64) (ix ((M 12) s))
def vM_digest (M : St) (E N B : Nat) : Int64 := dMS M (31 * fld (fun k => vM_count M (nI (k + 2))) (dMB M (fld (M 11) (dMW M N E) N) B) 6 + (M 118 0).toInt64) 4
theorem digM {M : St} {E N B : Nat} {h1 h2 h3 h4 : Int64} (e1 : h1 = dMW M N E) (e2 : h2 = fld (M 11) h1 N) (e3 : h3 = dMB M h2 B) (e4 : h4 = fld (fun k => vM_count M (nI (k + 2))) h3 6) : dMS M (31 * h4 + (M 118 0).toInt64) 4 = vM_digest M E N B := by
  rw [e4, e3, e2, e1]; rfl
set_option maxHeartbeats 4000000 in
set_option maxRecDepth 100000 in
theorem c_X9_mean (l : Launch) (D : va_G) (G : Gx) (E : Nat) (M : St) (s : Int32) (hE : (M 101 0) = nI E) (hE16 : E ≤ 16) : Ci l yX9_mean cX9_mean 6 (some .int) 1 (mw G) D (tyG G) [.ref (G.1 0), .int s] M (fun r X1 => r = (vM_mean M s E) ∧ X1 = (sM_mean M s E)) := by
  refine m_i (nL := 6) (lv := [(0, .ref (G.1 0)), (1, .int s)]) [.ref (G.1 0), .int s] RX9 rfl (mw_adr G) (by decide +kernel) (Nat.le_of_ble_eq_true rfl) rfl (fun K C ret => ?_)
  refine x_iload_n C (pc := 0) dX9_mean_0 1 rfl rfl ?_
  refine x_iconst C (pc := 1) (v := 0) dX9_mean_1 (by decide) ?_
  refine x_bipush C (pc := 2) (v := 7) dX9_mean_2 (by decide) ?_
  refine x_callSi C (pc := 4) [.int s, .int 0, .int 7] (fun l D => c_X9_in l D G M s 0 7 ) ml_X9_122 co_X9_in st_X9_in in_X9 hy_X9_in.2 (by decide) (by decide) (Nat.le_of_ble_eq_true rfl) dX9_mean_4 rfl (kx ?_)
  refine x_if_ne C (pc := 7) (tgt := 12) dX9_mean_7 (by decide) (fun c7 => ?_) (fun c7 => ?_)
  · refine x_iconst C (pc := 12) (v := 0) dX9_mean_12 (by decide) ?_
    refine x_istore_n C (pc := 13) dX9_mean_13 [(0, .ref (G.1 0)), (1, .int s), (2, .int 0)] [1, 2, 0] rfl (by decide) rfl ?_
    refine x_iconst C (pc := 14) (v := 0) dX9_mean_14 (by decide) ?_
    refine x_istore_n C (pc := 15) dX9_mean_15 [(0, .ref (G.1 0)), (1, .int s), (2, .int 0), (3, .int 0)] [1, 2, 3, 0] rfl (by decide) rfl ?_
    refine x_iconst C (pc := 16) (v := 0) dX9_mean_16 (by decide) ?_
    refine x_istore C (pc := 17) dX9_mean_17 [(0, .ref (G.1 0)), (1, .int s), (2, .int 0), (3, .int 0), (4, .int 0)] [1, 2, 3, 4, 0] (by decide) rfl ?_
    have L19 : ∀ (nu : Nat) (a : Int32) (b : Int32) (i : Int32) (j : Nat), (j ≤ E) → (i = nI j) → (a = mmS (M 5) (M 3) (M 7) s j) → (b = mmC (M 5) (M 3) s j) → (E - j) < nu → WX K (mw G) 6 M 19 [(0, .ref (G.1 0)), (1, .int s), (2, .int a), (3, .int b), (4, .int i)] [] := by
      intro nu
      induction nu with
      | zero => intro a b i j hj hi ha hb hmu19; exact absurd hmu19 (Nat.not_lt_zero _)
      | succ n19 ih19 =>
        intro a b i j hj hi ha hb hmu19
        refine x_iload C (pc := 19) dX9_mean_19 4 rfl ?_
        refine x_aload_n C (pc := 21) dX9_mean_21 0 rfl rfl ?_
        refine mG_ever C fl_X9_129 dX9_mean_22 ?_
        refine x_icmp_ge C (pc := 25) (tgt := 94) dX9_mean_25 (by decide) (fun c25 => ?_) (fun c25 => ?_)
        · have hge : E ≤ j := geN hi hE c25 (by omega)
          have hjN : j = E := by omega
          rw [hjN] at ha hb
          refine x_iload_n C (pc := 94) dX9_mean_94 3 rfl rfl ?_
          refine x_if_ne C (pc := 95) (tgt := 106) dX9_mean_95 (by decide) (fun c95 => ?_) (fun c95 => ?_)
          · refine x_iload_n C (pc := 106) dX9_mean_106 2 rfl rfl ?_
            refine x_iload_n C (pc := 107) dX9_mean_107 3 rfl rfl ?_
            refine x_idiv C (pc := 108) dX9_mean_108 (by assumption) ?_
            exact ret (a / b) M 109 _ dX9_mean_109 ⟨by rw [hb] at c95; unfold vM_mean; rw [if_neg c7, if_neg c95, ha, hb], by rw [hb] at c95; unfold sM_mean; rw [if_neg c7, if_neg c95]⟩
          · refine x_aload_n C (pc := 98) dX9_mean_98 0 rfl rfl ?_
            refine x_iconst C (pc := 99) (v := 4) dX9_mean_99 (by decide) ?_
            refine x_callVi C (pc := 100) [.int 4] (fun l D => c_X9_meets l D G M 4 in4_6) (me_0 G _) rfl ml_X9_143 co_X9_meets im_X9_meets se_X9_meets in_X9 hy_X9_meets (by decide) (by decide) (Nat.le_of_ble_eq_true rfl) dX9_mean_100 rfl (kx ?_)
            refine x_eqX (X' := (ux (ux M 100 0 4) 1 (ix 4) ((M 1 (ix 4)) + 1))) rfl ?_
            refine x_goto C (pc := 103) (tgt := 109) dX9_mean_103 (by decide) ?_
            exact ret (-3) (ux (ux M 100 0 4) 1 (ix 4) ((M 1 (ix 4)) + 1)) 109 _ dX9_mean_109 ⟨by rw [hb] at c95; unfold vM_mean; rw [if_neg c7, if_pos c95], by rw [hb] at c95; unfold sM_mean; rw [if_neg c7, if_pos c95]; rfl⟩
        · have hlt : j < E := ltN hi hE c25 (by omega)
          have hin : vp_in i 16 := by rw [hi]; exact vp_in_nI (by omega) (by decide)
          have hix : ix i = j := by rw [hi]; exact ix_nI (by omega)
          have J54 : WX K (mw G) 6 M 54 [(0, .ref (G.1 0)), (1, .int s), (2, .int a), (3, .int b), (4, .int i)] [.int (mmU (M 5) (M 3) s (ix i))] := by
            refine x_istore C (pc := 54) dX9_mean_54 [(0, .ref (G.1 0)), (1, .int s), (2, .int a), (3, .int b), (4, .int i), (5, .int (mmU (M 5) (M 3) s (ix i)))] [1, 2, 3, 4, 5, 0] (by decide) rfl ?_
            refine x_iload_n C (pc := 56) dX9_mean_56 2 rfl rfl ?_
            have J73 : WX K (mw G) 6 M 73 [(0, .ref (G.1 0)), (1, .int s), (2, .int a), (3, .int b), (4, .int i), (5, .int (mmU (M 5) (M 3) s (ix i)))] [.int (mmT (M 5) (M 3) (M 7) s (ix i)), .int a] := by
              refine x_iadd C (pc := 73) dX9_mean_73 ?_
              refine x_istore_n C (pc := 74) dX9_mean_74 [(0, .ref (G.1 0)), (1, .int s), (2, .int (a + (mmT (M 5) (M 3) (M 7) s (ix i)))), (3, .int b), (4, .int i), (5, .int (mmU (M 5) (M 3) s (ix i)))] [1, 2, 0, 3, 4, 5] rfl (by decide) rfl ?_
              refine x_iload_n C (pc := 75) dX9_mean_75 3 rfl rfl ?_
              have J86 : WX K (mw G) 6 M 86 [(0, .ref (G.1 0)), (1, .int s), (2, .int (a + (mmT (M 5) (M 3) (M 7) s (ix i)))), (3, .int b), (4, .int i), (5, .int (mmU (M 5) (M 3) s (ix i)))] [.int (mmU (M 5) (M 3) s (ix i)), .int b] := by
                refine x_iadd C (pc := 86) dX9_mean_86 ?_
                refine x_istore_n C (pc := 87) dX9_mean_87 [(0, .ref (G.1 0)), (1, .int s), (2, .int (a + (mmT (M 5) (M 3) (M 7) s (ix i)))), (3, .int (b + (mmU (M 5) (M 3) s (ix i)))), (4, .int i), (5, .int (mmU (M 5) (M 3) s (ix i)))] [1, 2, 3, 0, 4, 5] rfl (by decide) rfl ?_
                refine x_iinc C (pc := 88) (v := i + 1) dX9_mean_88 4 [(0, .ref (G.1 0)), (1, .int s), (2, .int (a + (mmT (M 5) (M 3) (M 7) s (ix i)))), (3, .int (b + (mmU (M 5) (M 3) s (ix i)))), (4, .int (i + 1)), (5, .int (mmU (M 5) (M 3) s (ix i)))] [1, 2, 3, 4, 0, 5] rfl (by rfl) (by decide) rfl ?_
                refine x_goto C (pc := 91) (tgt := 19) dX9_mean_91 (by decide) ?_
                refine x_sub [(0, .ref (G.1 0)), (1, .int s), (2, .int (a + (mmT (M 5) (M 3) (M 7) s (ix i)))), (3, .int (b + (mmU (M 5) (M 3) s (ix i)))), (4, .int (i + 1))] [0, 1, 2, 3, 4] rfl ?_
                exact ih19 (a + (mmT (M 5) (M 3) (M 7) s (ix i))) (b + (mmU (M 5) (M 3) s (ix i))) (i + 1) (j + 1) (by omega) (by rw [hi]; exact nI_1 j) (by rw [mmS, ha, hix]) (by rw [mmC, hb, hix]) (by omega)
              refine x_iload C (pc := 76) dX9_mean_76 5 rfl ?_
              refine x_if_eq C (pc := 78) (tgt := 85) dX9_mean_78 (by decide) (fun c78 => ?_) (fun c78 => ?_)
              · refine x_iconst C (pc := 85) (v := 0) dX9_mean_85 (by decide) ?_
                refine x_top (y := (mmU (M 5) (M 3) s (ix i))) (c78.symm) ?_
                exact J86
              · refine x_iconst C (pc := 81) (v := 1) dX9_mean_81 (by decide) ?_
                refine x_goto C (pc := 82) (tgt := 86) dX9_mean_82 (by decide) ?_
                refine x_top (y := (mmU (M 5) (M 3) s (ix i))) ((mm_1 (wi := M 7) c78).2) ?_
                exact J86
            refine x_iload C (pc := 57) dX9_mean_57 5 rfl ?_
            refine x_if_eq C (pc := 59) (tgt := 72) dX9_mean_59 (by decide) (fun c59 => ?_) (fun c59 => ?_)
            · refine x_iconst C (pc := 72) (v := 0) dX9_mean_72 (by decide) ?_
              refine x_top (y := (mmT (M 5) (M 3) (M 7) s (ix i))) (mm_0 c59) ?_
              exact J73
            · refine x_aload_n C (pc := 62) dX9_mean_62 0 rfl rfl ?_
              refine mG_winsOf C fl_X9_29 dX9_mean_63 ?_
              refine x_iload C (pc := 66) dX9_mean_66 4 rfl ?_
              refine mL_winsOf C dX9_mean_68 (by assumption) ?_
              refine x_goto C (pc := 69) (tgt := 73) dX9_mean_69 (by decide) ?_
              refine x_top (y := (mmT (M 5) (M 3) (M 7) s (ix i))) ((mm_1 c59).1) ?_
              exact J73
          refine x_aload_n C (pc := 28) dX9_mean_28 0 rfl rfl ?_
          refine mG_hasLeft C fl_X9_22 dX9_mean_29 ?_
          refine x_iload C (pc := 32) dX9_mean_32 4 rfl ?_
          refine mL_hasLeft C dX9_mean_34 (by assumption) ?_
          refine x_if_ne C (pc := 35) (tgt := 53) dX9_mean_35 (by decide) (fun c35 => ?_) (fun c35 => ?_)
          · refine x_iconst C (pc := 53) (v := 0) dX9_mean_53 (by decide) ?_
            refine x_top (y := (mmU (M 5) (M 3) s (ix i))) (by unfold mmU; (repeat (first | rw [if_pos (by assumption)] | rw [if_neg (by assumption)])) <;> first | rfl ) ?_
            exact J54
          · refine x_aload_n C (pc := 38) dX9_mean_38 0 rfl rfl ?_
            refine mG_stableOf C fl_X9_16 dX9_mean_39 ?_
            refine x_iload C (pc := 42) dX9_mean_42 4 rfl ?_
            refine mL_stableOf C dX9_mean_44 (by assumption) ?_
            refine x_iload_n C (pc := 45) dX9_mean_45 1 rfl rfl ?_
            refine x_icmp_ne C (pc := 46) (tgt := 53) dX9_mean_46 (by decide) (fun c46 => ?_) (fun c46 => ?_)
            · refine x_iconst C (pc := 53) (v := 0) dX9_mean_53 (by decide) ?_
              refine x_top (y := (mmU (M 5) (M 3) s (ix i))) (by unfold mmU; (repeat (first | rw [if_pos (by assumption)] | rw [if_neg (by assumption)])) <;> first | rfl ) ?_
              exact J54
            · refine x_iconst C (pc := 49) (v := 1) dX9_mean_49 (by decide) ?_
              refine x_goto C (pc := 50) (tgt := 54) dX9_mean_50 (by decide) ?_
              refine x_top (y := (mmU (M 5) (M 3) s (ix i))) (by unfold mmU; (repeat (first | rw [if_pos (by assumption)] | rw [if_neg (by assumption)])) <;> first | rfl ) ?_
              exact J54
    exact L19 _ 0 0 0 0 (Nat.zero_le _) rfl rfl rfl (Nat.lt_succ_self _)
  · refine x_iconst C (pc := 10) (v := (-1)) dX9_mean_10 (by decide) ?_
    exact ret (-1) M 11 _ dX9_mean_11 ⟨by unfold vM_mean; (repeat (first | rw [if_pos (by assumption)] | rw [if_neg (by assumption)])) <;> first | rfl , by unfold sM_mean; (repeat (first | rw [if_pos (by assumption)] | rw [if_neg (by assumption)])) <;> first | rfl ⟩
set_option maxHeartbeats 4000000 in
set_option maxRecDepth 100000 in
theorem c_X9_sheet (l : Launch) (D : va_G) (G : Gx) (M : St) (s : Int32) (n : Int32) : Ci l yX9_sheet cX9_sheet 4 (some .int) 2 (mw G) D (tyG G) [.ref (G.1 0), .int s, .int n] M (fun r X1 => r = (vM_sheet s n) ∧ X1 = (sM_sheet M s n)) := by
  refine m_i (nL := 4) (lv := [(0, .ref (G.1 0)), (1, .int s), (2, .int n)]) [.ref (G.1 0), .int s, .int n] RX9 rfl (mw_adr G) (by decide +kernel) (Nat.le_of_ble_eq_true rfl) rfl (fun K C ret => ?_)
  refine x_iload_n C (pc := 0) dX9_sheet_0 1 rfl rfl ?_
  refine x_callSi C (pc := 1) [.int s] (fun l D => c_X9_isSheet l D G M s ) ml_X9_158 co_X9_isSheet st_X9_isSheet in_X9 hy_X9_isSheet.2 (by decide) (by decide) (Nat.le_of_ble_eq_true rfl) dX9_sheet_1 rfl (kx ?_)
  refine x_if_eq C (pc := 4) (tgt := 13) dX9_sheet_4 (by decide) (fun c4 => ?_) (fun c4 => ?_)
  · refine x_iconst C (pc := 13) (v := (-1)) dX9_sheet_13 (by decide) ?_
    exact ret (-1) M 14 _ dX9_sheet_14 ⟨by unfold vM_sheet; (repeat (first | rw [if_pos (by assumption)] | rw [if_neg (by assumption)])) <;> first | rfl , by unfold sM_sheet; (repeat (first | rw [if_pos (by assumption)] | rw [if_neg (by assumption)])) <;> first | rfl ⟩
  · refine x_iload_n C (pc := 7) dX9_sheet_7 2 rfl rfl ?_
    refine x_bipush C (pc := 8) (v := 16) dX9_sheet_8 (by decide) ?_
    refine x_icmp_le C (pc := 10) (tgt := 15) dX9_sheet_10 (by decide) (fun c10 => ?_) (fun c10 => ?_)
    · refine x_iload_n C (pc := 15) dX9_sheet_15 2 rfl rfl ?_
      refine x_if_ge C (pc := 16) (tgt := 25) dX9_sheet_16 (by decide) (fun c16 => ?_) (fun c16 => ?_)
      · have hs : vp_in s 4 := vinS_in c4
        refine x_aload_n C (pc := 25) dX9_sheet_25 0 rfl rfl ?_
        refine mG_sheetSize C fl_X9_44 dX9_sheet_26 ?_
        refine x_iload_n C (pc := 29) dX9_sheet_29 1 rfl rfl ?_
        refine x_iload_n C (pc := 30) dX9_sheet_30 2 rfl rfl ?_
        refine mS_sheetSize C dX9_sheet_31 (by assumption) ?_
        refine x_iconst C (pc := 32) (v := 0) dX9_sheet_32 (by decide) ?_
        refine x_istore_n C (pc := 33) dX9_sheet_33 [(0, .ref (G.1 0)), (1, .int s), (2, .int n), (3, .int 0)] [1, 2, 3, 0] rfl (by decide) rfl ?_
        have L34 : ∀ (nu : Nat) (i : Int32) (j : Nat), (j ≤ 16) → (i = nI j) → (16 - j) < nu → WX K (mw G) 4 (sr (ux M 12 (ix s) n) 13 (shZ (M 13) (ix s) j)) 34 [(0, .ref (G.1 0)), (1, .int s), (2, .int n), (3, .int i)] [] := by
          intro nu
          induction nu with
          | zero => intro i j hj hi hmu34; exact absurd hmu34 (Nat.not_lt_zero _)
          | succ n34 ih34 =>
            intro i j hj hi hmu34
            refine x_iload_n C (pc := 34) dX9_sheet_34 3 rfl rfl ?_
            refine x_bipush C (pc := 35) (v := 16) dX9_sheet_35 (by decide) ?_
            refine x_icmp_ge C (pc := 37) (tgt := 58) dX9_sheet_37 (by decide) (fun c37 => ?_) (fun c37 => ?_)
            · have hj16 : j = 16 := by have hge9 : 16 ≤ j := geN hi (rfl : (16 : Int32) = nI 16) c37 (by decide); omega
              refine x_iload_n C (pc := 58) dX9_sheet_58 2 rfl rfl ?_
              exact ret n (sr (ux M 12 (ix s) n) 13 (shZ (M 13) (ix s) j)) 59 _ dX9_sheet_59 ⟨by unfold vM_sheet; rw [if_neg c4, if_pos c10, if_pos c16], by unfold sM_sheet; rw [if_neg c4, if_pos c10, if_pos c16, hj16]⟩
            · have hlt : j < 16 := ltN hi (rfl : (16 : Int32) = nI 16) c37 (by omega)
              have hi16 : vp_in i 16 := by rw [hi]; exact vp_in_nI hlt (by decide)
              have h64 : vp_in (16 * s + i) 64 := in16 hs hi16
              have hix : ix (16 * s + i) = 16 * ix s + j := by rw [ix16 (in_nI hs (by decide)) hi]; exact ix_nI (by have := in_ix hs; omega)
              refine x_aload_n C (pc := 40) dX9_sheet_40 0 rfl rfl ?_
              refine mG_sheets C fl_X9_47 dX9_sheet_41 ?_
              refine x_bipush C (pc := 44) (v := 16) dX9_sheet_44 (by decide) ?_
              refine x_iload_n C (pc := 46) dX9_sheet_46 1 rfl rfl ?_
              refine x_imul C (pc := 47) dX9_sheet_47 ?_
              refine x_iload_n C (pc := 48) dX9_sheet_48 3 rfl rfl ?_
              refine x_iadd C (pc := 49) dX9_sheet_49 ?_
              refine x_iconst C (pc := 50) (v := 0) dX9_sheet_50 (by decide) ?_
              refine mS_sheets C dX9_sheet_51 (by assumption) ?_
              refine x_eqX (X' := (ux (sr (ux M 12 (ix s) n) 13 (shZ (M 13) (ix s) j)) 13 (ix ((16 * s) + i)) 0)) rfl ?_
              refine x_iinc C (pc := 52) (v := i + 1) dX9_sheet_52 3 [(0, .ref (G.1 0)), (1, .int s), (2, .int n), (3, .int (i + 1))] [1, 2, 3, 0] rfl (by rfl) (by decide) rfl ?_
              refine x_goto C (pc := 55) (tgt := 34) dX9_sheet_55 (by decide) ?_
              refine x_eqX (X' := (sr (ux M 12 (ix s) n) 13 (shZ (M 13) (ix s) (j + 1)))) (by rw [hix, ux_srs, shZ_step]) ?_
              exact ih34 (i + 1) (j + 1) (by omega) (by rw [hi]; exact nI_1 j) (by omega)
        refine x_eqX (X' := (sr (ux M 12 (ix s) n) 13 (shZ (M 13) (ix s) 0))) (by rw [shZ_0]; exact (sr_self (ux M 12 (ix s) n) 13).symm) ?_
        exact L34 _ 0 0 (Nat.zero_le _) rfl (Nat.lt_succ_self _)
      · refine x_aload_n C (pc := 19) dX9_sheet_19 0 rfl rfl ?_
        refine x_iconst C (pc := 20) (v := 5) dX9_sheet_20 (by decide) ?_
        refine x_callVi C (pc := 21) [.int 5] (fun l D => c_X9_meets l D G M 5 in5_6) (me_0 G _) rfl ml_X9_143 co_X9_meets im_X9_meets se_X9_meets in_X9 hy_X9_meets (by decide) (by decide) (Nat.le_of_ble_eq_true rfl) dX9_sheet_21 rfl (kx ?_)
        refine x_eqX (X' := (ux (ux M 100 0 5) 1 (ix 5) ((M 1 (ix 5)) + 1))) rfl ?_
        exact ret (-3) (ux (ux M 100 0 5) 1 (ix 5) ((M 1 (ix 5)) + 1)) 24 _ dX9_sheet_24 ⟨by unfold vM_sheet; (repeat (first | rw [if_pos (by assumption)] | rw [if_neg (by assumption)])) <;> first | rfl , by unfold sM_sheet; (repeat (first | rw [if_pos (by assumption)] | rw [if_neg (by assumption)])) <;> first | rfl ⟩
    · refine x_iconst C (pc := 13) (v := (-1)) dX9_sheet_13 (by decide) ?_
      exact ret (-1) M 14 _ dX9_sheet_14 ⟨by unfold vM_sheet; (repeat (first | rw [if_pos (by assumption)] | rw [if_neg (by assumption)])) <;> first | rfl , by unfold sM_sheet; (repeat (first | rw [if_pos (by assumption)] | rw [if_neg (by assumption)])) <;> first | rfl ⟩
set_option maxHeartbeats 4000000 in
set_option maxRecDepth 100000 in
theorem c_X9_meet (l : Launch) (D : va_G) (G : Gx) (M : St) (d : Int32) : Ci l yX9_meet cX9_meet 3 (some .int) 1 (mw G) D (tyG G) [.ref (G.1 0), .int d] M (fun r X1 => r = (vM_meet M d) ∧ X1 = (sM_meet M d)) := by
  refine m_i (nL := 3) (lv := [(0, .ref (G.1 0)), (1, .int d)]) [.ref (G.1 0), .int d] RX9 rfl (mw_adr G) (by decide +kernel) (Nat.le_of_ble_eq_true rfl) rfl (fun K C ret => ?_)
  refine x_iload_n C (pc := 0) dX9_meet_0 1 rfl rfl ?_
  refine x_iconst C (pc := 1) (v := 1) dX9_meet_1 (by decide) ?_
  refine x_bipush C (pc := 2) (v := 15) dX9_meet_2 (by decide) ?_
  refine x_callSi C (pc := 4) [.int d, .int 1, .int 15] (fun l D => c_X9_in l D G M d 1 15 ) ml_X9_122 co_X9_in st_X9_in in_X9 hy_X9_in.2 (by decide) (by decide) (Nat.le_of_ble_eq_true rfl) dX9_meet_4 rfl (kx ?_)
  refine x_if_ne C (pc := 7) (tgt := 12) dX9_meet_7 (by decide) (fun c7 => ?_) (fun c7 => ?_)
  · refine x_aload_n C (pc := 12) dX9_meet_12 0 rfl rfl ?_
    refine mG_isMeet C fl_X9_132 dX9_meet_13 ?_
    refine x_if_eq C (pc := 16) (tgt := 22) dX9_meet_16 (by decide) (fun c16 => ?_) (fun c16 => ?_)
    · refine x_aload_n C (pc := 22) dX9_meet_22 0 rfl rfl ?_
      refine x_iconst C (pc := 23) (v := 1) dX9_meet_23 (by decide) ?_
      refine mP_isMeet C fl_X9_132 (v := 1) (by decide) (by decide) dX9_meet_24 ?_
      refine x_aload_n C (pc := 27) dX9_meet_27 0 rfl rfl ?_
      refine x_iconst C (pc := 28) (v := 0) dX9_meet_28 (by decide) ?_
      refine mP_isWritten C fl_X9_136 (v := 0) (by decide) (by decide) dX9_meet_29 ?_
      refine x_aload_n C (pc := 32) dX9_meet_32 0 rfl rfl ?_
      refine x_iload_n C (pc := 33) dX9_meet_33 1 rfl rfl ?_
      refine mP_days C fl_X9_164 (v := d) dX9_meet_34 ?_
      refine x_aload_n C (pc := 37) dX9_meet_37 0 rfl rfl ?_
      refine x_iconst C (pc := 38) (v := 0) dX9_meet_38 (by decide) ?_
      refine mP_drawn C fl_X9_167 (v := 0) dX9_meet_39 ?_
      refine x_aload_n C (pc := 42) dX9_meet_42 0 rfl rfl ?_
      refine x_iconst C (pc := 43) (v := 0) dX9_meet_43 (by decide) ?_
      refine mP_bouts C fl_X9_170 (v := 0) dX9_meet_44 ?_
      refine x_aload_n C (pc := 47) dX9_meet_47 0 rfl rfl ?_
      refine x_iconst C (pc := 48) (v := 0) dX9_meet_48 (by decide) ?_
      refine mP_lacking C fl_X9_173 (v := 0) dX9_meet_49 ?_
      refine x_aload_n C (pc := 52) dX9_meet_52 0 rfl rfl ?_
      refine x_iconst C (pc := 53) (v := 0) dX9_meet_53 (by decide) ?_
      refine mP_hadPlayOff C fl_X9_176 (v := 0) (by decide) (by decide) dX9_meet_54 ?_
      refine x_eqX (X' := (sM_mt M d)) rfl ?_
      refine x_iconst C (pc := 57) (v := 0) dX9_meet_57 (by decide) ?_
      refine x_istore_n C (pc := 58) dX9_meet_58 [(0, .ref (G.1 0)), (1, .int d), (2, .int 0)] [1, 2, 0] rfl (by decide) rfl ?_
      have L59 : ∀ (nu : Nat) (i : Int32) (j : Nat), (j ≤ 16) → (i = nI j) → (16 - j) < nu → WX K (mw G) 3 (sr (sr (sM_mt M d) 7 (zr (M 7) 0 j)) 8 (zr (M 8) 0 j)) 59 [(0, .ref (G.1 0)), (1, .int d), (2, .int i)] [] := by
        intro nu
        induction nu with
        | zero => intro i j hj hi hmu59; exact absurd hmu59 (Nat.not_lt_zero _)
        | succ n59 ih59 =>
          intro i j hj hi hmu59
          refine x_iload_n C (pc := 59) dX9_meet_59 2 rfl rfl ?_
          refine x_bipush C (pc := 60) (v := 16) dX9_meet_60 (by decide) ?_
          refine x_icmp_ge C (pc := 62) (tgt := 85) dX9_meet_62 (by decide) (fun c62 => ?_) (fun c62 => ?_)
          · have hj16 : j = 16 := by have hge9 : 16 ≤ j := geN hi (rfl : (16 : Int32) = nI 16) c62 (by decide); omega
            refine x_aload_n C (pc := 85) dX9_meet_85 0 rfl rfl ?_
            refine mG_there C fl_X9_126 dX9_meet_86 ?_
            refine x_top (y := ((sM_mt M d) 102 0)) rfl ?_
            exact ret ((sM_mt M d) 102 0) (sr (sr (sM_mt M d) 7 (zr (M 7) 0 j)) 8 (zr (M 8) 0 j)) 89 _ dX9_meet_89 ⟨by unfold vM_meet; rw [if_neg c7, if_pos c16]; rfl, by unfold sM_meet; rw [if_neg c7, if_pos c16, hj16]⟩
          · have hlt : j < 16 := ltN hi (rfl : (16 : Int32) = nI 16) c62 (by omega)
            have hin : vp_in i 16 := by rw [hi]; exact vp_in_nI (by omega) (by decide)
            have hix : ix i = j := by rw [hi]; exact ix_nI (by omega)
            refine x_aload_n C (pc := 65) dX9_meet_65 0 rfl rfl ?_
            refine mG_winsOf C fl_X9_29 dX9_meet_66 ?_
            refine x_iload_n C (pc := 69) dX9_meet_69 2 rfl rfl ?_
            refine x_iconst C (pc := 70) (v := 0) dX9_meet_70 (by decide) ?_
            refine mS_winsOf C dX9_meet_71 (by assumption) ?_
            refine x_aload_n C (pc := 72) dX9_meet_72 0 rfl rfl ?_
            refine mG_lossesOf C fl_X9_32 dX9_meet_73 ?_
            refine x_iload_n C (pc := 76) dX9_meet_76 2 rfl rfl ?_
            refine x_iconst C (pc := 77) (v := 0) dX9_meet_77 (by decide) ?_
            refine mS_lossesOf C dX9_meet_78 (by assumption) ?_
            refine x_iinc C (pc := 79) (v := i + 1) dX9_meet_79 2 [(0, .ref (G.1 0)), (1, .int d), (2, .int (i + 1))] [1, 2, 0] rfl (by rfl) (by decide) rfl ?_
            refine x_goto C (pc := 82) (tgt := 59) dX9_meet_82 (by decide) ?_
            refine x_eqX (X' := (sr (sr (sM_mt M d) 7 (zr (M 7) 0 (j + 1))) 8 (zr (M 8) 0 (j + 1)))) (by rw [hix, ux_srn _ _ _ _ (by decide), ux_srs, ux_srs, zr_step, zr_step]) ?_
            exact ih59 (i + 1) (j + 1) (by omega) (by rw [hi]; exact nI_1 j) (by omega)
      refine x_eqX (X' := (sr (sr (sM_mt M d) 7 (zr (M 7) 0 0)) 8 (zr (M 8) 0 0))) (mt_0 M d) ?_
      exact L59 _ 0 0 (Nat.zero_le _) rfl (Nat.lt_succ_self _)
    · refine x_bipush C (pc := 19) (v := (-4)) dX9_meet_19 (by decide) ?_
      exact ret (-4) M 21 _ dX9_meet_21 ⟨by unfold vM_meet; (repeat (first | rw [if_pos (by assumption)] | rw [if_neg (by assumption)])) <;> first | rfl , by unfold sM_meet; (repeat (first | rw [if_pos (by assumption)] | rw [if_neg (by assumption)])) <;> first | rfl ⟩
  · refine x_iconst C (pc := 10) (v := (-1)) dX9_meet_10 (by decide) ?_
    exact ret (-1) M 11 _ dX9_meet_11 ⟨by unfold vM_meet; (repeat (first | rw [if_pos (by assumption)] | rw [if_neg (by assumption)])) <;> first | rfl , by unfold sM_meet; (repeat (first | rw [if_pos (by assumption)] | rw [if_neg (by assumption)])) <;> first | rfl ⟩
set_option maxHeartbeats 4000000 in
set_option maxRecDepth 100000 in
theorem c_X9_barredBits (l : Launch) (D : va_G) (G : Gx) (B : Nat) (M : St) (a : Int32) (b : Int32) (ha : vp_in a 16) (hb : vp_in b 16) (hBt : (M 107 0) = nI B) (hB120 : B ≤ 120) : Ci l yX9_barredBits cX9_barredBits 6 (some .int) 0 (mw G) D (tyG G) [.ref (G.1 0), .int a, .int b] M (fun r X1 => r = (vM_bars M a b B) ∧ X1 = M) := by
  refine m_i (nL := 6) (lv := [(0, .ref (G.1 0)), (1, .int a), (2, .int b)]) [.ref (G.1 0), .int a, .int b] RX9 rfl (mw_adr G) (by decide +kernel) (Nat.le_of_ble_eq_true rfl) rfl (fun K C ret => ?_)
  have J20 : WX K (mw G) 6 M 20 [(0, .ref (G.1 0)), (1, .int a), (2, .int b)] [.int (bb1 M a b)] := by
    refine x_istore_n C (pc := 20) dX9_barredBits_20 [(0, .ref (G.1 0)), (1, .int a), (2, .int b), (3, .int (bb1 M a b))] [1, 2, 3, 0] rfl (by decide) rfl ?_
    refine x_iload_n C (pc := 21) dX9_barredBits_21 3 rfl rfl ?_
    have J53 : WX K (mw G) 6 M 53 [(0, .ref (G.1 0)), (1, .int a), (2, .int b), (3, .int (bb1 M a b))] [.int (bb2 M a b), .int (bb1 M a b)] := by
      refine x_iadd C (pc := 53) dX9_barredBits_53 ?_
      refine x_istore_n C (pc := 54) dX9_barredBits_54 [(0, .ref (G.1 0)), (1, .int a), (2, .int b), (3, .int ((bb1 M a b) + (bb2 M a b)))] [1, 2, 3, 0] rfl (by decide) rfl ?_
      refine x_iconst C (pc := 55) (v := 0) dX9_barredBits_55 (by decide) ?_
      refine x_istore C (pc := 56) dX9_barredBits_56 [(0, .ref (G.1 0)), (1, .int a), (2, .int b), (3, .int ((bb1 M a b) + (bb2 M a b))), (4, .int 0)] [1, 2, 3, 4, 0] (by decide) rfl ?_
      refine x_iconst C (pc := 58) (v := 0) dX9_barredBits_58 (by decide) ?_
      refine x_istore C (pc := 59) dX9_barredBits_59 [(0, .ref (G.1 0)), (1, .int a), (2, .int b), (3, .int ((bb1 M a b) + (bb2 M a b))), (4, .int 0), (5, .int 0)] [1, 2, 3, 4, 5, 0] (by decide) rfl ?_
      have L61 : ∀ (nu : Nat) (x : Int32) (i : Int32) (j : Nat), (j ≤ B) → (i = nI j) → (x = metL (M 16) (M 17) a b j) → ((M 103 0) = 0 → j = 0) → (B - j) < nu → WX K (mw G) 6 M 61 [(0, .ref (G.1 0)), (1, .int a), (2, .int b), (3, .int ((bb1 M a b) + (bb2 M a b))), (4, .int x), (5, .int i)] [] := by
        intro nu
        induction nu with
        | zero => intro x i j hj hi hx hz hmu61; exact absurd hmu61 (Nat.not_lt_zero _)
        | succ n61 ih61 =>
          intro x i j hj hi hx hz hmu61
          refine x_iload C (pc := 61) dX9_barredBits_61 5 rfl ?_
          refine x_aload_n C (pc := 63) dX9_barredBits_63 0 rfl rfl ?_
          refine mG_bouts C fl_X9_170 dX9_barredBits_64 ?_
          refine x_icmp_ge C (pc := 67) (tgt := 139) dX9_barredBits_67 (by decide) (fun c67 => ?_) (fun c67 => ?_)
          · have hmet : x = vM_met M a b B := by
              unfold vM_met
              by_cases h : (M 103 0) = 0
              · rw [if_pos h, hx, hz h]; rfl
              · rw [if_neg h, hx]
                congr 1
                first
                | exact absurd c74 h
                | (have := geN hi hBt c67 (by omega); omega)
            refine x_iload C (pc := 139) dX9_barredBits_139 4 rfl ?_
            refine x_if_eq C (pc := 141) (tgt := 150) dX9_barredBits_141 (by decide) (fun c141 => ?_) (fun c141 => ?_)
            · refine x_iload_n C (pc := 150) dX9_barredBits_150 3 rfl rfl ?_
              exact ret ((bb1 M a b) + (bb2 M a b)) M 151 _ dX9_barredBits_151 ⟨by rw [hmet] at c141; unfold vM_bars; rw [if_pos c141], rfl⟩
            · refine x_iload_n C (pc := 144) dX9_barredBits_144 3 rfl rfl ?_
              refine x_iconst C (pc := 145) (v := 4) dX9_barredBits_145 (by decide) ?_
              refine x_iadd C (pc := 146) dX9_barredBits_146 ?_
              refine x_goto C (pc := 147) (tgt := 151) dX9_barredBits_147 (by decide) ?_
              exact ret (((bb1 M a b) + (bb2 M a b)) + 4) M 151 _ dX9_barredBits_151 ⟨by rw [hmet] at c141; unfold vM_bars; rw [if_neg c141], rfl⟩
          · have hlt : j < B := ltN hi hBt c67 (by omega)
            have hin : vp_in i 120 := by rw [hi]; exact vp_in_nI (by omega) (by decide)
            have hix : ix i = j := by rw [hi]; exact ix_nI (by omega)
            refine x_aload_n C (pc := 70) dX9_barredBits_70 0 rfl rfl ?_
            refine mG_isMeet C fl_X9_132 dX9_barredBits_71 ?_
            refine x_if_eq C (pc := 74) (tgt := 139) dX9_barredBits_74 (by decide) (fun c74 => ?_) (fun c74 => ?_)
            · have hmet : x = vM_met M a b B := by
                unfold vM_met
                by_cases h : (M 103 0) = 0
                · rw [if_pos h, hx, hz h]; rfl
                · rw [if_neg h, hx]
                  congr 1
                  first
                  | exact absurd c74 h
                  | (have := geN hi hBt c67 (by omega); omega)
              refine x_iload C (pc := 139) dX9_barredBits_139 4 rfl ?_
              refine x_if_eq C (pc := 141) (tgt := 150) dX9_barredBits_141 (by decide) (fun c141 => ?_) (fun c141 => ?_)
              · refine x_iload_n C (pc := 150) dX9_barredBits_150 3 rfl rfl ?_
                exact ret ((bb1 M a b) + (bb2 M a b)) M 151 _ dX9_barredBits_151 ⟨by rw [hmet] at c141; unfold vM_bars; rw [if_pos c141], rfl⟩
              · refine x_iload_n C (pc := 144) dX9_barredBits_144 3 rfl rfl ?_
                refine x_iconst C (pc := 145) (v := 4) dX9_barredBits_145 (by decide) ?_
                refine x_iadd C (pc := 146) dX9_barredBits_146 ?_
                refine x_goto C (pc := 147) (tgt := 151) dX9_barredBits_147 (by decide) ?_
                exact ret (((bb1 M a b) + (bb2 M a b)) + 4) M 151 _ dX9_barredBits_151 ⟨by rw [hmet] at c141; unfold vM_bars; rw [if_neg c141], rfl⟩
            · have J131 : WX K (mw G) 6 M 131 [(0, .ref (G.1 0)), (1, .int a), (2, .int b), (3, .int ((bb1 M a b) + (bb2 M a b))), (4, .int x), (5, .int i)] [.int (metN (M 16 (ix i)) (M 17 (ix i)) a b x)] := by
                refine x_istore C (pc := 131) dX9_barredBits_131 [(0, .ref (G.1 0)), (1, .int a), (2, .int b), (3, .int ((bb1 M a b) + (bb2 M a b))), (4, .int (metN (M 16 (ix i)) (M 17 (ix i)) a b x)), (5, .int i)] [1, 2, 3, 4, 0, 5] (by decide) rfl ?_
                refine x_iinc C (pc := 133) (v := i + 1) dX9_barredBits_133 5 [(0, .ref (G.1 0)), (1, .int a), (2, .int b), (3, .int ((bb1 M a b) + (bb2 M a b))), (4, .int (metN (M 16 (ix i)) (M 17 (ix i)) a b x)), (5, .int (i + 1))] [1, 2, 3, 4, 5, 0] rfl (by rfl) (by decide) rfl ?_
                refine x_goto C (pc := 136) (tgt := 61) dX9_barredBits_136 (by decide) ?_
                exact ih61 (metN (M 16 (ix i)) (M 17 (ix i)) a b x) (i + 1) (j + 1) (by omega) (by rw [hi]; exact nI_1 j) (by rw [metL, hx, hix]) (fun h => absurd h c74) (by omega)
              refine x_iload C (pc := 77) dX9_barredBits_77 4 rfl ?_
              refine x_if_ne C (pc := 79) (tgt := 126) dX9_barredBits_79 (by decide) (fun c79 => ?_) (fun c79 => ?_)
              · refine x_iconst C (pc := 126) (v := 1) dX9_barredBits_126 (by decide) ?_
                refine x_goto C (pc := 127) (tgt := 131) dX9_barredBits_127 (by decide) ?_
                refine x_top (y := (metN (M 16 (ix i)) (M 17 (ix i)) a b x)) (by unfold metN; (repeat (first | rw [if_pos (by assumption)] | rw [if_neg (by assumption)])) <;> first | rfl ) ?_
                exact J131
              · refine x_aload_n C (pc := 82) dX9_barredBits_82 0 rfl rfl ?_
                refine mG_boutUpper C fl_X9_57 dX9_barredBits_83 ?_
                refine x_iload C (pc := 86) dX9_barredBits_86 5 rfl ?_
                refine mL_boutUpper C dX9_barredBits_88 (by assumption) ?_
                refine x_iload_n C (pc := 89) dX9_barredBits_89 1 rfl rfl ?_
                refine x_icmp_ne C (pc := 90) (tgt := 104) dX9_barredBits_90 (by decide) (fun c90 => ?_) (fun c90 => ?_)
                · refine x_aload_n C (pc := 104) dX9_barredBits_104 0 rfl rfl ?_
                  refine mG_boutUpper C fl_X9_57 dX9_barredBits_105 ?_
                  refine x_iload C (pc := 108) dX9_barredBits_108 5 rfl ?_
                  refine mL_boutUpper C dX9_barredBits_110 (by assumption) ?_
                  refine x_iload_n C (pc := 111) dX9_barredBits_111 2 rfl rfl ?_
                  refine x_icmp_ne C (pc := 112) (tgt := 130) dX9_barredBits_112 (by decide) (fun c112 => ?_) (fun c112 => ?_)
                  · refine x_iconst C (pc := 130) (v := 0) dX9_barredBits_130 (by decide) ?_
                    refine x_top (y := (metN (M 16 (ix i)) (M 17 (ix i)) a b x)) (by unfold metN; (repeat (first | rw [if_pos (by assumption)] | rw [if_neg (by assumption)])) <;> first | rfl ) ?_
                    exact J131
                  · refine x_aload_n C (pc := 115) dX9_barredBits_115 0 rfl rfl ?_
                    refine mG_boutLower C fl_X9_60 dX9_barredBits_116 ?_
                    refine x_iload C (pc := 119) dX9_barredBits_119 5 rfl ?_
                    refine mL_boutLower C dX9_barredBits_121 (by assumption) ?_
                    refine x_iload_n C (pc := 122) dX9_barredBits_122 1 rfl rfl ?_
                    refine x_icmp_ne C (pc := 123) (tgt := 130) dX9_barredBits_123 (by decide) (fun c123 => ?_) (fun c123 => ?_)
                    · refine x_iconst C (pc := 130) (v := 0) dX9_barredBits_130 (by decide) ?_
                      refine x_top (y := (metN (M 16 (ix i)) (M 17 (ix i)) a b x)) (by unfold metN; (repeat (first | rw [if_pos (by assumption)] | rw [if_neg (by assumption)])) <;> first | rfl ) ?_
                      exact J131
                    · refine x_iconst C (pc := 126) (v := 1) dX9_barredBits_126 (by decide) ?_
                      refine x_goto C (pc := 127) (tgt := 131) dX9_barredBits_127 (by decide) ?_
                      refine x_top (y := (metN (M 16 (ix i)) (M 17 (ix i)) a b x)) (by unfold metN; (repeat (first | rw [if_pos (by assumption)] | rw [if_neg (by assumption)])) <;> first | rfl ) ?_
                      exact J131
                · refine x_aload_n C (pc := 93) dX9_barredBits_93 0 rfl rfl ?_
                  refine mG_boutLower C fl_X9_60 dX9_barredBits_94 ?_
                  refine x_iload C (pc := 97) dX9_barredBits_97 5 rfl ?_
                  refine mL_boutLower C dX9_barredBits_99 (by assumption) ?_
                  refine x_iload_n C (pc := 100) dX9_barredBits_100 2 rfl rfl ?_
                  refine x_icmp_eq C (pc := 101) (tgt := 126) dX9_barredBits_101 (by decide) (fun c101 => ?_) (fun c101 => ?_)
                  · refine x_iconst C (pc := 126) (v := 1) dX9_barredBits_126 (by decide) ?_
                    refine x_goto C (pc := 127) (tgt := 131) dX9_barredBits_127 (by decide) ?_
                    refine x_top (y := (metN (M 16 (ix i)) (M 17 (ix i)) a b x)) (by unfold metN; (repeat (first | rw [if_pos (by assumption)] | rw [if_neg (by assumption)])) <;> first | rfl ) ?_
                    exact J131
                  · refine x_aload_n C (pc := 104) dX9_barredBits_104 0 rfl rfl ?_
                    refine mG_boutUpper C fl_X9_57 dX9_barredBits_105 ?_
                    refine x_iload C (pc := 108) dX9_barredBits_108 5 rfl ?_
                    refine mL_boutUpper C dX9_barredBits_110 (by assumption) ?_
                    refine x_iload_n C (pc := 111) dX9_barredBits_111 2 rfl rfl ?_
                    refine x_icmp_ne C (pc := 112) (tgt := 130) dX9_barredBits_112 (by decide) (fun c112 => ?_) (fun c112 => ?_)
                    · refine x_iconst C (pc := 130) (v := 0) dX9_barredBits_130 (by decide) ?_
                      refine x_top (y := (metN (M 16 (ix i)) (M 17 (ix i)) a b x)) (by unfold metN; (repeat (first | rw [if_pos (by assumption)] | rw [if_neg (by assumption)])) <;> first | rfl ) ?_
                      exact J131
                    · refine x_aload_n C (pc := 115) dX9_barredBits_115 0 rfl rfl ?_
                      refine mG_boutLower C fl_X9_60 dX9_barredBits_116 ?_
                      refine x_iload C (pc := 119) dX9_barredBits_119 5 rfl ?_
                      refine mL_boutLower C dX9_barredBits_121 (by assumption) ?_
                      refine x_iload_n C (pc := 122) dX9_barredBits_122 1 rfl rfl ?_
                      refine x_icmp_ne C (pc := 123) (tgt := 130) dX9_barredBits_123 (by decide) (fun c123 => ?_) (fun c123 => ?_)
                      · refine x_iconst C (pc := 130) (v := 0) dX9_barredBits_130 (by decide) ?_
                        refine x_top (y := (metN (M 16 (ix i)) (M 17 (ix i)) a b x)) (by unfold metN; (repeat (first | rw [if_pos (by assumption)] | rw [if_neg (by assumption)])) <;> first | rfl ) ?_
                        exact J131
                      · refine x_iconst C (pc := 126) (v := 1) dX9_barredBits_126 (by decide) ?_
                        refine x_goto C (pc := 127) (tgt := 131) dX9_barredBits_127 (by decide) ?_
                        refine x_top (y := (metN (M 16 (ix i)) (M 17 (ix i)) a b x)) (by unfold metN; (repeat (first | rw [if_pos (by assumption)] | rw [if_neg (by assumption)])) <;> first | rfl ) ?_
                        exact J131
      exact L61 _ 0 0 0 (Nat.zero_le _) rfl rfl (fun _ => rfl) (Nat.lt_succ_self _)
    refine x_aload_n C (pc := 22) dX9_barredBits_22 0 rfl rfl ?_
    refine mG_kinOf C fl_X9_19 dX9_barredBits_23 ?_
    refine x_iload_n C (pc := 26) dX9_barredBits_26 1 rfl rfl ?_
    refine mL_kinOf C dX9_barredBits_27 (by assumption) ?_
    refine x_bipush C (pc := 28) (v := (-9)) dX9_barredBits_28 (by decide) ?_
    refine x_icmp_eq C (pc := 30) (tgt := 52) dX9_barredBits_30 (by decide) (fun c30 => ?_) (fun c30 => ?_)
    · refine x_iconst C (pc := 52) (v := 0) dX9_barredBits_52 (by decide) ?_
      refine x_top (y := (bb2 M a b)) (by unfold bb2; (repeat (first | rw [if_pos (by assumption)] | rw [if_neg (by assumption)])) <;> first | rfl ) ?_
      exact J53
    · refine x_aload_n C (pc := 33) dX9_barredBits_33 0 rfl rfl ?_
      refine mG_kinOf C fl_X9_19 dX9_barredBits_34 ?_
      refine x_iload_n C (pc := 37) dX9_barredBits_37 1 rfl rfl ?_
      refine mL_kinOf C dX9_barredBits_38 (by assumption) ?_
      refine x_aload_n C (pc := 39) dX9_barredBits_39 0 rfl rfl ?_
      refine mG_kinOf C fl_X9_19 dX9_barredBits_40 ?_
      refine x_iload_n C (pc := 43) dX9_barredBits_43 2 rfl rfl ?_
      refine mL_kinOf C dX9_barredBits_44 (by assumption) ?_
      refine x_icmp_ne C (pc := 45) (tgt := 52) dX9_barredBits_45 (by decide) (fun c45 => ?_) (fun c45 => ?_)
      · refine x_iconst C (pc := 52) (v := 0) dX9_barredBits_52 (by decide) ?_
        refine x_top (y := (bb2 M a b)) (by unfold bb2; (repeat (first | rw [if_pos (by assumption)] | rw [if_neg (by assumption)])) <;> first | rfl ) ?_
        exact J53
      · refine x_iconst C (pc := 48) (v := 2) dX9_barredBits_48 (by decide) ?_
        refine x_goto C (pc := 49) (tgt := 53) dX9_barredBits_49 (by decide) ?_
        refine x_top (y := (bb2 M a b)) (by unfold bb2; (repeat (first | rw [if_pos (by assumption)] | rw [if_neg (by assumption)])) <;> first | rfl ) ?_
        exact J53
  refine x_aload_n C (pc := 0) dX9_barredBits_0 0 rfl rfl ?_
  refine mG_stableOf C fl_X9_16 dX9_barredBits_1 ?_
  refine x_iload_n C (pc := 4) dX9_barredBits_4 1 rfl rfl ?_
  refine mL_stableOf C dX9_barredBits_5 (by assumption) ?_
  refine x_aload_n C (pc := 6) dX9_barredBits_6 0 rfl rfl ?_
  refine mG_stableOf C fl_X9_16 dX9_barredBits_7 ?_
  refine x_iload_n C (pc := 10) dX9_barredBits_10 2 rfl rfl ?_
  refine mL_stableOf C dX9_barredBits_11 (by assumption) ?_
  refine x_icmp_ne C (pc := 12) (tgt := 19) dX9_barredBits_12 (by decide) (fun c12 => ?_) (fun c12 => ?_)
  · refine x_iconst C (pc := 19) (v := 0) dX9_barredBits_19 (by decide) ?_
    refine x_top (y := (bb1 M a b)) (by unfold bb1; (repeat (first | rw [if_pos (by assumption)] | rw [if_neg (by assumption)])) <;> first | rfl ) ?_
    exact J20
  · refine x_iconst C (pc := 15) (v := 1) dX9_barredBits_15 (by decide) ?_
    refine x_goto C (pc := 16) (tgt := 20) dX9_barredBits_16 (by decide) ?_
    refine x_top (y := (bb1 M a b)) (by unfold bb1; (repeat (first | rw [if_pos (by assumption)] | rw [if_neg (by assumption)])) <;> first | rfl ) ?_
    exact J20
set_option maxHeartbeats 4000000 in
set_option maxRecDepth 100000 in
theorem c_X9_barred (l : Launch) (D : va_G) (G : Gx) (E B : Nat) (M : St) (a : Int32) (b : Int32) (hE : (M 101 0) = nI E) (hE16 : E ≤ 16) (hBt : (M 107 0) = nI B) (hB120 : B ≤ 120) : Ci l yX9_barred cX9_barred 3 (some .int) 2 (mw G) D (tyG G) [.ref (G.1 0), .int a, .int b] M (fun r X1 => r = (vM_barred M a b B) ∧ X1 = (sM_barred M a b)) := by
  refine m_i (nL := 3) (lv := [(0, .ref (G.1 0)), (1, .int a), (2, .int b)]) [.ref (G.1 0), .int a, .int b] RX9 rfl (mw_adr G) (by decide +kernel) (Nat.le_of_ble_eq_true rfl) rfl (fun K C ret => ?_)
  refine x_aload_n C (pc := 0) dX9_barred_0 0 rfl rfl ?_
  refine x_iload_n C (pc := 1) dX9_barred_1 1 rfl rfl ?_
  refine x_callVi C (pc := 2) [.int a] (fun l D => c_X9_isOne l D G M a ) (me_0 G _) rfl ml_X9_139 co_X9_isOne im_X9_isOne se_X9_isOne in_X9 hy_X9_isOne (by decide) (by decide) (Nat.le_of_ble_eq_true rfl) dX9_barred_2 rfl (kx ?_)
  refine x_if_eq C (pc := 5) (tgt := 21) dX9_barred_5 (by decide) (fun c5 => ?_) (fun c5 => ?_)
  · refine x_iconst C (pc := 21) (v := (-1)) dX9_barred_21 (by decide) ?_
    exact ret (-1) M 22 _ dX9_barred_22 ⟨by unfold vM_barred; (repeat (first | rw [if_pos (by assumption)] | rw [if_neg (by assumption)])) <;> first | rfl , by unfold sM_barred; (repeat (first | rw [if_pos (by assumption)] | rw [if_neg (by assumption)])) <;> first | rfl ⟩
  · refine x_aload_n C (pc := 8) dX9_barred_8 0 rfl rfl ?_
    refine x_iload_n C (pc := 9) dX9_barred_9 2 rfl rfl ?_
    refine x_callVi C (pc := 10) [.int b] (fun l D => c_X9_isOne l D G M b ) (me_0 G _) rfl ml_X9_139 co_X9_isOne im_X9_isOne se_X9_isOne in_X9 hy_X9_isOne (by decide) (by decide) (Nat.le_of_ble_eq_true rfl) dX9_barred_10 rfl (kx ?_)
    refine x_if_eq C (pc := 13) (tgt := 21) dX9_barred_13 (by decide) (fun c13 => ?_) (fun c13 => ?_)
    · refine x_iconst C (pc := 21) (v := (-1)) dX9_barred_21 (by decide) ?_
      exact ret (-1) M 22 _ dX9_barred_22 ⟨by unfold vM_barred; (repeat (first | rw [if_pos (by assumption)] | rw [if_neg (by assumption)])) <;> first | rfl , by unfold sM_barred; (repeat (first | rw [if_pos (by assumption)] | rw [if_neg (by assumption)])) <;> first | rfl ⟩
    · refine x_iload_n C (pc := 16) dX9_barred_16 1 rfl rfl ?_
      refine x_iload_n C (pc := 17) dX9_barred_17 2 rfl rfl ?_
      refine x_icmp_ne C (pc := 18) (tgt := 23) dX9_barred_18 (by decide) (fun c18 => ?_) (fun c18 => ?_)
      · have ha : vp_in a 16 := isOne_in c5 hE hE16
        have hb : vp_in b 16 := isOne_in c13 hE hE16
        refine x_aload_n C (pc := 23) dX9_barred_23 0 rfl rfl ?_
        refine mG_hasLeft C fl_X9_22 dX9_barred_24 ?_
        refine x_iload_n C (pc := 27) dX9_barred_27 1 rfl rfl ?_
        refine mL_hasLeft C dX9_barred_28 (by assumption) ?_
        refine x_if_ne C (pc := 29) (tgt := 41) dX9_barred_29 (by decide) (fun c29 => ?_) (fun c29 => ?_)
        · refine x_aload_n C (pc := 41) dX9_barred_41 0 rfl rfl ?_
          refine x_iconst C (pc := 42) (v := 1) dX9_barred_42 (by decide) ?_
          refine x_callVi C (pc := 43) [.int 1] (fun l D => c_X9_meets l D G M 1 in1_6) (me_0 G _) rfl ml_X9_143 co_X9_meets im_X9_meets se_X9_meets in_X9 hy_X9_meets (by decide) (by decide) (Nat.le_of_ble_eq_true rfl) dX9_barred_43 rfl (kx ?_)
          refine x_eqX (X' := (ux (ux M 100 0 1) 1 (ix 1) ((M 1 (ix 1)) + 1))) rfl ?_
          refine x_goto C (pc := 46) (tgt := 55) dX9_barred_46 (by decide) ?_
          exact ret (-3) (ux (ux M 100 0 1) 1 (ix 1) ((M 1 (ix 1)) + 1)) 55 _ dX9_barred_55 ⟨by unfold vM_barred; (repeat (first | rw [if_pos (by assumption)] | rw [if_neg (by assumption)])) <;> first | rfl , by unfold sM_barred; (repeat (first | rw [if_pos (by assumption)] | rw [if_neg (by assumption)])) <;> first | rfl ⟩
        · refine x_aload_n C (pc := 32) dX9_barred_32 0 rfl rfl ?_
          refine mG_hasLeft C fl_X9_22 dX9_barred_33 ?_
          refine x_iload_n C (pc := 36) dX9_barred_36 2 rfl rfl ?_
          refine mL_hasLeft C dX9_barred_37 (by assumption) ?_
          refine x_if_eq C (pc := 38) (tgt := 49) dX9_barred_38 (by decide) (fun c38 => ?_) (fun c38 => ?_)
          · refine x_aload_n C (pc := 49) dX9_barred_49 0 rfl rfl ?_
            refine x_iload_n C (pc := 50) dX9_barred_50 1 rfl rfl ?_
            refine x_iload_n C (pc := 51) dX9_barred_51 2 rfl rfl ?_
            refine x_callVi C (pc := 52) [.int a, .int b] (fun l D => c_X9_barredBits l D G B M a b ha hb hBt hB120) (me_0 G _) rfl ml_X9_179 co_X9_barredBits im_X9_barredBits se_X9_barredBits in_X9 hy_X9_barredBits (by decide) (by decide) (Nat.le_of_ble_eq_true rfl) dX9_barred_52 rfl (kx ?_)
            exact ret (vM_bars M a b B) M 55 _ dX9_barred_55 ⟨by unfold vM_barred; (repeat (first | rw [if_pos (by assumption)] | rw [if_neg (by assumption)])) <;> first | rfl , by unfold sM_barred; (repeat (first | rw [if_pos (by assumption)] | rw [if_neg (by assumption)])) <;> first | rfl ⟩
          · refine x_aload_n C (pc := 41) dX9_barred_41 0 rfl rfl ?_
            refine x_iconst C (pc := 42) (v := 1) dX9_barred_42 (by decide) ?_
            refine x_callVi C (pc := 43) [.int 1] (fun l D => c_X9_meets l D G M 1 in1_6) (me_0 G _) rfl ml_X9_143 co_X9_meets im_X9_meets se_X9_meets in_X9 hy_X9_meets (by decide) (by decide) (Nat.le_of_ble_eq_true rfl) dX9_barred_43 rfl (kx ?_)
            refine x_eqX (X' := (ux (ux M 100 0 1) 1 (ix 1) ((M 1 (ix 1)) + 1))) rfl ?_
            refine x_goto C (pc := 46) (tgt := 55) dX9_barred_46 (by decide) ?_
            exact ret (-3) (ux (ux M 100 0 1) 1 (ix 1) ((M 1 (ix 1)) + 1)) 55 _ dX9_barred_55 ⟨by unfold vM_barred; (repeat (first | rw [if_pos (by assumption)] | rw [if_neg (by assumption)])) <;> first | rfl , by unfold sM_barred; (repeat (first | rw [if_pos (by assumption)] | rw [if_neg (by assumption)])) <;> first | rfl ⟩
      · refine x_iconst C (pc := 21) (v := (-1)) dX9_barred_21 (by decide) ?_
        exact ret (-1) M 22 _ dX9_barred_22 ⟨by unfold vM_barred; (repeat (first | rw [if_pos (by assumption)] | rw [if_neg (by assumption)])) <;> first | rfl , by unfold sM_barred; (repeat (first | rw [if_pos (by assumption)] | rw [if_neg (by assumption)])) <;> first | rfl ⟩
set_option maxHeartbeats 4000000 in
set_option maxRecDepth 100000 in
theorem c_X9_leaderBits (l : Launch) (D : va_G) (G : Gx) (N : Nat) (M : St)  (hS : (M 102 0) = nI N) (hN16 : N ≤ 16) (hB : ∀ r, r < N → vp_in ((M 11) r) 16) : Ci l yX9_leaderBits cX9_leaderBits 4 (some .int) 0 (mw G) D (tyG G) [.ref (G.1 0)] M (fun r X1 => r = (ldB (M 7) (M 11) (mostW (M 7) (M 11) N) N) ∧ X1 = M) := by
  refine m_i (nL := 4) (lv := [(0, .ref (G.1 0))]) [.ref (G.1 0)] RX9 rfl (mw_adr G) (by decide +kernel) (Nat.le_of_ble_eq_true rfl) rfl (fun K C ret => ?_)
  refine x_iconst C (pc := 0) (v := 0) dX9_leaderBits_0 (by decide) ?_
  refine x_istore_n C (pc := 1) dX9_leaderBits_1 [(0, .ref (G.1 0)), (1, .int 0)] [1, 0] rfl (by decide) rfl ?_
  refine x_iconst C (pc := 2) (v := 0) dX9_leaderBits_2 (by decide) ?_
  refine x_istore_n C (pc := 3) dX9_leaderBits_3 [(0, .ref (G.1 0)), (1, .int 0), (2, .int 0)] [1, 2, 0] rfl (by decide) rfl ?_
  have L4 : ∀ (nu : Nat) (a : Int32) (i : Int32) (j : Nat), (j ≤ N) → (i = nI j) → (a = mostW (M 7) (M 11) j) → (N - j) < nu → WX K (mw G) 4 M 4 [(0, .ref (G.1 0)), (1, .int a), (2, .int i)] [] := by
    intro nu
    induction nu with
    | zero => intro a i j hj hi ha hmu4; exact absurd hmu4 (Nat.not_lt_zero _)
    | succ n4 ih4 =>
      intro a i j hj hi ha hmu4
      refine x_iload_n C (pc := 4) dX9_leaderBits_4 2 rfl rfl ?_
      refine x_aload_n C (pc := 5) dX9_leaderBits_5 0 rfl rfl ?_
      refine mG_there C fl_X9_126 dX9_leaderBits_6 ?_
      refine x_icmp_ge C (pc := 9) (tgt := 49) dX9_leaderBits_9 (by decide) (fun c9 => ?_) (fun c9 => ?_)
      · have hjN : j = N := by have := geN hi hS c9 (by omega); omega
        refine x_iconst C (pc := 49) (v := 0) dX9_leaderBits_49 (by decide) ?_
        refine x_istore_n C (pc := 50) dX9_leaderBits_50 [(0, .ref (G.1 0)), (1, .int a), (2, .int 0)] [1, 2, 0] rfl (by decide) rfl ?_
        refine x_iconst C (pc := 51) (v := 0) dX9_leaderBits_51 (by decide) ?_
        refine x_istore_n C (pc := 52) dX9_leaderBits_52 [(0, .ref (G.1 0)), (1, .int a), (2, .int 0), (3, .int 0)] [1, 2, 3, 0] rfl (by decide) rfl ?_
        have L53 : ∀ (nu : Nat) (b : Int32) (i : Int32) (j : Nat) (m : Int32), (j ≤ N) → (i = nI j) → (m = mostW (M 7) (M 11) N) → (b = ldB (M 7) (M 11) (mostW (M 7) (M 11) N) j) → (N - j) < nu → WX K (mw G) 4 M 53 [(0, .ref (G.1 0)), (1, .int m), (2, .int b), (3, .int i)] [] := by
          intro nu
          induction nu with
          | zero => intro b i j m hj hi hm hb hmu53; exact absurd hmu53 (Nat.not_lt_zero _)
          | succ n53 ih53 =>
            intro b i j m hj hi hm hb hmu53
            refine x_iload_n C (pc := 53) dX9_leaderBits_53 3 rfl rfl ?_
            refine x_aload_n C (pc := 54) dX9_leaderBits_54 0 rfl rfl ?_
            refine mG_there C fl_X9_126 dX9_leaderBits_55 ?_
            refine x_icmp_ge C (pc := 58) (tgt := 97) dX9_leaderBits_58 (by decide) (fun c58 => ?_) (fun c58 => ?_)
            · have hjN2 : j = N := by have := geN hi hS c58 (by omega); omega
              refine x_iload_n C (pc := 97) dX9_leaderBits_97 2 rfl rfl ?_
              exact ret b M 98 _ dX9_leaderBits_98 ⟨by rw [hb, hjN2], rfl⟩
            · have hlt : j < N := ltN hi hS c58 (by omega)
              have hin : vp_in i 16 := by rw [hi]; exact vp_in_nI (by omega) (by decide)
              have hix : ix i = j := by rw [hi]; exact ix_nI (by omega)
              have hin2 : vp_in ((M 11) (ix i)) 16 := by rw [hix]; exact hB j hlt
              refine x_iload_n C (pc := 61) dX9_leaderBits_61 2 rfl rfl ?_
              have J89 : WX K (mw G) 4 M 89 [(0, .ref (G.1 0)), (1, .int m), (2, .int b), (3, .int i)] [.int (if (M 7 (ix (M 11 (ix i)))) = m then 1 <<< ((M 11 (ix i)) &&& 31) else 0), .int b] := by
                refine x_ior C (pc := 89) dX9_leaderBits_89 ?_
                refine x_istore_n C (pc := 90) dX9_leaderBits_90 [(0, .ref (G.1 0)), (1, .int m), (2, .int (b ||| (if (M 7 (ix (M 11 (ix i)))) = m then 1 <<< ((M 11 (ix i)) &&& 31) else 0))), (3, .int i)] [1, 2, 0, 3] rfl (by decide) rfl ?_
                refine x_iinc C (pc := 91) (v := i + 1) dX9_leaderBits_91 3 [(0, .ref (G.1 0)), (1, .int m), (2, .int (b ||| (if (M 7 (ix (M 11 (ix i)))) = m then 1 <<< ((M 11 (ix i)) &&& 31) else 0))), (3, .int (i + 1))] [1, 2, 3, 0] rfl (by rfl) (by decide) rfl ?_
                refine x_goto C (pc := 94) (tgt := 53) dX9_leaderBits_94 (by decide) ?_
                exact ih53 (b ||| (if (M 7 (ix (M 11 (ix i)))) = m then 1 <<< ((M 11 (ix i)) &&& 31) else 0)) (i + 1) (j + 1) m (by omega) (by rw [hi]; exact nI_1 j) hm (by rw [ldB, hb, hix, hm]; exact or_ite _ _ _) (by omega)
              refine x_aload_n C (pc := 62) dX9_leaderBits_62 0 rfl rfl ?_
              refine mG_winsOf C fl_X9_29 dX9_leaderBits_63 ?_
              refine x_aload_n C (pc := 66) dX9_leaderBits_66 0 rfl rfl ?_
              refine mG_rungs C fl_X9_41 dX9_leaderBits_67 ?_
              refine x_iload_n C (pc := 70) dX9_leaderBits_70 3 rfl rfl ?_
              refine mL_rungs C dX9_leaderBits_71 (by assumption) ?_
              refine mL_winsOf C dX9_leaderBits_72 (by assumption) ?_
              refine x_iload_n C (pc := 73) dX9_leaderBits_73 1 rfl rfl ?_
              refine x_icmp_ne C (pc := 74) (tgt := 88) dX9_leaderBits_74 (by decide) (fun c74 => ?_) (fun c74 => ?_)
              · refine x_iconst C (pc := 88) (v := 0) dX9_leaderBits_88 (by decide) ?_
                refine x_top (y := (if (M 7 (ix (M 11 (ix i)))) = m then 1 <<< ((M 11 (ix i)) &&& 31) else 0)) ((if_neg c74).symm) ?_
                exact J89
              · refine x_iconst C (pc := 77) (v := 1) dX9_leaderBits_77 (by decide) ?_
                refine x_aload_n C (pc := 78) dX9_leaderBits_78 0 rfl rfl ?_
                refine mG_rungs C fl_X9_41 dX9_leaderBits_79 ?_
                refine x_iload_n C (pc := 82) dX9_leaderBits_82 3 rfl rfl ?_
                refine mL_rungs C dX9_leaderBits_83 (by assumption) ?_
                refine x_ishl C (pc := 84) dX9_leaderBits_84 ?_
                refine x_goto C (pc := 85) (tgt := 89) dX9_leaderBits_85 (by decide) ?_
                refine x_top (y := (if (M 7 (ix (M 11 (ix i)))) = m then 1 <<< ((M 11 (ix i)) &&& 31) else 0)) ((if_pos c74).symm) ?_
                exact J89
        exact L53 _ 0 0 0 a (Nat.zero_le _) rfl (by rw [ha, hjN]) rfl (Nat.lt_succ_self _)
      · have hlt : j < N := ltN hi hS c9 (by omega)
        have hin : vp_in i 16 := by rw [hi]; exact vp_in_nI (by omega) (by decide)
        have hix : ix i = j := by rw [hi]; exact ix_nI (by omega)
        have hin2 : vp_in ((M 11) (ix i)) 16 := by rw [hix]; exact hB j hlt
        have J42 : WX K (mw G) 4 M 42 [(0, .ref (G.1 0)), (1, .int a), (2, .int i)] [.int (if a < (M 7 (ix (M 11 (ix i)))) then (M 7 (ix (M 11 (ix i)))) else a)] := by
          refine x_istore_n C (pc := 42) dX9_leaderBits_42 [(0, .ref (G.1 0)), (1, .int (if a < (M 7 (ix (M 11 (ix i)))) then (M 7 (ix (M 11 (ix i)))) else a)), (2, .int i)] [1, 0, 2] rfl (by decide) rfl ?_
          refine x_iinc C (pc := 43) (v := i + 1) dX9_leaderBits_43 2 [(0, .ref (G.1 0)), (1, .int (if a < (M 7 (ix (M 11 (ix i)))) then (M 7 (ix (M 11 (ix i)))) else a)), (2, .int (i + 1))] [1, 2, 0] rfl (by rfl) (by decide) rfl ?_
          refine x_goto C (pc := 46) (tgt := 4) dX9_leaderBits_46 (by decide) ?_
          exact ih4 (if a < (M 7 (ix (M 11 (ix i)))) then (M 7 (ix (M 11 (ix i)))) else a) (i + 1) (j + 1) (by omega) (by rw [hi]; exact nI_1 j) (by rw [mostW, ha, hix]) (by omega)
        refine x_aload_n C (pc := 12) dX9_leaderBits_12 0 rfl rfl ?_
        refine mG_winsOf C fl_X9_29 dX9_leaderBits_13 ?_
        refine x_aload_n C (pc := 16) dX9_leaderBits_16 0 rfl rfl ?_
        refine mG_rungs C fl_X9_41 dX9_leaderBits_17 ?_
        refine x_iload_n C (pc := 20) dX9_leaderBits_20 2 rfl rfl ?_
        refine mL_rungs C dX9_leaderBits_21 (by assumption) ?_
        refine mL_winsOf C dX9_leaderBits_22 (by assumption) ?_
        refine x_iload_n C (pc := 23) dX9_leaderBits_23 1 rfl rfl ?_
        refine x_icmp_le C (pc := 24) (tgt := 41) dX9_leaderBits_24 (by decide) (fun c24 => ?_) (fun c24 => ?_)
        · refine x_iload_n C (pc := 41) dX9_leaderBits_41 1 rfl rfl ?_
          refine x_top (y := (if a < (M 7 (ix (M 11 (ix i)))) then (M 7 (ix (M 11 (ix i)))) else a)) ((if_neg (Int32.not_lt.mpr c24)).symm) ?_
          exact J42
        · refine x_aload_n C (pc := 27) dX9_leaderBits_27 0 rfl rfl ?_
          refine mG_winsOf C fl_X9_29 dX9_leaderBits_28 ?_
          refine x_aload_n C (pc := 31) dX9_leaderBits_31 0 rfl rfl ?_
          refine mG_rungs C fl_X9_41 dX9_leaderBits_32 ?_
          refine x_iload_n C (pc := 35) dX9_leaderBits_35 2 rfl rfl ?_
          refine mL_rungs C dX9_leaderBits_36 (by assumption) ?_
          refine mL_winsOf C dX9_leaderBits_37 (by assumption) ?_
          refine x_goto C (pc := 38) (tgt := 42) dX9_leaderBits_38 (by decide) ?_
          refine x_top (y := (if a < (M 7 (ix (M 11 (ix i)))) then (M 7 (ix (M 11 (ix i)))) else a)) ((if_pos (Int32.not_le.mp c24)).symm) ?_
          exact J42
  exact L4 _ 0 0 0 (Nat.zero_le _) rfl rfl (Nat.lt_succ_self _)
set_option maxHeartbeats 4000000 in
set_option maxRecDepth 100000 in
theorem c_X9_leaders (l : Launch) (D : va_G) (G : Gx) (N : Nat) (M : St)  (hS : (M 102 0) = nI N) (hN16 : N ≤ 16) (hB : ∀ r, r < N → vp_in ((M 11) r) 16) : Ci l yX9_leaders cX9_leaders 1 (some .int) 1 (mw G) D (tyG G) [.ref (G.1 0)] M (fun r X1 => r = (vM_leaders M N) ∧ X1 = M) := by
  refine m_i (nL := 1) (lv := [(0, .ref (G.1 0))]) [.ref (G.1 0)] RX9 rfl (mw_adr G) (by decide +kernel) (Nat.le_of_ble_eq_true rfl) rfl (fun K C ret => ?_)
  refine x_aload_n C (pc := 0) dX9_leaders_0 0 rfl rfl ?_
  refine mG_isMeet C fl_X9_132 dX9_leaders_1 ?_
  refine x_if_eq C (pc := 4) (tgt := 14) dX9_leaders_4 (by decide) (fun c4 => ?_) (fun c4 => ?_)
  · refine x_bipush C (pc := 14) (v := (-4)) dX9_leaders_14 (by decide) ?_
    exact ret (-4) M 16 _ dX9_leaders_16 ⟨by unfold vM_leaders; (repeat (first | rw [if_pos (by assumption)] | rw [if_neg (by assumption)])) <;> first | rfl , rfl⟩
  · refine x_aload_n C (pc := 7) dX9_leaders_7 0 rfl rfl ?_
    refine x_callVi C (pc := 8) [] (fun l D => c_X9_leaderBits l D G N M hS hN16 hB) (me_0 G _) rfl ml_X9_229 co_X9_leaderBits im_X9_leaderBits se_X9_leaderBits in_X9 hy_X9_leaderBits (by decide) (by decide) (Nat.le_of_ble_eq_true rfl) dX9_leaders_8 rfl (kx ?_)
    refine x_goto C (pc := 11) (tgt := 16) dX9_leaders_11 (by decide) ?_
    exact ret (ldB (M 7) (M 11) (mostW (M 7) (M 11) N) N) M 16 _ dX9_leaders_16 ⟨by unfold vM_leaders; (repeat (first | rw [if_pos (by assumption)] | rw [if_neg (by assumption)])) <;> first | rfl , rfl⟩
set_option maxHeartbeats 4000000 in
set_option maxRecDepth 100000 in
theorem c_X9_playOff (l : Launch) (D : va_G) (G : Gx) (N : Nat) (M : St)  (hS : (M 102 0) = nI N) (hN16 : N ≤ 16) (hB : ∀ r, r < N → vp_in ((M 11) r) 16) : Ci l yX9_playOff cX9_playOff 3 (some .int) 1 (mw G) D (tyG G) [.ref (G.1 0)] M (fun r X1 => r = (vM_playOff M N) ∧ X1 = (sM_playOff M N)) := by
  refine m_i (nL := 3) (lv := [(0, .ref (G.1 0))]) [.ref (G.1 0)] RX9 rfl (mw_adr G) (by decide +kernel) (Nat.le_of_ble_eq_true rfl) rfl (fun K C ret => ?_)
  refine x_aload_n C (pc := 0) dX9_playOff_0 0 rfl rfl ?_
  refine mG_isMeet C fl_X9_132 dX9_playOff_1 ?_
  refine x_if_eq C (pc := 4) (tgt := 39) dX9_playOff_4 (by decide) (fun c4 => ?_) (fun c4 => ?_)
  · refine x_bipush C (pc := 39) (v := (-4)) dX9_playOff_39 (by decide) ?_
    exact ret (-4) M 41 _ dX9_playOff_41 ⟨by unfold vM_playOff; (repeat (first | rw [if_pos (by assumption)] | rw [if_neg (by assumption)])) <;> first | rfl , by unfold sM_playOff; (repeat (first | rw [if_pos (by assumption)] | rw [if_neg (by assumption)])) <;> first | rfl ⟩
  · refine x_aload_n C (pc := 7) dX9_playOff_7 0 rfl rfl ?_
    refine mG_drawn C fl_X9_167 dX9_playOff_8 ?_
    refine x_aload_n C (pc := 11) dX9_playOff_11 0 rfl rfl ?_
    refine mG_days C fl_X9_164 dX9_playOff_12 ?_
    refine x_icmp_lt C (pc := 15) (tgt := 39) dX9_playOff_15 (by decide) (fun c15 => ?_) (fun c15 => ?_)
    · refine x_bipush C (pc := 39) (v := (-4)) dX9_playOff_39 (by decide) ?_
      exact ret (-4) M 41 _ dX9_playOff_41 ⟨by unfold vM_playOff; (repeat (first | rw [if_pos (by assumption)] | rw [if_neg (by assumption)])) <;> first | rfl , by unfold sM_playOff; (repeat (first | rw [if_pos (by assumption)] | rw [if_neg (by assumption)])) <;> first | rfl ⟩
    · refine x_aload_n C (pc := 18) dX9_playOff_18 0 rfl rfl ?_
      refine mG_lacking C fl_X9_173 dX9_playOff_19 ?_
      refine x_if_gt C (pc := 22) (tgt := 39) dX9_playOff_22 (by decide) (fun c22 => ?_) (fun c22 => ?_)
      · refine x_bipush C (pc := 39) (v := (-4)) dX9_playOff_39 (by decide) ?_
        exact ret (-4) M 41 _ dX9_playOff_41 ⟨by unfold vM_playOff; (repeat (first | rw [if_pos (by assumption)] | rw [if_neg (by assumption)])) <;> first | rfl , by unfold sM_playOff; (repeat (first | rw [if_pos (by assumption)] | rw [if_neg (by assumption)])) <;> first | rfl ⟩
      · refine x_aload_n C (pc := 25) dX9_playOff_25 0 rfl rfl ?_
        refine mG_hadPlayOff C fl_X9_176 dX9_playOff_26 ?_
        refine x_if_ne C (pc := 29) (tgt := 39) dX9_playOff_29 (by decide) (fun c29 => ?_) (fun c29 => ?_)
        · refine x_bipush C (pc := 39) (v := (-4)) dX9_playOff_39 (by decide) ?_
          exact ret (-4) M 41 _ dX9_playOff_41 ⟨by unfold vM_playOff; (repeat (first | rw [if_pos (by assumption)] | rw [if_neg (by assumption)])) <;> first | rfl , by unfold sM_playOff; (repeat (first | rw [if_pos (by assumption)] | rw [if_neg (by assumption)])) <;> first | rfl ⟩
        · refine x_aload_n C (pc := 32) dX9_playOff_32 0 rfl rfl ?_
          refine mG_there C fl_X9_126 dX9_playOff_33 ?_
          refine x_if_ne C (pc := 36) (tgt := 42) dX9_playOff_36 (by decide) (fun c36 => ?_) (fun c36 => ?_)
          · refine x_aload_n C (pc := 42) dX9_playOff_42 0 rfl rfl ?_
            refine x_iconst C (pc := 43) (v := 1) dX9_playOff_43 (by decide) ?_
            refine mP_hadPlayOff C fl_X9_176 (v := 1) (by decide) (by decide) dX9_playOff_44 ?_
            refine x_aload_n C (pc := 47) dX9_playOff_47 0 rfl rfl ?_
            refine x_callVi C (pc := 48) [] (fun l D => c_X9_leaderBits l D G N (ux M 116 0 1) hS hN16 hB) (me_0 G _) rfl ml_X9_229 co_X9_leaderBits im_X9_leaderBits se_X9_leaderBits in_X9 hy_X9_leaderBits (by decide) (by decide) (Nat.le_of_ble_eq_true rfl) dX9_playOff_48 rfl (kx ?_)
            refine x_top (y := ldB (M 7) (M 11) (mostW (M 7) (M 11) N) N) rfl ?_
            refine x_istore_n C (pc := 51) dX9_playOff_51 [(0, .ref (G.1 0)), (1, .int (ldB (M 7) (M 11) (mostW (M 7) (M 11) N) N))] [1, 0] rfl (by decide) rfl ?_
            refine x_aload_n C (pc := 52) dX9_playOff_52 0 rfl rfl ?_
            refine x_iconst C (pc := 53) (v := 0) dX9_playOff_53 (by decide) ?_
            refine mP_playMany C fl_X9_216 (v := 0) dX9_playOff_54 ?_
            refine x_iconst C (pc := 57) (v := 0) dX9_playOff_57 (by decide) ?_
            refine x_istore_n C (pc := 58) dX9_playOff_58 [(0, .ref (G.1 0)), (1, .int (ldB (M 7) (M 11) (mostW (M 7) (M 11) N) N)), (2, .int 0)] [1, 2, 0] rfl (by decide) rfl ?_
            have L59 : ∀ (nu : Nat) (N1 : St) (i : Int32) (j : Nat), (j ≤ N) → (i = nI j) → (N1 = poM M (mostW (M 7) (M 11) N) j) → (N - j) < nu → WX K (mw G) 3 N1 59 [(0, .ref (G.1 0)), (1, .int (ldB (M 7) (M 11) (mostW (M 7) (M 11) N) N)), (2, .int i)] [] := by
              intro nu
              induction nu with
              | zero => intro N1 i j hj hi hY hmu59; exact absurd hmu59 (Nat.not_lt_zero _)
              | succ n59 ih59 =>
                intro N1 i j hj hi hY hmu59
                refine x_iload_n C (pc := 59) dX9_playOff_59 2 rfl rfl ?_
                refine x_aload_n C (pc := 60) dX9_playOff_60 0 rfl rfl ?_
                refine mG_there C fl_X9_126 dX9_playOff_61 ?_
                refine x_icmp_ge C (pc := 64) (tgt := 112) dX9_playOff_64 (by decide) (fun c64 => ?_) (fun c64 => ?_)
                · have hYs : (N1 102 0) = nI N := by rw [hY]; exact hS
                  have hjN : j = N := by have := geN hi hYs c64 (by omega); omega
                  rw [hjN] at hY
                  have h1 : (N1 117 0) = 1 → vp_in ((N1 33) 0) 16 := fun h => by
                    have hYl : (N1 117 0) = nI (plC (M 7) (M 11) (mostW (M 7) (M 11) N) N) := by rw [hY]; rfl
                    have hcl := plC_le (M 7) (M 11) (mostW (M 7) (M 11) N) N
                    rw [hYl] at h
                    have h2 : plC (M 7) (M 11) (mostW (M 7) (M 11) N) N = 1 := (nI_eq (by omega) (by decide : 1 < 2 ^ 31)).mp h
                    rw [hY]
                    exact plR_in N hB 0 (by omega)
                  refine x_aload_n C (pc := 112) dX9_playOff_112 0 rfl rfl ?_
                  refine x_callVi C (pc := 113) [] (fun l D => c_X9_left l D G N1 h1) (me_0 G _) rfl ml_X9_233 co_X9_left im_X9_left se_X9_left in_X9 hy_X9_left (by decide) (by decide) (Nat.le_of_ble_eq_true rfl) dX9_playOff_113 rfl (kx ?_)
                  exact ret (vM_left N1) (sM_left N1) 116 _ dX9_playOff_116 ⟨by rw [hY]; unfold vM_playOff; rw [if_neg c4, if_neg c15, if_neg c22, if_pos c29, if_neg c36], by rw [hY]; unfold sM_playOff; rw [if_neg c4, if_neg c15, if_neg c22, if_pos c29, if_neg c36]⟩
                · have hYs : (N1 102 0) = nI N := by rw [hY]; exact hS
                  have hlt : j < N := ltN hi hYs c64 (by omega)
                  have hin : vp_in i 16 := by rw [hi]; exact vp_in_nI (by omega) (by decide)
                  have hix : ix i = j := by rw [hi]; exact ix_nI (by omega)
                  have hYb : (N1 11) = (M 11) := by rw [hY]; rfl
                  have hin2 : vp_in ((N1 11) (ix i)) 16 := by rw [hYb, hix]; exact hB j hlt
                  have hYl : (N1 117 0) = nI (plC (M 7) (M 11) (mostW (M 7) (M 11) N) j) := by rw [hY]; rfl
                  have hcl := plC_le (M 7) (M 11) (mostW (M 7) (M 11) N) j
                  refine x_iload_n C (pc := 67) dX9_playOff_67 1 rfl rfl ?_
                  refine x_aload_n C (pc := 68) dX9_playOff_68 0 rfl rfl ?_
                  refine mG_rungs C fl_X9_41 dX9_playOff_69 ?_
                  refine x_iload_n C (pc := 72) dX9_playOff_72 2 rfl rfl ?_
                  refine mL_rungs C dX9_playOff_73 (by assumption) ?_
                  refine x_ishr C (pc := 74) dX9_playOff_74 ?_
                  refine x_iconst C (pc := 75) (v := 1) dX9_playOff_75 (by decide) ?_
                  refine x_iand C (pc := 76) dX9_playOff_76 ?_
                  refine x_iconst C (pc := 77) (v := 1) dX9_playOff_77 (by decide) ?_
                  refine x_icmp_ne C (pc := 78) (tgt := 106) dX9_playOff_78 (by decide) (fun c78 => ?_) (fun c78 => ?_)
                  · refine x_iinc C (pc := 106) (v := i + 1) dX9_playOff_106 2 [(0, .ref (G.1 0)), (1, .int (ldB (M 7) (M 11) (mostW (M 7) (M 11) N) N)), (2, .int (i + 1))] [1, 2, 0] rfl (by rfl) (by decide) rfl ?_
                    refine x_goto C (pc := 109) (tgt := 59) dX9_playOff_109 (by decide) ?_
                    exact ih59 N1 (i + 1) (j + 1) (by omega) (by rw [hi]; exact nI_1 j) (by rw [hYb, hix, ldB_at hB hlt] at c78; first | (rw [hYl, ix_nI (by omega), hYb, hix, hY]; exact poM_step c78) | (rw [hY]; exact poM_skip c78)) (by omega)
                  · have hinl : vp_in (N1 117 0) 16 := by rw [hYl]; exact vp_in_nI (by omega) (by decide)
                    refine x_aload_n C (pc := 81) dX9_playOff_81 0 rfl rfl ?_
                    refine mG_play C fl_X9_109 dX9_playOff_82 ?_
                    refine x_aload_n C (pc := 85) dX9_playOff_85 0 rfl rfl ?_
                    refine mG_playMany C fl_X9_216 dX9_playOff_86 ?_
                    refine x_aload_n C (pc := 89) dX9_playOff_89 0 rfl rfl ?_
                    refine mG_rungs C fl_X9_41 dX9_playOff_90 ?_
                    refine x_iload_n C (pc := 93) dX9_playOff_93 2 rfl rfl ?_
                    refine mL_rungs C dX9_playOff_94 (by assumption) ?_
                    refine mS_play C dX9_playOff_95 (by assumption) ?_
                    refine x_aload_n C (pc := 96) dX9_playOff_96 0 rfl rfl ?_
                    refine x_dup C (pc := 97) dX9_playOff_97 rfl ?_
                    refine mG_playMany C fl_X9_216 dX9_playOff_98 ?_
                    refine x_top (y := (N1 117 0)) rfl ?_
                    refine x_iconst C (pc := 101) (v := 1) dX9_playOff_101 (by decide) ?_
                    refine x_iadd C (pc := 102) dX9_playOff_102 ?_
                    refine mP_playMany C fl_X9_216 (v := (N1 117 0) + 1) dX9_playOff_103 ?_
                    refine x_iinc C (pc := 106) (v := i + 1) dX9_playOff_106 2 [(0, .ref (G.1 0)), (1, .int (ldB (M 7) (M 11) (mostW (M 7) (M 11) N) N)), (2, .int (i + 1))] [1, 2, 0] rfl (by rfl) (by decide) rfl ?_
                    refine x_goto C (pc := 109) (tgt := 59) dX9_playOff_109 (by decide) ?_
                    exact ih59 (ux (ux N1 33 (ix (N1 117 0)) (N1 11 (ix i))) 117 0 ((N1 117 0) + 1)) (i + 1) (j + 1) (by omega) (by rw [hi]; exact nI_1 j) (by rw [hYb, hix, ldB_at hB hlt] at c78; first | (rw [hYl, ix_nI (by omega), hYb, hix, hY]; exact poM_step c78) | (rw [hY]; exact poM_skip c78)) (by omega)
            exact L59 _ (ux (ux M 116 0 1) 117 0 0) 0 0 (Nat.zero_le _) rfl poM_0.symm (Nat.lt_succ_self _)
          · refine x_bipush C (pc := 39) (v := (-4)) dX9_playOff_39 (by decide) ?_
            exact ret (-4) M 41 _ dX9_playOff_41 ⟨by unfold vM_playOff; (repeat (first | rw [if_pos (by assumption)] | rw [if_neg (by assumption)])) <;> first | rfl , by unfold sM_playOff; (repeat (first | rw [if_pos (by assumption)] | rw [if_neg (by assumption)])) <;> first | rfl ⟩
theorem setM_0 {M : St} {f : Int32} {N : Nat} (hL : (M 117 0) = nI N) (h2 : 2 ≤ N) (h16 : N ≤ 16) (hR : ∀ r, r < N → vp_in ((M 33) r) 16) : sM_set M f N 117 0 = 1 → vp_in (sM_set M f N 33 0) 16 := by
  intro _
  show vp_in (upd (shf (M 33) N) (ix ((M 117 0) - 2)) (vM_won M f) 0) 16
  have e2 : nI N - 2 = nI (N - 2) := pk_sub h2
  rw [hL, e2, ix_nI (by omega)]
  simp only [upd]
  by_cases e : 0 = N - 2
  · rw [if_pos e]
    unfold vM_won
    by_cases hf : f = 0
    · rw [if_pos hf]; exact hR 1 (by omega)
    · rw [if_neg hf]; exact hR 0 (by omega)
  · rw [if_neg e]
    simp only [shf]
    by_cases h : 0 + 2 < N
    · rw [if_pos h]; exact hR _ h
    · rw [if_neg h]; exact hR 0 (by omega)

set_option maxHeartbeats 4000000 in
set_option maxRecDepth 100000 in
theorem c_X9_wins (l : Launch) (D : va_G) (G : Gx) (N : Nat) (M : St) (f : Int32) (hL : (M 117 0) = nI N) (hN16 : N ≤ 16) (hR : ∀ r, r < N → vp_in ((M 33) r) 16) : Ci l yX9_wins cX9_wins 4 (some .int) 1 (mw G) D (tyG G) [.ref (G.1 0), .int f] M (fun r X1 => r = (vM_wins M f N) ∧ X1 = (sM_wins M f N)) := by
  refine m_i (nL := 4) (lv := [(0, .ref (G.1 0)), (1, .int f)]) [.ref (G.1 0), .int f] RX9 rfl (mw_adr G) (by decide +kernel) (Nat.le_of_ble_eq_true rfl) rfl (fun K C ret => ?_)
  refine x_aload_n C (pc := 0) dX9_wins_0 0 rfl rfl ?_
  refine mG_playMany C fl_X9_216 dX9_wins_1 ?_
  refine x_iconst C (pc := 4) (v := 2) dX9_wins_4 (by decide) ?_
  refine x_icmp_ge C (pc := 5) (tgt := 11) dX9_wins_5 (by decide) (fun c5 => ?_) (fun c5 => ?_)
  · have h2 : 2 ≤ N := (nI_leI (by decide : 2 < 2 ^ 31) (by omega)).mp (by rw [← hL]; exact c5)
    have J25 : WX K (mw G) 4 M 25 [(0, .ref (G.1 0)), (1, .int f)] [.int (vM_won M f)] := by
      refine x_istore_n C (pc := 25) dX9_wins_25 [(0, .ref (G.1 0)), (1, .int f), (2, .int (vM_won M f))] [1, 2, 0] rfl (by decide) rfl ?_
      refine x_iconst C (pc := 26) (v := 2) dX9_wins_26 (by decide) ?_
      refine x_istore_n C (pc := 27) dX9_wins_27 [(0, .ref (G.1 0)), (1, .int f), (2, .int (vM_won M f)), (3, .int 2)] [1, 2, 3, 0] rfl (by decide) rfl ?_
      have L28 : ∀ (nu : Nat) (i : Int32) (j : Nat), (2 ≤ j) → (j ≤ N) → (i = nI j) → (N - j) < nu → WX K (mw G) 4 (sr M 33 (shf (M 33) j)) 28 [(0, .ref (G.1 0)), (1, .int f), (2, .int (vM_won M f)), (3, .int i)] [] := by
        intro nu
        induction nu with
        | zero => intro i j hj hjN hi hmu28; exact absurd hmu28 (Nat.not_lt_zero _)
        | succ n28 ih28 =>
          intro i j hj hjN hi hmu28
          refine x_iload_n C (pc := 28) dX9_wins_28 3 rfl rfl ?_
          refine x_aload_n C (pc := 29) dX9_wins_29 0 rfl rfl ?_
          refine mG_playMany C fl_X9_216 dX9_wins_30 ?_
          refine x_top (y := (M 117 0)) rfl ?_
          refine x_icmp_ge C (pc := 33) (tgt := 56) dX9_wins_33 (by decide) (fun c33 => ?_) (fun c33 => ?_)
          · have hjj : j = N := by have := geN hi hL c33 (by omega); omega
            have hl2 : (M 117 0) - 2 = nI (N - 2) := by rw [hL]; exact pk_sub h2
            have hin2 : vp_in ((M 117 0) - 2) 16 := by rw [hl2]; exact vp_in_nI (by omega) (by decide)
            refine x_aload_n C (pc := 56) dX9_wins_56 0 rfl rfl ?_
            refine mG_play C fl_X9_109 dX9_wins_57 ?_
            refine x_aload_n C (pc := 60) dX9_wins_60 0 rfl rfl ?_
            refine mG_playMany C fl_X9_216 dX9_wins_61 ?_
            refine x_top (y := (M 117 0)) rfl ?_
            refine x_iconst C (pc := 64) (v := 2) dX9_wins_64 (by decide) ?_
            refine x_isub C (pc := 65) dX9_wins_65 ?_
            refine x_iload_n C (pc := 66) dX9_wins_66 2 rfl rfl ?_
            refine mS_play C dX9_wins_67 (by assumption) ?_
            refine x_aload_n C (pc := 68) dX9_wins_68 0 rfl rfl ?_
            refine x_dup C (pc := 69) dX9_wins_69 rfl ?_
            refine mG_playMany C fl_X9_216 dX9_wins_70 ?_
            refine x_top (y := (M 117 0)) rfl ?_
            refine x_iconst C (pc := 73) (v := 1) dX9_wins_73 (by decide) ?_
            refine x_isub C (pc := 74) dX9_wins_74 ?_
            refine mP_playMany C fl_X9_216 (v := (M 117 0) - 1) dX9_wins_75 ?_
            refine x_eqX (X' := (sM_set M f N)) (by rw [hjj]; rfl) ?_
            refine x_aload_n C (pc := 78) dX9_wins_78 0 rfl rfl ?_
            refine x_callVi C (pc := 79) [] (fun l D => c_X9_left l D G (sM_set M f N) (setM_0 hL h2 hN16 hR)) (me_0 G _) rfl ml_X9_233 co_X9_left im_X9_left se_X9_left in_X9 hy_X9_left (by decide) (by decide) (Nat.le_of_ble_eq_true rfl) dX9_wins_79 rfl (kx ?_)
            exact ret (vM_left (sM_set M f N)) (sM_left (sM_set M f N)) 82 _ dX9_wins_82 ⟨by unfold vM_wins; rw [if_pos c5], by unfold sM_wins; rw [if_pos c5]⟩
          · have hlt : j < N := ltN hi hL c33 (by omega)
            have him : i - 2 = nI (j - 2) := by rw [hi]; exact pk_sub hj
            have hin : vp_in (i - 2) 16 := by rw [him]; exact vp_in_nI (by omega) (by decide)
            have hin0 : vp_in i 16 := by rw [hi]; exact vp_in_nI (by omega) (by decide)
            have hix : ix i = j := by rw [hi]; exact ix_nI (by omega)
            have hixm : ix (i - 2) = j - 2 := by rw [him]; exact ix_nI (by omega)
            refine x_aload_n C (pc := 36) dX9_wins_36 0 rfl rfl ?_
            refine mG_play C fl_X9_109 dX9_wins_37 ?_
            refine x_iload_n C (pc := 40) dX9_wins_40 3 rfl rfl ?_
            refine x_iconst C (pc := 41) (v := 2) dX9_wins_41 (by decide) ?_
            refine x_isub C (pc := 42) dX9_wins_42 ?_
            refine x_aload_n C (pc := 43) dX9_wins_43 0 rfl rfl ?_
            refine mG_play C fl_X9_109 dX9_wins_44 ?_
            refine x_iload_n C (pc := 47) dX9_wins_47 3 rfl rfl ?_
            refine mL_play C dX9_wins_48 (by assumption) ?_
            refine x_top (y := ((shf (M 33) j) (ix i))) rfl ?_
            refine mS_play C dX9_wins_49 (by assumption) ?_
            refine x_iinc C (pc := 50) (v := i + 1) dX9_wins_50 3 [(0, .ref (G.1 0)), (1, .int f), (2, .int (vM_won M f)), (3, .int (i + 1))] [1, 2, 3, 0] rfl (by rfl) (by decide) rfl ?_
            refine x_goto C (pc := 53) (tgt := 28) dX9_wins_53 (by decide) ?_
            refine x_eqX (X' := (sr M 33 (shf (M 33) (j + 1)))) (by rw [hix, hixm, ux_srs, shf_step _ hj]) ?_
            exact ih28 (i + 1) (j + 1) (by omega) (by omega) (by rw [hi]; exact nI_1 j) (by omega)
      refine x_eqX (X' := (sr M 33 (shf (M 33) 2))) (by rw [shf_2, sr_self]) ?_
      exact L28 _ 2 2 (Nat.le_refl _) h2 rfl (Nat.lt_succ_self _)
    refine x_aload_n C (pc := 11) dX9_wins_11 0 rfl rfl ?_
    refine mG_play C fl_X9_109 dX9_wins_12 ?_
    refine x_iload_n C (pc := 15) dX9_wins_15 1 rfl rfl ?_
    refine x_if_eq C (pc := 16) (tgt := 23) dX9_wins_16 (by decide) (fun c16 => ?_) (fun c16 => ?_)
    · refine x_iconst C (pc := 23) (v := 1) dX9_wins_23 (by decide) ?_
      refine mL_play C dX9_wins_24 (vp_in_nI (n := 1) (by decide) (by decide)) ?_
      refine x_top (y := (vM_won M f)) (by unfold vM_won; (repeat (first | rw [if_pos (by assumption)] | rw [if_neg (by assumption)])) <;> first | rfl ) ?_
      exact J25
    · refine x_iconst C (pc := 19) (v := 0) dX9_wins_19 (by decide) ?_
      refine x_goto C (pc := 20) (tgt := 24) dX9_wins_20 (by decide) ?_
      refine mL_play C dX9_wins_24 (vp_in_nI (n := 0) (by decide) (by decide)) ?_
      refine x_top (y := (vM_won M f)) (by unfold vM_won; (repeat (first | rw [if_pos (by assumption)] | rw [if_neg (by assumption)])) <;> first | rfl ) ?_
      exact J25
  · refine x_bipush C (pc := 8) (v := (-4)) dX9_wins_8 (by decide) ?_
    exact ret (-4) M 10 _ dX9_wins_10 ⟨by unfold vM_wins; (repeat (first | rw [if_pos (by assumption)] | rw [if_neg (by assumption)])) <;> first | rfl , by unfold sM_wins; (repeat (first | rw [if_pos (by assumption)] | rw [if_neg (by assumption)])) <;> first | rfl ⟩
set_option maxHeartbeats 4000000 in
set_option maxRecDepth 100000 in
theorem c_X9_digest (l : Launch) (D : va_G) (G : Gx) (E N B : Nat) (M : St)  (hE : (M 101 0) = nI E) (hE16 : E ≤ 16) (hS : (M 102 0) = nI N) (hN16 : N ≤ 16) (hB : ∀ r, r < N → vp_in ((M 11) r) 16) (hBt : (M 107 0) = nI B) (hB120 : B ≤ 120) (hZ : ∀ j, j < 4 → (M 12) j = (-1) ∨ ∃ z, z ≤ 16 ∧ (M 12) j = nI z) : Cl l yX9_digest cX9_digest 5 (some .long) 2 (mw G) D (tyG G) [.ref (G.1 0)] M (fun r X1 => r = (vM_digest M E N B) ∧ X1 = M) := by
  refine m_l (nL := 5) (lv := [(0, .ref (G.1 0))]) [.ref (G.1 0)] RX9 rfl (mw_adr G) (by decide +kernel) (Nat.le_of_ble_eq_true rfl) rfl (fun K C ret => ?_)
  refine x_ldc2 C (pc := 0) dX9_digest_0 k_X9_236 ?_
  refine x_lstore_n C (pc := 3) dX9_digest_3 [(0, .ref (G.1 0)), (1, .long 17)] [1, 0] rfl (by decide) rfl ?_
  refine x_iconst C (pc := 4) (v := 0) dX9_digest_4 (by decide) ?_
  refine x_istore_n C (pc := 5) dX9_digest_5 [(0, .ref (G.1 0)), (1, .long 17), (3, .int 0)] [1, 2, 0] rfl (by decide) rfl ?_
  have L6 : ∀ (nu : Nat) (a : Int64) (i : Int32) (j : Nat), (j ≤ E) → (i = nI j) → (a = dMW M N j) → (E - j) < nu → WX K (mw G) 5 M 6 [(0, .ref (G.1 0)), (1, .long a), (3, .int i)] [] := by
    intro nu
    induction nu with
    | zero => intro a i j hj hi ha hmu6; exact absurd hmu6 (Nat.not_lt_zero _)
    | succ n6 ih6 =>
      intro a i j hj hi ha hmu6
      refine x_iload_n C (pc := 6) dX9_digest_6 2 rfl rfl ?_
      refine x_aload_n C (pc := 7) dX9_digest_7 0 rfl rfl ?_
      refine mG_ever C fl_X9_129 dX9_digest_8 ?_
      refine x_icmp_ge C (pc := 11) (tgt := 81) dX9_digest_11 (by decide) (fun c11 => ?_) (fun c11 => ?_)
      · have hjE : j = E := by have := geN hi hE c11 (by omega); omega
        rw [hjE] at ha
        refine x_iconst C (pc := 81) (v := 0) dX9_digest_81 (by decide) ?_
        refine x_istore_n C (pc := 82) dX9_digest_82 [(0, .ref (G.1 0)), (1, .long a), (3, .int 0)] [1, 2, 0] rfl (by decide) rfl ?_
        have L83 : ∀ (nu : Nat) (b : Int64) (i : Int32) (j : Nat), (j ≤ N) → (i = nI j) → (b = fld (M 11) a j) → (N - j) < nu → WX K (mw G) 5 M 83 [(0, .ref (G.1 0)), (1, .long b), (3, .int i)] [] := by
          intro nu
          induction nu with
          | zero => intro b i j hj hi hb hmu83; exact absurd hmu83 (Nat.not_lt_zero _)
          | succ n83 ih83 =>
            intro b i j hj hi hb hmu83
            refine x_iload_n C (pc := 83) dX9_digest_83 2 rfl rfl ?_
            refine x_aload_n C (pc := 84) dX9_digest_84 0 rfl rfl ?_
            refine mG_there C fl_X9_126 dX9_digest_85 ?_
            refine x_icmp_ge C (pc := 88) (tgt := 111) dX9_digest_88 (by decide) (fun c88 => ?_) (fun c88 => ?_)
            · have hjN : j = N := by have := geN hi hS c88 (by omega); omega
              rw [hjN] at hb
              refine x_iconst C (pc := 111) (v := 0) dX9_digest_111 (by decide) ?_
              refine x_istore_n C (pc := 112) dX9_digest_112 [(0, .ref (G.1 0)), (1, .long b), (3, .int 0)] [1, 2, 0] rfl (by decide) rfl ?_
              have L113 : ∀ (nu : Nat) (c : Int64) (i : Int32) (j : Nat), (j ≤ B) → (i = nI j) → (c = dMB M b j) → (B - j) < nu → WX K (mw G) 5 M 113 [(0, .ref (G.1 0)), (1, .long c), (3, .int i)] [] := by
                intro nu
                induction nu with
                | zero => intro c i j hj hi hc hmu113; exact absurd hmu113 (Nat.not_lt_zero _)
                | succ n113 ih113 =>
                  intro c i j hj hi hc hmu113
                  refine x_iload_n C (pc := 113) dX9_digest_113 2 rfl rfl ?_
                  refine x_aload_n C (pc := 114) dX9_digest_114 0 rfl rfl ?_
                  refine mG_bouts C fl_X9_170 dX9_digest_115 ?_
                  refine x_icmp_ge C (pc := 118) (tgt := 157) dX9_digest_118 (by decide) (fun c118 => ?_) (fun c118 => ?_)
                  · have hjB : j = B := by have := geN hi hBt c118 (by omega); omega
                    rw [hjB] at hc
                    refine x_iconst C (pc := 157) (v := 2) dX9_digest_157 (by decide) ?_
                    refine x_istore_n C (pc := 158) dX9_digest_158 [(0, .ref (G.1 0)), (1, .long c), (3, .int 2)] [1, 2, 0] rfl (by decide) rfl ?_
                    have L159 : ∀ (nu : Nat) (e : Int64) (i : Int32) (j : Nat), (j ≤ 6) → (i = nI (j + 2)) → (e = fld (fun k => vM_count M (nI (k + 2))) c j) → (6 - j) < nu → WX K (mw G) 5 M 159 [(0, .ref (G.1 0)), (1, .long e), (3, .int i)] [] := by
                      intro nu
                      induction nu with
                      | zero => intro e i j hj hi he hmu159; exact absurd hmu159 (Nat.not_lt_zero _)
                      | succ n159 ih159 =>
                        intro e i j hj hi he hmu159
                        refine x_iload_n C (pc := 159) dX9_digest_159 2 rfl rfl ?_
                        refine x_bipush C (pc := 160) (v := 8) dX9_digest_160 (by decide) ?_
                        refine x_icmp_ge C (pc := 162) (tgt := 184) dX9_digest_162 (by decide) (fun c162 => ?_) (fun c162 => ?_)
                        · have hj6 : j = 6 := by have hge9 : 8 ≤ j + 2 := geN hi (rfl : (8 : Int32) = nI 8) c162 (by decide); omega
                          rw [hj6] at he
                          refine x_ldc2 C (pc := 184) dX9_digest_184 k_X9_238 ?_
                          refine x_lload_n C (pc := 187) dX9_digest_187 1 rfl rfl ?_
                          refine x_lmul C (pc := 188) dX9_digest_188 ?_
                          refine x_aload_n C (pc := 189) dX9_digest_189 0 rfl rfl ?_
                          refine mG_champion C fl_X9_116 dX9_digest_190 ?_
                          refine x_i2l C (pc := 193) dX9_digest_193 ?_
                          refine x_ladd C (pc := 194) dX9_digest_194 ?_
                          refine x_lstore_n C (pc := 195) dX9_digest_195 [(0, .ref (G.1 0)), (1, .long ((31 * e) + (Int32.toInt64 (M 118 0)))), (3, .int i)] [1, 0, 2] rfl (by decide) rfl ?_
                          refine x_iconst C (pc := 196) (v := 0) dX9_digest_196 (by decide) ?_
                          refine x_istore_n C (pc := 197) dX9_digest_197 [(0, .ref (G.1 0)), (1, .long ((31 * e) + (Int32.toInt64 (M 118 0)))), (3, .int 0)] [1, 2, 0] rfl (by decide) rfl ?_
                          have L198 : ∀ (nu : Nat) (g : Int64) (i : Int32) (j : Nat), (j ≤ 4) → (i = nI j) → (g = dMS M (31 * e + (M 118 0).toInt64) j) → (4 - j) < nu → WX K (mw G) 5 M 198 [(0, .ref (G.1 0)), (1, .long g), (3, .int i)] [] := by
                            intro nu
                            induction nu with
                            | zero => intro g i j hj hi hg hmu198; exact absurd hmu198 (Nat.not_lt_zero _)
                            | succ n198 ih198 =>
                              intro g i j hj hi hg hmu198
                              refine x_iload_n C (pc := 198) dX9_digest_198 2 rfl rfl ?_
                              refine x_iconst C (pc := 199) (v := 4) dX9_digest_199 (by decide) ?_
                              refine x_icmp_ge C (pc := 200) (tgt := 263) dX9_digest_200 (by decide) (fun c200 => ?_) (fun c200 => ?_)
                              · have hj4 : j = 4 := by have hge9 : 4 ≤ j := geN hi (rfl : (4 : Int32) = nI 4) c200 (by decide); omega
                                refine x_lload_n C (pc := 263) dX9_digest_263 1 rfl rfl ?_
                                exact ret g M 264 _ dX9_digest_264 ⟨by rw [hg, hj4]; exact digM ha hb hc he, rfl⟩
                              · have hlt : j < 4 := ltN hi (rfl : (4 : Int32) = nI 4) c200 (by omega)
                                have hin : vp_in i 4 := by rw [hi]; exact vp_in_nI (by omega) (by decide)
                                have hix : ix i = j := by rw [hi]; exact ix_nI (by omega)
                                refine x_ldc2 C (pc := 203) dX9_digest_203 k_X9_238 ?_
                                refine x_lload_n C (pc := 206) dX9_digest_206 1 rfl rfl ?_
                                refine x_lmul C (pc := 207) dX9_digest_207 ?_
                                refine x_aload_n C (pc := 208) dX9_digest_208 0 rfl rfl ?_
                                refine mG_sheetSize C fl_X9_44 dX9_digest_209 ?_
                                refine x_iload_n C (pc := 212) dX9_digest_212 2 rfl rfl ?_
                                refine mL_sheetSize C dX9_digest_213 (by assumption) ?_
                                refine x_i2l C (pc := 214) dX9_digest_214 ?_
                                refine x_ladd C (pc := 215) dX9_digest_215 ?_
                                refine x_lstore_n C (pc := 216) dX9_digest_216 [(0, .ref (G.1 0)), (1, .long ((31 * g) + (Int32.toInt64 (M 12 (ix i))))), (3, .int i)] [1, 0, 2] rfl (by decide) rfl ?_
                                refine x_iconst C (pc := 217) (v := 0) dX9_digest_217 (by decide) ?_
                                refine x_istore C (pc := 218) dX9_digest_218 [(0, .ref (G.1 0)), (1, .long ((31 * g) + (Int32.toInt64 (M 12 (ix i))))), (3, .int i), (4, .int 0)] [1, 2, 3, 0] (by decide) rfl ?_
                                have L220 : ∀ (nu : Nat) (d : Int64) (x : Int32) (k : Nat), (k ≤ ix ((M 12) j)) → (x = nI k) → (d = fld (fun k => (M 13) (16 * j + k)) (31 * g + ((M 12) (ix i)).toInt64) k) → (ix ((M 12) j) - k) < nu → WX K (mw G) 5 M 220 [(0, .ref (G.1 0)), (1, .long d), (3, .int i), (4, .int x)] [] := by
                                  intro nu
                                  induction nu with
                                  | zero => intro d x k hk hx hd hmu220; exact absurd hmu220 (Nat.not_lt_zero _)
                                  | succ n220 ih220 =>
                                    intro d x k hk hx hd hmu220
                                    refine x_iload C (pc := 220) dX9_digest_220 3 rfl ?_
                                    refine x_aload_n C (pc := 222) dX9_digest_222 0 rfl rfl ?_
                                    refine mG_sheetSize C fl_X9_44 dX9_digest_223 ?_
                                    refine x_iload_n C (pc := 226) dX9_digest_226 2 rfl rfl ?_
                                    refine mL_sheetSize C dX9_digest_227 (by assumption) ?_
                                    refine x_icmp_ge C (pc := 228) (tgt := 257) dX9_digest_228 (by decide) (fun c228 => ?_) (fun c228 => ?_)
                                    · have hkz : k = ix ((M 12) j) := by
                                        rcases hZ j hlt with e | ⟨z, hz16, hz2⟩
                                        · rw [e] at hk ⊢; have : ix (-1) = 0 := rfl; omega
                                        · have hxz : ix ((M 12) j) = z := by rw [hz2]; exact ix_nI (by omega)
                                          have hge : z ≤ k := geN hx (by rw [hix]; exact hz2) c228 (by omega)
                                          omega
                                      refine x_iinc C (pc := 257) (v := i + 1) dX9_digest_257 2 [(0, .ref (G.1 0)), (1, .long d), (3, .int (i + 1)), (4, .int x)] [1, 2, 0, 3] rfl (by rfl) (by decide) rfl ?_
                                      refine x_goto C (pc := 260) (tgt := 198) dX9_digest_260 (by decide) ?_
                                      refine x_sub [(0, .ref (G.1 0)), (1, .long d), (3, .int (i + 1))] [0, 1, 2] rfl ?_
                                      exact ih198 d (i + 1) (j + 1) (by omega) (by rw [hi]; exact nI_1 j) (by rw [dMS, hd, hkz, hg, hix]) (by omega)
                                    · have hzz : ∃ z, z ≤ 16 ∧ (M 12) j = nI z := (hZ j hlt).resolve_left (fun e => c228 (by rw [hix, e, hx]; exact Int32.le_trans (by decide : (-1 : Int32) ≤ 0) (nI_pos' (by rw [e] at hk; have : ix (-1) = 0 := rfl; omega))))
                                      obtain ⟨z, hz16, hz2⟩ := hzz
                                      have hxz : ix ((M 12) j) = z := by rw [hz2]; exact ix_nI (by omega)
                                      have hkz : k < z := ltN hx (by rw [hix]; exact hz2) c228 (by omega)
                                      have h64 : vp_in (16 * i + x) 64 := by rw [ix16 hi hx]; exact vp_in_nI (by omega) (by decide)
                                      have hxx : ix (16 * i + x) = 16 * j + k := by rw [ix16 hi hx]; exact ix_nI (by omega)
                                      refine x_ldc2 C (pc := 231) dX9_digest_231 k_X9_238 ?_
                                      refine x_lload_n C (pc := 234) dX9_digest_234 1 rfl rfl ?_
                                      refine x_lmul C (pc := 235) dX9_digest_235 ?_
                                      refine x_aload_n C (pc := 236) dX9_digest_236 0 rfl rfl ?_
                                      refine mG_sheets C fl_X9_47 dX9_digest_237 ?_
                                      refine x_bipush C (pc := 240) (v := 16) dX9_digest_240 (by decide) ?_
                                      refine x_iload_n C (pc := 242) dX9_digest_242 2 rfl rfl ?_
                                      refine x_imul C (pc := 243) dX9_digest_243 ?_
                                      refine x_iload C (pc := 244) dX9_digest_244 3 rfl ?_
                                      refine x_iadd C (pc := 246) dX9_digest_246 ?_
                                      refine mL_sheets C dX9_digest_247 (by assumption) ?_
                                      refine x_i2l C (pc := 248) dX9_digest_248 ?_
                                      refine x_ladd C (pc := 249) dX9_digest_249 ?_
                                      refine x_lstore_n C (pc := 250) dX9_digest_250 [(0, .ref (G.1 0)), (1, .long ((31 * d) + (Int32.toInt64 (M 13 (ix ((16 * i) + x)))))), (3, .int i), (4, .int x)] [1, 0, 2, 3] rfl (by decide) rfl ?_
                                      refine x_iinc C (pc := 251) (v := x + 1) dX9_digest_251 3 [(0, .ref (G.1 0)), (1, .long ((31 * d) + (Int32.toInt64 (M 13 (ix ((16 * i) + x)))))), (3, .int i), (4, .int (x + 1))] [1, 2, 3, 0] rfl (by rfl) (by decide) rfl ?_
                                      refine x_goto C (pc := 254) (tgt := 220) dX9_digest_254 (by decide) ?_
                                      exact ih220 ((31 * d) + (Int32.toInt64 (M 13 (ix ((16 * i) + x))))) (x + 1) (k + 1) (by omega) (by rw [hx]; exact nI_1 k) (by rw [fld, hd, hxx]) (by omega)
                                exact L220 _ ((31 * g) + (Int32.toInt64 (M 12 (ix i)))) 0 0 (Nat.zero_le _) rfl rfl (Nat.lt_succ_self _)
                          exact L198 _ ((31 * e) + (Int32.toInt64 (M 118 0))) 0 0 (Nat.zero_le _) rfl rfl (Nat.lt_succ_self _)
                        · have h8 : j + 2 < 8 := ltN hi (rfl : (8 : Int32) = nI 8) c162 (by omega)
                          have hlt : j < 6 := by omega
                          refine x_ldc2 C (pc := 165) dX9_digest_165 k_X9_238 ?_
                          refine x_lload_n C (pc := 168) dX9_digest_168 1 rfl rfl ?_
                          refine x_lmul C (pc := 169) dX9_digest_169 ?_
                          refine x_aload_n C (pc := 170) dX9_digest_170 0 rfl rfl ?_
                          refine x_iload_n C (pc := 171) dX9_digest_171 2 rfl rfl ?_
                          refine x_callVi C (pc := 172) [.int i] (fun l D => c_X9_count l D G M i ) (me_0 G _) rfl ml_X9_240 co_X9_count im_X9_count se_X9_count in_X9 hy_X9_count (by decide) (by decide) (Nat.le_of_ble_eq_true rfl) dX9_digest_172 rfl (kx ?_)
                          refine x_i2l C (pc := 175) dX9_digest_175 ?_
                          refine x_ladd C (pc := 176) dX9_digest_176 ?_
                          refine x_lstore_n C (pc := 177) dX9_digest_177 [(0, .ref (G.1 0)), (1, .long ((31 * e) + (Int32.toInt64 (vM_count M i)))), (3, .int i)] [1, 0, 2] rfl (by decide) rfl ?_
                          refine x_iinc C (pc := 178) (v := i + 1) dX9_digest_178 2 [(0, .ref (G.1 0)), (1, .long ((31 * e) + (Int32.toInt64 (vM_count M i)))), (3, .int (i + 1))] [1, 2, 0] rfl (by rfl) (by decide) rfl ?_
                          refine x_goto C (pc := 181) (tgt := 159) dX9_digest_181 (by decide) ?_
                          exact ih159 ((31 * e) + (Int32.toInt64 (vM_count M i))) (i + 1) (j + 1) (by omega) (by rw [hi]; exact nI_1 (j + 2)) (by rw [fld, he, hi]) (by omega)
                    exact L159 _ c 2 0 (Nat.zero_le _) rfl rfl (Nat.lt_succ_self _)
                  · have hlt : j < B := ltN hi hBt c118 (by omega)
                    have hin : vp_in i 120 := by rw [hi]; exact vp_in_nI (by omega) (by decide)
                    have hix : ix i = j := by rw [hi]; exact ix_nI (by omega)
                    refine x_iconst C (pc := 121) (v := 0) dX9_digest_121 (by decide) ?_
                    refine x_istore C (pc := 122) dX9_digest_122 [(0, .ref (G.1 0)), (1, .long c), (3, .int i), (4, .int 0)] [1, 2, 3, 0] (by decide) rfl ?_
                    have L124 : ∀ (nu : Nat) (d : Int64) (x : Int32) (k : Nat), (k ≤ 4) → (x = nI k) → (d = fld (fun k => vM_boutTold M (nI j) (nI k)) c k) → (4 - k) < nu → WX K (mw G) 5 M 124 [(0, .ref (G.1 0)), (1, .long d), (3, .int i), (4, .int x)] [] := by
                      intro nu
                      induction nu with
                      | zero => intro d x k hk hx hd hmu124; exact absurd hmu124 (Nat.not_lt_zero _)
                      | succ n124 ih124 =>
                        intro d x k hk hx hd hmu124
                        refine x_iload C (pc := 124) dX9_digest_124 3 rfl ?_
                        refine x_iconst C (pc := 126) (v := 4) dX9_digest_126 (by decide) ?_
                        refine x_icmp_ge C (pc := 127) (tgt := 151) dX9_digest_127 (by decide) (fun c127 => ?_) (fun c127 => ?_)
                        · have hk4 : k = 4 := by have hge9 : 4 ≤ k := geN hx (rfl : (4 : Int32) = nI 4) c127 (by decide); omega
                          have hd2 : d = fld (fun k => vM_boutTold M (nI j) (nI k)) c 4 := by rw [hd, hk4]
                          refine x_iinc C (pc := 151) (v := i + 1) dX9_digest_151 2 [(0, .ref (G.1 0)), (1, .long d), (3, .int (i + 1)), (4, .int x)] [1, 2, 0, 3] rfl (by rfl) (by decide) rfl ?_
                          refine x_goto C (pc := 154) (tgt := 113) dX9_digest_154 (by decide) ?_
                          refine x_sub [(0, .ref (G.1 0)), (1, .long d), (3, .int (i + 1))] [0, 1, 2] rfl ?_
                          exact ih113 d (i + 1) (j + 1) (by omega) (by rw [hi]; exact nI_1 j) (by rw [dMB, hd2, hc]) (by omega)
                        · have hkl : k < 4 := ltN hx (rfl : (4 : Int32) = nI 4) c127 (by omega)
                          refine x_ldc2 C (pc := 130) dX9_digest_130 k_X9_238 ?_
                          refine x_lload_n C (pc := 133) dX9_digest_133 1 rfl rfl ?_
                          refine x_lmul C (pc := 134) dX9_digest_134 ?_
                          refine x_aload_n C (pc := 135) dX9_digest_135 0 rfl rfl ?_
                          refine x_iload_n C (pc := 136) dX9_digest_136 2 rfl rfl ?_
                          refine x_iload C (pc := 137) dX9_digest_137 3 rfl ?_
                          refine x_callVi C (pc := 139) [.int i, .int x] (fun l D => c_X9_boutTold l D G M i x hin) (me_0 G _) rfl ml_X9_204 co_X9_boutTold im_X9_boutTold se_X9_boutTold in_X9 hy_X9_boutTold (by decide) (by decide) (Nat.le_of_ble_eq_true rfl) dX9_digest_139 rfl (kx ?_)
                          refine x_i2l C (pc := 142) dX9_digest_142 ?_
                          refine x_ladd C (pc := 143) dX9_digest_143 ?_
                          refine x_lstore_n C (pc := 144) dX9_digest_144 [(0, .ref (G.1 0)), (1, .long ((31 * d) + (Int32.toInt64 (vM_boutTold M i x)))), (3, .int i), (4, .int x)] [1, 0, 2, 3] rfl (by decide) rfl ?_
                          refine x_iinc C (pc := 145) (v := x + 1) dX9_digest_145 3 [(0, .ref (G.1 0)), (1, .long ((31 * d) + (Int32.toInt64 (vM_boutTold M i x)))), (3, .int i), (4, .int (x + 1))] [1, 2, 3, 0] rfl (by rfl) (by decide) rfl ?_
                          refine x_goto C (pc := 148) (tgt := 124) dX9_digest_148 (by decide) ?_
                          exact ih124 ((31 * d) + (Int32.toInt64 (vM_boutTold M i x))) (x + 1) (k + 1) (by omega) (by rw [hx]; exact nI_1 k) (by rw [fld, hd, hi, hx]) (by omega)
                    exact L124 _ c 0 0 (Nat.zero_le _) rfl rfl (Nat.lt_succ_self _)
              exact L113 _ b 0 0 (Nat.zero_le _) rfl rfl (Nat.lt_succ_self _)
            · have hlt : j < N := ltN hi hS c88 (by omega)
              have hin : vp_in i 16 := by rw [hi]; exact vp_in_nI (by omega) (by decide)
              have hix : ix i = j := by rw [hi]; exact ix_nI (by omega)
              refine x_ldc2 C (pc := 91) dX9_digest_91 k_X9_238 ?_
              refine x_lload_n C (pc := 94) dX9_digest_94 1 rfl rfl ?_
              refine x_lmul C (pc := 95) dX9_digest_95 ?_
              refine x_aload_n C (pc := 96) dX9_digest_96 0 rfl rfl ?_
              refine mG_rungs C fl_X9_41 dX9_digest_97 ?_
              refine x_iload_n C (pc := 100) dX9_digest_100 2 rfl rfl ?_
              refine mL_rungs C dX9_digest_101 (by assumption) ?_
              refine x_i2l C (pc := 102) dX9_digest_102 ?_
              refine x_ladd C (pc := 103) dX9_digest_103 ?_
              refine x_lstore_n C (pc := 104) dX9_digest_104 [(0, .ref (G.1 0)), (1, .long ((31 * b) + (Int32.toInt64 (M 11 (ix i))))), (3, .int i)] [1, 0, 2] rfl (by decide) rfl ?_
              refine x_iinc C (pc := 105) (v := i + 1) dX9_digest_105 2 [(0, .ref (G.1 0)), (1, .long ((31 * b) + (Int32.toInt64 (M 11 (ix i))))), (3, .int (i + 1))] [1, 2, 0] rfl (by rfl) (by decide) rfl ?_
              refine x_goto C (pc := 108) (tgt := 83) dX9_digest_108 (by decide) ?_
              exact ih83 ((31 * b) + (Int32.toInt64 (M 11 (ix i)))) (i + 1) (j + 1) (by omega) (by rw [hi]; exact nI_1 j) (by rw [fld, hb, hix]) (by omega)
        exact L83 _ a 0 0 (Nat.zero_le _) rfl rfl (Nat.lt_succ_self _)
      · have hlt : j < E := ltN hi hE c11 (by omega)
        have hin : vp_in i 16 := by rw [hi]; exact vp_in_nI (by omega) (by decide)
        have hix : ix i = j := by rw [hi]; exact ix_nI (by omega)
        refine x_iconst C (pc := 14) (v := 0) dX9_digest_14 (by decide) ?_
        refine x_istore C (pc := 15) dX9_digest_15 [(0, .ref (G.1 0)), (1, .long a), (3, .int i), (4, .int 0)] [1, 2, 3, 0] (by decide) rfl ?_
        have L17 : ∀ (nu : Nat) (d : Int64) (x : Int32) (k : Nat), (k ≤ 7) → (x = nI k) → (d = fld (fun k => vM_toldOf M (nI j) (nI k) N) a k) → (¬ (M 5) j = 0 → k = 0) → (7 - k) < nu → WX K (mw G) 5 M 17 [(0, .ref (G.1 0)), (1, .long d), (3, .int i), (4, .int x)] [] := by
          intro nu
          induction nu with
          | zero => intro d x k hk hx hd hz hmu17; exact absurd hmu17 (Nat.not_lt_zero _)
          | succ n17 ih17 =>
            intro d x k hk hx hd hz hmu17
            refine x_iload C (pc := 17) dX9_digest_17 3 rfl ?_
            refine x_bipush C (pc := 19) (v := 7) dX9_digest_19 (by decide) ?_
            refine x_icmp_ge C (pc := 21) (tgt := 54) dX9_digest_21 (by decide) (fun c21 => ?_) (fun c21 => ?_)
            · have hda : d = if (M 5) j = 0 then fld (fun k => vM_toldOf M (nI j) (nI k) N) a 7 else a := by
                by_cases h : (M 5) j = 0
                · rw [if_pos h, hd]
                  congr 1
                  first
                  | (have hge9 : 7 ≤ k := geN hx (rfl : (7 : Int32) = nI 7) c21 (by decide); omega)
                  | exact absurd (by rw [hix]; exact h) c30
                · rw [if_neg h, hd, hz h]; rfl
              refine x_aload_n C (pc := 54) dX9_digest_54 0 rfl rfl ?_
              refine mG_hasLeft C fl_X9_22 dX9_digest_55 ?_
              refine x_iload_n C (pc := 58) dX9_digest_58 2 rfl rfl ?_
              refine mL_hasLeft C dX9_digest_59 (by assumption) ?_
              refine x_if_eq C (pc := 60) (tgt := 73) dX9_digest_60 (by decide) (fun c60 => ?_) (fun c60 => ?_)
              · refine x_lload_n C (pc := 73) dX9_digest_73 1 rfl rfl ?_
                refine x_lstore_n C (pc := 74) dX9_digest_74 [(0, .ref (G.1 0)), (1, .long d), (3, .int i), (4, .int x)] [1, 0, 2, 3] rfl (by decide) rfl ?_
                refine x_iinc C (pc := 75) (v := i + 1) dX9_digest_75 2 [(0, .ref (G.1 0)), (1, .long d), (3, .int (i + 1)), (4, .int x)] [1, 2, 0, 3] rfl (by rfl) (by decide) rfl ?_
                refine x_goto C (pc := 78) (tgt := 6) dX9_digest_78 (by decide) ?_
                refine x_sub [(0, .ref (G.1 0)), (1, .long d), (3, .int (i + 1))] [0, 1, 2] rfl ?_
                exact ih6 d (i + 1) (j + 1) (by omega) (by rw [hi]; exact nI_1 j) (by rw [dMW, hda, ha] <;> first | (rw [if_pos (by rw [← hix]; exact c60), if_pos (by rw [← hix]; exact c60)]) | (rw [if_neg (by rw [← hix]; exact c60), if_neg (by rw [← hix]; exact c60)])) (by omega)
              · refine x_ldc2 C (pc := 63) dX9_digest_63 k_X9_238 ?_
                refine x_lload_n C (pc := 66) dX9_digest_66 1 rfl rfl ?_
                refine x_lmul C (pc := 67) dX9_digest_67 ?_
                refine x_lconst C (pc := 68) (v := 1) dX9_digest_68 (by decide) ?_
                refine x_lsub C (pc := 69) dX9_digest_69 ?_
                refine x_goto C (pc := 70) (tgt := 74) dX9_digest_70 (by decide) ?_
                refine x_lstore_n C (pc := 74) dX9_digest_74 [(0, .ref (G.1 0)), (1, .long ((31 * d) - 1)), (3, .int i), (4, .int x)] [1, 0, 2, 3] rfl (by decide) rfl ?_
                refine x_iinc C (pc := 75) (v := i + 1) dX9_digest_75 2 [(0, .ref (G.1 0)), (1, .long ((31 * d) - 1)), (3, .int (i + 1)), (4, .int x)] [1, 2, 0, 3] rfl (by rfl) (by decide) rfl ?_
                refine x_goto C (pc := 78) (tgt := 6) dX9_digest_78 (by decide) ?_
                refine x_sub [(0, .ref (G.1 0)), (1, .long ((31 * d) - 1)), (3, .int (i + 1))] [0, 1, 2] rfl ?_
                exact ih6 ((31 * d) - 1) (i + 1) (j + 1) (by omega) (by rw [hi]; exact nI_1 j) (by rw [dMW, hda, ha] <;> first | (rw [if_pos (by rw [← hix]; exact c60), if_pos (by rw [← hix]; exact c60)]) | (rw [if_neg (by rw [← hix]; exact c60), if_neg (by rw [← hix]; exact c60)])) (by omega)
            · refine x_aload_n C (pc := 24) dX9_digest_24 0 rfl rfl ?_
              refine mG_hasLeft C fl_X9_22 dX9_digest_25 ?_
              refine x_iload_n C (pc := 28) dX9_digest_28 2 rfl rfl ?_
              refine mL_hasLeft C dX9_digest_29 (by assumption) ?_
              refine x_if_ne C (pc := 30) (tgt := 54) dX9_digest_30 (by decide) (fun c30 => ?_) (fun c30 => ?_)
              · have hda : d = if (M 5) j = 0 then fld (fun k => vM_toldOf M (nI j) (nI k) N) a 7 else a := by
                  by_cases h : (M 5) j = 0
                  · rw [if_pos h, hd]
                    congr 1
                    first
                    | (have hge9 : 7 ≤ k := geN hx (rfl : (7 : Int32) = nI 7) c21 (by decide); omega)
                    | exact absurd (by rw [hix]; exact h) c30
                  · rw [if_neg h, hd, hz h]; rfl
                refine x_aload_n C (pc := 54) dX9_digest_54 0 rfl rfl ?_
                refine mG_hasLeft C fl_X9_22 dX9_digest_55 ?_
                refine x_iload_n C (pc := 58) dX9_digest_58 2 rfl rfl ?_
                refine mL_hasLeft C dX9_digest_59 (by assumption) ?_
                refine x_if_eq C (pc := 60) (tgt := 73) dX9_digest_60 (by decide) (fun c60 => ?_) (fun c60 => ?_)
                · refine x_lload_n C (pc := 73) dX9_digest_73 1 rfl rfl ?_
                  refine x_lstore_n C (pc := 74) dX9_digest_74 [(0, .ref (G.1 0)), (1, .long d), (3, .int i), (4, .int x)] [1, 0, 2, 3] rfl (by decide) rfl ?_
                  refine x_iinc C (pc := 75) (v := i + 1) dX9_digest_75 2 [(0, .ref (G.1 0)), (1, .long d), (3, .int (i + 1)), (4, .int x)] [1, 2, 0, 3] rfl (by rfl) (by decide) rfl ?_
                  refine x_goto C (pc := 78) (tgt := 6) dX9_digest_78 (by decide) ?_
                  refine x_sub [(0, .ref (G.1 0)), (1, .long d), (3, .int (i + 1))] [0, 1, 2] rfl ?_
                  exact ih6 d (i + 1) (j + 1) (by omega) (by rw [hi]; exact nI_1 j) (by rw [dMW, hda, ha] <;> first | (rw [if_pos (by rw [← hix]; exact c60), if_pos (by rw [← hix]; exact c60)]) | (rw [if_neg (by rw [← hix]; exact c60), if_neg (by rw [← hix]; exact c60)])) (by omega)
                · refine x_ldc2 C (pc := 63) dX9_digest_63 k_X9_238 ?_
                  refine x_lload_n C (pc := 66) dX9_digest_66 1 rfl rfl ?_
                  refine x_lmul C (pc := 67) dX9_digest_67 ?_
                  refine x_lconst C (pc := 68) (v := 1) dX9_digest_68 (by decide) ?_
                  refine x_lsub C (pc := 69) dX9_digest_69 ?_
                  refine x_goto C (pc := 70) (tgt := 74) dX9_digest_70 (by decide) ?_
                  refine x_lstore_n C (pc := 74) dX9_digest_74 [(0, .ref (G.1 0)), (1, .long ((31 * d) - 1)), (3, .int i), (4, .int x)] [1, 0, 2, 3] rfl (by decide) rfl ?_
                  refine x_iinc C (pc := 75) (v := i + 1) dX9_digest_75 2 [(0, .ref (G.1 0)), (1, .long ((31 * d) - 1)), (3, .int (i + 1)), (4, .int x)] [1, 2, 0, 3] rfl (by rfl) (by decide) rfl ?_
                  refine x_goto C (pc := 78) (tgt := 6) dX9_digest_78 (by decide) ?_
                  refine x_sub [(0, .ref (G.1 0)), (1, .long ((31 * d) - 1)), (3, .int (i + 1))] [0, 1, 2] rfl ?_
                  exact ih6 ((31 * d) - 1) (i + 1) (j + 1) (by omega) (by rw [hi]; exact nI_1 j) (by rw [dMW, hda, ha] <;> first | (rw [if_pos (by rw [← hix]; exact c60), if_pos (by rw [← hix]; exact c60)]) | (rw [if_neg (by rw [← hix]; exact c60), if_neg (by rw [← hix]; exact c60)])) (by omega)
              · have hkl : k < 7 := ltN hx (rfl : (7 : Int32) = nI 7) c21 (by omega)
                refine x_ldc2 C (pc := 33) dX9_digest_33 k_X9_238 ?_
                refine x_lload_n C (pc := 36) dX9_digest_36 1 rfl rfl ?_
                refine x_lmul C (pc := 37) dX9_digest_37 ?_
                refine x_aload_n C (pc := 38) dX9_digest_38 0 rfl rfl ?_
                refine x_iload_n C (pc := 39) dX9_digest_39 2 rfl rfl ?_
                refine x_iload C (pc := 40) dX9_digest_40 3 rfl ?_
                refine x_callVi C (pc := 42) [.int i, .int x] (fun l D => c_X9_toldOf l D G N M i x hin hS hN16) (me_0 G _) rfl ml_X9_154 co_X9_toldOf im_X9_toldOf se_X9_toldOf in_X9 hy_X9_toldOf (by decide) (by decide) (Nat.le_of_ble_eq_true rfl) dX9_digest_42 rfl (kx ?_)
                refine x_i2l C (pc := 45) dX9_digest_45 ?_
                refine x_ladd C (pc := 46) dX9_digest_46 ?_
                refine x_lstore_n C (pc := 47) dX9_digest_47 [(0, .ref (G.1 0)), (1, .long ((31 * d) + (Int32.toInt64 (vM_toldOf M i x N)))), (3, .int i), (4, .int x)] [1, 0, 2, 3] rfl (by decide) rfl ?_
                refine x_iinc C (pc := 48) (v := x + 1) dX9_digest_48 3 [(0, .ref (G.1 0)), (1, .long ((31 * d) + (Int32.toInt64 (vM_toldOf M i x N)))), (3, .int i), (4, .int (x + 1))] [1, 2, 3, 0] rfl (by rfl) (by decide) rfl ?_
                refine x_goto C (pc := 51) (tgt := 17) dX9_digest_51 (by decide) ?_
                exact ih17 ((31 * d) + (Int32.toInt64 (vM_toldOf M i x N))) (x + 1) (k + 1) (by omega) (by rw [hx]; exact nI_1 k) (by rw [fld, hd, hi, hx]) (fun h => absurd (by rw [← hix]; exact c30) h) (by omega)
        exact L17 _ a 0 0 (Nat.zero_le _) rfl rfl (fun _ => rfl) (Nat.lt_succ_self _)
  exact L6 _ 17 0 0 (Nat.zero_le _) rfl rfl (Nat.lt_succ_self _)
