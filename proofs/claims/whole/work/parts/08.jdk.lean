
theorem c_fillI_step (X : St) (a i : Nat) (v : Int32) : ux (sr X a (fun j => if j < i then v else X a j)) a i v = sr X a (fun j => if j < i + 1 then v else X a j) := by
  rw [ux, sr_s, sr_sr]
  congr 1
  funext j
  simp only [upd]
  by_cases h : j = i
  · simp [h]
  · simp only [h, if_false]
    by_cases h2 : j < i
    · simp [h2, Nat.lt_succ_of_lt h2]
    · rw [if_neg h2, if_neg (by omega)]
set_option maxHeartbeats 4000000 in
set_option maxRecDepth 100000 in
theorem c_fillI (l : Launch) (D : va_G) {wf : St → va_W} {tys : List (ClassId × FieldType)} (hwf : wfA wf) {q0 b n a : Nat} {cA : ClassId} (h : isRow wf q0 b cA n a) (t0 : Nat) (ht : tys[t0]? = some (cA, .int)) (hn : n < 2 ^ 31) (X : St) (v : Int32) : Cv l yJ7_fill_53178 cJ7_fill_53178 4 none 0 wf D tys [.ref b, .int v] X (fun X1 => X1 = sr X a (fun i => if i < n then v else X a i)) := by
  refine m_v (nL := 4) (lv := [(0, .ref b), (1, .int v)]) [.ref b, .int v] RJ7 rfl hwf (by decide +kernel) (Nat.le_of_ble_eq_true rfl) rfl (fun K C ret => ?_)
  refine x_iconst C (pc := 0) (v := 0) dJ7_fill_53178_0 (by decide) ?_
  refine x_istore_n C (pc := 1) dJ7_fill_53178_1 [(0, .ref b), (1, .int v), (2, .int 0)] [1, 2, 0] rfl (by decide) rfl ?_
  refine x_aload_n C (pc := 2) dJ7_fill_53178_2 0 rfl rfl ?_
  refine x_alen C h t0 ht dJ7_fill_53178_3 ?_
  refine x_istore_n C (pc := 4) dJ7_fill_53178_4 [(0, .ref b), (1, .int v), (2, .int 0), (3, .int (nI n))] [1, 2, 3, 0] rfl (by decide) rfl ?_
  have L5 : ∀ (k i : Nat) (x : Int32), i ≤ n → x = nI i → n - i < k → WX K wf 4 (sr X a (fun j => if j < i then v else X a j)) 5 [(0, .ref b), (1, .int v), (2, .int x), (3, .int (nI n))] [] := by
    intro k
    induction k with
    | zero => intro i x _ _ hm; exact absurd hm (Nat.not_lt_zero _)
    | succ k ih =>
      intro i x hi hx hm
      refine x_iload_n C (pc := 5) dJ7_fill_53178_5 2 rfl rfl ?_
      refine x_iload_n C (pc := 6) dJ7_fill_53178_6 3 rfl rfl ?_
      refine x_icmp_ge C (pc := 7) (tgt := 20) dJ7_fill_53178_7 (by decide) (fun c7 => ?_) (fun c7 => ?_)
      · have hin : i = n := by
          rcases Nat.lt_or_ge i n with q | q
          · exact absurd c7 (by rw [hx]; exact nI_ge q hn)
          · omega
        subst hin
        exact ret _ 20 _ dJ7_fill_53178_20 rfl
      · have hlt : i < n := by
          rcases Nat.lt_or_ge i n with q | q
          · exact q
          · exact absurd (by rw [hx]; exact nI_le q (by omega)) c7
        have hin : vp_in x n := by rw [hx]; exact vp_in_nI hlt hn
        have hix : ix x = i := by rw [hx]; exact nI_clamp (by omega)
        refine x_aload_n C (pc := 10) dJ7_fill_53178_10 0 rfl rfl ?_
        refine x_iload_n C (pc := 11) dJ7_fill_53178_11 2 rfl rfl ?_
        refine x_iload_n C (pc := 12) dJ7_fill_53178_12 1 rfl rfl ?_
        refine x_iast C h t0 ht dJ7_fill_53178_13 hin ?_
        refine x_iinc C (pc := 14) (v := x + 1) dJ7_fill_53178_14 2 [(0, .ref b), (1, .int v), (2, .int (x + 1)), (3, .int (nI n))] [1, 2, 0, 3] rfl (by rfl) (by decide) rfl ?_
        refine x_goto C (pc := 17) (tgt := 5) dJ7_fill_53178_17 (by decide) ?_
        rw [hix, c_fillI_step]
        exact ih (i + 1) (x + 1) (by omega) (by rw [hx]; exact nI_1 i) (by omega)
  have h0 : sr X a (fun j => if j < 0 then v else X a j) = X := by
    have : (fun j => if j < 0 then v else X a j) = X a := by funext j; rw [if_neg (Nat.not_lt_zero _)]
    rw [this, sr_self]
  have := L5 (n + 1) 0 0 (Nat.zero_le _) rfl (by omega)
  rw [h0] at this
  exact this

theorem c_fillB_step (X : St) (a i : Nat) (v : Int32) : ux (sr X a (fun j => if j < i then v else X a j)) a i v = sr X a (fun j => if j < i + 1 then v else X a j) := by
  rw [ux, sr_s, sr_sr]
  congr 1
  funext j
  simp only [upd]
  by_cases h : j = i
  · simp [h]
  · simp only [h, if_false]
    by_cases h2 : j < i
    · simp [h2, Nat.lt_succ_of_lt h2]
    · rw [if_neg h2, if_neg (by omega)]
set_option maxHeartbeats 4000000 in
set_option maxRecDepth 100000 in
theorem c_fillB (l : Launch) (D : va_G) {wf : St → va_W} {tys : List (ClassId × FieldType)} (hwf : wfA wf) {q0 b n a : Nat} {cA : ClassId} (h : isRow wf q0 b cA n a) (t0 : Nat) (ht : tys[t0]? = some (cA, .byte)) (hn : n < 2 ^ 31) (X : St) (v : Int32) : Cv l yJ7_fill_031fb cJ7_fill_031fb 4 none 0 wf D tys [.ref b, .int v] X (fun X1 => X1 = sr X a (fun i => if i < n then (vp_nar .byte v) else X a i)) := by
  refine m_v (nL := 4) (lv := [(0, .ref b), (1, .int v)]) [.ref b, .int v] RJ7 rfl hwf (by decide +kernel) (Nat.le_of_ble_eq_true rfl) rfl (fun K C ret => ?_)
  refine x_iconst C (pc := 0) (v := 0) dJ7_fill_031fb_0 (by decide) ?_
  refine x_istore_n C (pc := 1) dJ7_fill_031fb_1 [(0, .ref b), (1, .int v), (2, .int 0)] [1, 2, 0] rfl (by decide) rfl ?_
  refine x_aload_n C (pc := 2) dJ7_fill_031fb_2 0 rfl rfl ?_
  refine x_alen C h t0 ht dJ7_fill_031fb_3 ?_
  refine x_istore_n C (pc := 4) dJ7_fill_031fb_4 [(0, .ref b), (1, .int v), (2, .int 0), (3, .int (nI n))] [1, 2, 3, 0] rfl (by decide) rfl ?_
  have L5 : ∀ (k i : Nat) (x : Int32), i ≤ n → x = nI i → n - i < k → WX K wf 4 (sr X a (fun j => if j < i then (vp_nar .byte v) else X a j)) 5 [(0, .ref b), (1, .int v), (2, .int x), (3, .int (nI n))] [] := by
    intro k
    induction k with
    | zero => intro i x _ _ hm; exact absurd hm (Nat.not_lt_zero _)
    | succ k ih =>
      intro i x hi hx hm
      refine x_iload_n C (pc := 5) dJ7_fill_031fb_5 2 rfl rfl ?_
      refine x_iload_n C (pc := 6) dJ7_fill_031fb_6 3 rfl rfl ?_
      refine x_icmp_ge C (pc := 7) (tgt := 20) dJ7_fill_031fb_7 (by decide) (fun c7 => ?_) (fun c7 => ?_)
      · have hin : i = n := by
          rcases Nat.lt_or_ge i n with q | q
          · exact absurd c7 (by rw [hx]; exact nI_ge q hn)
          · omega
        subst hin
        exact ret _ 20 _ dJ7_fill_031fb_20 rfl
      · have hlt : i < n := by
          rcases Nat.lt_or_ge i n with q | q
          · exact q
          · exact absurd (by rw [hx]; exact nI_le q (by omega)) c7
        have hin : vp_in x n := by rw [hx]; exact vp_in_nI hlt hn
        have hix : ix x = i := by rw [hx]; exact nI_clamp (by omega)
        refine x_aload_n C (pc := 10) dJ7_fill_031fb_10 0 rfl rfl ?_
        refine x_iload_n C (pc := 11) dJ7_fill_031fb_11 2 rfl rfl ?_
        refine x_iload_n C (pc := 12) dJ7_fill_031fb_12 1 rfl rfl ?_
        refine x_bast C h t0 ht dJ7_fill_031fb_13 hin ?_
        refine x_iinc C (pc := 14) (v := x + 1) dJ7_fill_031fb_14 2 [(0, .ref b), (1, .int v), (2, .int (x + 1)), (3, .int (nI n))] [1, 2, 0, 3] rfl (by rfl) (by decide) rfl ?_
        refine x_goto C (pc := 17) (tgt := 5) dJ7_fill_031fb_17 (by decide) ?_
        rw [hix, c_fillB_step]
        exact ih (i + 1) (x + 1) (by omega) (by rw [hx]; exact nI_1 i) (by omega)
  have h0 : sr X a (fun j => if j < 0 then (vp_nar .byte v) else X a j) = X := by
    have : (fun j => if j < 0 then (vp_nar .byte v) else X a j) = X a := by funext j; rw [if_neg (Nat.not_lt_zero _)]
    rw [this, sr_self]
  have := L5 (n + 1) 0 0 (Nat.zero_le _) rfl (by omega)
  rw [h0] at this
  exact this

theorem hy_J7_fill_53178 : yJ7_fill_53178.cls ≠ "java/lang/invoke/MethodHandle" ∧ yJ7_fill_53178.cls ≠ "java/lang/invoke/VarHandle" ∧ (parseMethodDescriptor yJ7_fill_53178.desc).map (fun d => d.parameters.length) = some 2 := by decide +kernel
theorem hy_J7_fill_031fb : yJ7_fill_031fb.cls ≠ "java/lang/invoke/MethodHandle" ∧ yJ7_fill_031fb.cls ≠ "java/lang/invoke/VarHandle" ∧ (parseMethodDescriptor yJ7_fill_031fb.desc).map (fun d => d.parameters.length) = some 2 := by decide +kernel
theorem hy_J7_fill_fda19 : yJ7_fill_fda19.cls ≠ "java/lang/invoke/MethodHandle" ∧ yJ7_fill_fda19.cls ≠ "java/lang/invoke/VarHandle" ∧ (parseMethodDescriptor yJ7_fill_fda19.desc).map (fun d => d.parameters.length) = some 4 := by decide +kernel
theorem hy_J7_rangeCheck_23922 : yJ7_rangeCheck_23922.cls ≠ "java/lang/invoke/MethodHandle" ∧ yJ7_rangeCheck_23922.cls ≠ "java/lang/invoke/VarHandle" ∧ (parseMethodDescriptor yJ7_rangeCheck_23922.desc).map (fun d => d.parameters.length) = some 3 := by decide +kernel
set_option maxHeartbeats 4000000 in
set_option maxRecDepth 100000 in
theorem c_rangeCheck (l : Launch) (D : va_G) {wf : St → va_W} {tys : List (ClassId × FieldType)} (hwf : wfA wf) (X : St) (n f t : Int32) (h1 : f ≤ t) (h2 : 0 ≤ f) (h3 : t ≤ n) : Cv l yJ7_rangeCheck_23922 cJ7_rangeCheck_23922 3 none 0 wf D tys [.int n, .int f, .int t] X (fun X1 => X1 = X) := by
  refine m_v (nL := 3) (lv := [(0, .int n), (1, .int f), (2, .int t)]) [.int n, .int f, .int t] RJ7 rfl hwf (by decide +kernel) (Nat.le_of_ble_eq_true rfl) rfl (fun K C ret => ?_)
  refine x_iload_n C (pc := 0) dJ7_rangeCheck_23922_0 1 rfl rfl ?_
  refine x_iload_n C (pc := 1) dJ7_rangeCheck_23922_1 2 rfl rfl ?_
  refine x_icmp_le C (pc := 2) (tgt := 46) dJ7_rangeCheck_23922_2 (by decide) (fun _ => ?_) (fun c => absurd h1 c)
  refine x_iload_n C (pc := 46) dJ7_rangeCheck_23922_46 1 rfl rfl ?_
  refine x_if_ge C (pc := 47) (tgt := 59) dJ7_rangeCheck_23922_47 (by decide) (fun _ => ?_) (fun c => absurd h2 c)
  refine x_iload_n C (pc := 59) dJ7_rangeCheck_23922_59 2 rfl rfl ?_
  refine x_iload_n C (pc := 60) dJ7_rangeCheck_23922_60 0 rfl rfl ?_
  refine x_icmp_le C (pc := 61) (tgt := 73) dJ7_rangeCheck_23922_61 (by decide) (fun _ => ?_) (fun c => absurd h3 c)
  exact ret X 73 _ dJ7_rangeCheck_23922_73 rfl
theorem c_fillR_step (X : St) (a f i : Nat) (v : Int32) (hf : f ≤ i) : ux (sr X a (fun j => if f ≤ j ∧ j < i then v else X a j)) a i v = sr X a (fun j => if f ≤ j ∧ j < i + 1 then v else X a j) := by
  rw [ux, sr_s, sr_sr]
  congr 1
  funext j
  simp only [upd]
  by_cases h : j = i
  · subst h; simp [hf]
  · simp only [h, if_false]
    by_cases h2 : f ≤ j ∧ j < i
    · rw [if_pos h2, if_pos ⟨h2.1, by omega⟩]
    · rw [if_neg h2, if_neg (by omega)]
set_option maxHeartbeats 4000000 in
set_option maxRecDepth 100000 in
theorem c_fillR (l : Launch) (D : va_G) {wf : St → va_W} {tys : List (ClassId × FieldType)} (hwf : wfA wf) {q0 b n a : Nat} {cA : ClassId} (h : isRow wf q0 b cA n a) (t0 : Nat) (ht : tys[t0]? = some (cA, .int)) (hn : n < 2 ^ 31) (X : St) (f t : Nat) (v : Int32) (hft : f ≤ t) (htn : t ≤ n) : Cv l yJ7_fill_fda19 cJ7_fill_fda19 5 none 1 wf D tys [.ref b, .int (nI f), .int (nI t), .int v] X (fun X1 => X1 = sr X a (fun i => if f ≤ i ∧ i < t then v else X a i)) := by
  refine m_v (nL := 5) (lv := [(0, .ref b), (1, .int (nI f)), (2, .int (nI t)), (3, .int v)]) [.ref b, .int (nI f), .int (nI t), .int v] RJ7 rfl hwf (by decide +kernel) (Nat.le_of_ble_eq_true rfl) rfl (fun K C ret => ?_)
  refine x_aload_n C (pc := 0) dJ7_fill_fda19_0 0 rfl rfl ?_
  refine x_alen C h t0 ht dJ7_fill_fda19_1 ?_
  refine x_iload_n C (pc := 2) dJ7_fill_fda19_2 1 rfl rfl ?_
  refine x_iload_n C (pc := 3) dJ7_fill_fda19_3 2 rfl rfl ?_
  refine x_callSv C (pc := 4) [.int (nI n), .int (nI f), .int (nI t)] (fun l D => c_rangeCheck l D hwf X (nI n) (nI f) (nI t) (nI_le hft (by omega)) (nI_pos' (by omega)) (nI_le htn (by omega))) ml_J7_13 co_J7_rangeCheck_23922 st_J7_rangeCheck_23922 in_J7 hy_J7_rangeCheck_23922 (by decide) (by decide) (Nat.le_of_ble_eq_true rfl) dJ7_fill_fda19_4 rfl (kxv ?_)
  refine x_iload_n C (pc := 7) dJ7_fill_fda19_7 1 rfl rfl ?_
  refine x_istore C (pc := 8) dJ7_fill_fda19_8 [(0, .ref b), (1, .int (nI f)), (2, .int (nI t)), (3, .int v), (4, .int (nI f))] [1, 2, 3, 4, 0] (by decide) rfl ?_
  have L5 : ∀ (k i : Nat) (x : Int32), f ≤ i → i ≤ t → x = nI i → t - i < k → WX K wf 5 (sr X a (fun j => if f ≤ j ∧ j < i then v else X a j)) 10 [(0, .ref b), (1, .int (nI f)), (2, .int (nI t)), (3, .int v), (4, .int x)] [] := by
    intro k
    induction k with
    | zero => intro i x _ _ _ hm; exact absurd hm (Nat.not_lt_zero _)
    | succ k ih =>
      intro i x hfi hi hx hm
      refine x_iload C (pc := 10) dJ7_fill_fda19_10 4 rfl ?_
      refine x_iload_n C (pc := 12) dJ7_fill_fda19_12 2 rfl rfl ?_
      refine x_icmp_ge C (pc := 13) (tgt := 27) dJ7_fill_fda19_13 (by decide) (fun c7 => ?_) (fun c7 => ?_)
      · have hin : i = t := by
          rcases Nat.lt_or_ge i t with q | q
          · exact absurd c7 (by rw [hx]; exact nI_ge q (by omega))
          · omega
        subst hin
        exact ret _ 27 _ dJ7_fill_fda19_27 rfl
      · have hlt : i < t := by
          rcases Nat.lt_or_ge i t with q | q
          · exact q
          · exact absurd (by rw [hx]; exact nI_le q (by omega)) c7
        have hin : vp_in x n := by rw [hx]; exact vp_in_nI (by omega) hn
        have hix : ix x = i := by rw [hx]; exact nI_clamp (by omega)
        refine x_aload_n C (pc := 16) dJ7_fill_fda19_16 0 rfl rfl ?_
        refine x_iload C (pc := 17) dJ7_fill_fda19_17 4 rfl ?_
        refine x_iload_n C (pc := 19) dJ7_fill_fda19_19 3 rfl rfl ?_
        refine x_iast C h t0 ht dJ7_fill_fda19_20 hin ?_
        refine x_iinc C (pc := 21) (v := x + 1) dJ7_fill_fda19_21 4 [(0, .ref b), (1, .int (nI f)), (2, .int (nI t)), (3, .int v), (4, .int (x + 1))] [1, 2, 3, 4, 0] rfl (by rfl) (by decide) rfl ?_
        refine x_goto C (pc := 24) (tgt := 10) dJ7_fill_fda19_24 (by decide) ?_
        rw [hix, c_fillR_step _ _ _ _ _ hfi]
        exact ih (i + 1) (x + 1) (by omega) (by omega) (by rw [hx]; exact nI_1 i) (by omega)
  have h0 : sr X a (fun j => if f ≤ j ∧ j < f then v else X a j) = X := by
    have : (fun j => if f ≤ j ∧ j < f then v else X a j) = X a := by funext j; rw [if_neg (by omega)]
    rw [this, sr_self]
  have := L5 (t - f + 1) f (nI f) (Nat.le_refl _) hft rfl (by omega)
  rw [h0] at this
  exact this
