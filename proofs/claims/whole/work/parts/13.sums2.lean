/-! Sums: copy, look up; Message; Line -/
theorem c_copyFrom {sh : List Sh} {h : Hp} {s t B0 K0 B K : Nat} {L0 L : List (Int64 × Int64)} (S : SumsR sh h s L0 B0 K0) (T : SumsR sh h t L B K) (hd : t + 3 ≤ s ∨ s + 3 ≤ t) : Sp0 mX7_copyFrom [.ref s, .ref t] sh h (fun v h' => v = none ∧ SumsR sh h' s L B K ∧ Fr s (s + 3) h h') := by
  obtain ⟨a1, a2, a3, a4, a5, a6, a7, a8, a9, a10⟩ := S
  obtain ⟨b1, b2, b3, b4, b5, b6, b7, b8, b9, b10⟩ := T
  have e0 : (0 : Int32).toNatClampNeg = 0 := by decide
  have hcl : (nI L.length).toNatClampNeg = L.length := nI_clamp (by omega)
  have hts : t ≠ s := by omega
  refine Sp0.of (by decide) (Nat.le_of_ble_eq_true rfl) ?_
  show E mX7_copyFrom none _ 0 [some (.ref s), some (.ref t)] [] sh h 0 0
  refine E_aload_n dX7_copyFrom_0 rfl ?_
  refine E_aload_n dX7_copyFrom_1 rfl ?_
  refine E_getI dX7_copyFrom_2 fl_X7_22 (by first | assumption | rfl) rfl ?_
  rw [b8]
  refine E_putI dX7_copyFrom_5 fl_X7_22 (by first | assumption | rfl) rfl ?_
  refine E_aload_n dX7_copyFrom_8 rfl ?_
  refine E_aload_n dX7_copyFrom_9 rfl ?_
  refine E_getI dX7_copyFrom_10 fl_X7_25 (by first | assumption | rfl) rfl ?_
  rw [show (sI h s 3 (nI B)).1 t 4 = nI K by simp [sI, u2, hts, b9]]
  refine E_putI dX7_copyFrom_13 fl_X7_25 (by first | assumption | rfl) rfl ?_
  refine E_aload_n dX7_copyFrom_16 rfl ?_
  refine E_aload_n dX7_copyFrom_17 rfl ?_
  refine E_getI dX7_copyFrom_18 fl_X7_18 (by first | assumption | rfl) rfl ?_
  rw [show (sI (sI h s 3 (nI B)) s 4 (nI K)).1 t 2 = nI L.length by simp [sI, u2, hts, b6]]
  refine E_putI dX7_copyFrom_21 fl_X7_18 (by first | assumption | rfl) rfl ?_
  generalize hh : sI (sI (sI h s 3 (nI B)) s 4 (nI K)) s 2 (nI L.length) = h3
  have i2 : h3.1 s 2 = nI L.length := by rw [← hh]; simp [sI, u2]
  have i3 : h3.1 s 3 = nI B := by rw [← hh]; simp [sI, u2]
  have i4 : h3.1 s 4 = nI K := by rw [← hh]; simp [sI, u2]
  have hl3 : h3.2.1 = h.2.1 := by rw [← hh]; rfl
  have hr3 : h3.2.2 = h.2.2 := by rw [← hh]; rfl
  have F3 : Fr s (s + 3) h h3 := by rw [← hh]; exact Fr_sI (Fr_sI (Fr_sI Fr.rf (by omega) (by omega)) (by omega) (by omega)) (by omega) (by omega)
  rw [← hr3] at a2 a3 b2 b3
  refine E_aload_n dX7_copyFrom_24 rfl ?_
  refine E_getR dX7_copyFrom_25 fl_X7_9 (by first | assumption | rfl) (by assumption) rfl ?_
  refine E_ic 0 dX7_copyFrom_28 (by decide) ?_
  refine E_aload_n dX7_copyFrom_29 rfl ?_
  refine E_getR dX7_copyFrom_30 fl_X7_9 (by first | assumption | rfl) (by assumption) rfl ?_
  refine E_ic 0 dX7_copyFrom_33 (by decide) ?_
  refine E_aload_n dX7_copyFrom_34 rfl ?_
  refine E_getI dX7_copyFrom_35 fl_X7_18 (by first | assumption | rfl) rfl ?_
  rw [i2]
  refine E_copyl dX7_copyFrom_38 ac_X7_45 ac_nat ac_st ac_in b4 a4 (by decide) (by decide) (nI_pos (by omega)) (by rw [e0, hcl]; omega) (by rw [e0, hcl]; omega) (by decide) (by decide) ?_
  rw [e0, hcl]
  refine E_aload_n dX7_copyFrom_41 rfl ?_
  refine E_getR dX7_copyFrom_42 fl_X7_15 (by first | assumption | rfl) (by assumption) rfl ?_
  refine E_ic 0 dX7_copyFrom_45 (by decide) ?_
  refine E_aload_n dX7_copyFrom_46 rfl ?_
  refine E_getR dX7_copyFrom_47 fl_X7_15 (by first | assumption | rfl) (by assumption) rfl ?_
  refine E_ic 0 dX7_copyFrom_50 (by decide) ?_
  refine E_aload_n dX7_copyFrom_51 rfl ?_
  refine E_getI dX7_copyFrom_52 fl_X7_18 (by first | assumption | rfl) rfl ?_
  rw [show (cpL h3 (t + 1) (s + 1) 0 0 L.length).1 s 2 = nI L.length from i2]
  refine E_copyl dX7_copyFrom_55 ac_X7_45 ac_nat ac_st ac_in b5 a5 (by decide) (by decide) (nI_pos (by omega)) (by rw [e0, hcl]; omega) (by rw [e0, hcl]; omega) (by decide) (by decide) ?_
  rw [e0, hcl]
  refine E_retv dX7_copyFrom_58 rfl (Nat.le_of_ble_eq_true rfl) (Nat.le_of_ble_eq_true rfl) ?_
  refine ⟨rfl, rfl, ⟨a1, a2, a3, a4, a5, i2, b7, i3, i4, fun j hj => ?_⟩, F3.1, fun a ha => ⟨(F3.2 a ha).1, ?_⟩⟩
  · have q := b10 j hj
    rw [← hl3] at q
    have n1 : s + 1 ≠ s + 2 := by omega
    have n2 : t + 2 ≠ s + 1 := by omega
    simp [cpL, va_cpy, hj, n1, n2, q.1, q.2]
  · rw [← hl3]
    have n1 : a ≠ s + 1 := by omega
    have n2 : a ≠ s + 2 := by omega
    funext j
    simp [cpL, n1, n2]
def sumA (L : List (Int64 × Int64)) (i w : Int32) : Int64 := if 0 ≤ i.toInt ∧ i.toInt < L.length ∧ 0 ≤ w.toInt ∧ w.toInt ≤ 1 then (if w = 0 then (L.getD i.toNatClampNeg (0, 0)).1 else (L.getD i.toNatClampNeg (0, 0)).2) else -1
theorem c_sumOf {sh : List Sh} {h : Hp} {s B K : Nat} {L : List (Int64 × Int64)} (S : SumsR sh h s L B K) (i w : Int32) : Sp0 mX7_sumOf [.ref s, .int i, .int w] sh h (fun v h' => v = some (.long (sumA L i w)) ∧ h' = h) := by
  obtain ⟨a1, a2, a3, a4, a5, a6, a7, a8, a9, a10⟩ := S
  have hL : (nI L.length).toInt = L.length := nI_toInt (by omega)
  have h1 : (1 : Int32).toInt = 1 := by decide
  refine Sp0.of (by decide) (Nat.le_of_ble_eq_true rfl) ?_
  show E mX7_sumOf none _ 0 [some (.ref s), some (.int i), some (.int w)] [] sh h 0 0
  refine E_iload_n dX7_sumOf_0 rfl ?_
  refine E_if_lt 21 dX7_sumOf_1 (by decide) (fun c_1 => ?_) (fun c_1 => ?_)
  · refine E_ldc2 dX7_sumOf_21 kl_X7_51 ?_
    exact E_retl dX7_sumOf_24 rfl (Nat.le_of_ble_eq_true rfl) (Nat.le_of_ble_eq_true rfl) ⟨rfl, by rw [i_lt, i_0] at c_1; rw [sumA, if_neg (by omega)], rfl⟩
  · refine E_iload_n dX7_sumOf_4 rfl ?_
    refine E_aload_n dX7_sumOf_5 rfl ?_
    refine E_getI dX7_sumOf_6 fl_X7_18 (by first | assumption | rfl) rfl ?_
    refine E_icmp_ge 21 dX7_sumOf_9 (by decide) (fun c_9 => ?_) (fun c_9 => ?_)
    · refine E_ldc2 dX7_sumOf_21 kl_X7_51 ?_
      exact E_retl dX7_sumOf_24 rfl (Nat.le_of_ble_eq_true rfl) (Nat.le_of_ble_eq_true rfl) ⟨rfl, by rw [a6, i_le, hL] at c_9; rw [sumA, if_neg (by omega)], rfl⟩
    · refine E_iload_n dX7_sumOf_12 rfl ?_
      refine E_if_lt 21 dX7_sumOf_13 (by decide) (fun c_13 => ?_) (fun c_13 => ?_)
      · refine E_ldc2 dX7_sumOf_21 kl_X7_51 ?_
        exact E_retl dX7_sumOf_24 rfl (Nat.le_of_ble_eq_true rfl) (Nat.le_of_ble_eq_true rfl) ⟨rfl, by rw [i_lt, i_0] at c_13; rw [sumA, if_neg (by omega)], rfl⟩
      · refine E_iload_n dX7_sumOf_16 rfl ?_
        refine E_ic 1 dX7_sumOf_17 (by decide) ?_
        refine E_icmp_le 25 dX7_sumOf_18 (by decide) (fun c_18 => ?_) (fun c_18 => ?_)
        · rw [i_le, h1] at c_18
          rw [a6, i_le, hL] at c_9
          rw [i_lt, i_0] at c_13
          have c3 := cl_toInt c_1
          refine E_iload_n dX7_sumOf_25 rfl ?_
          refine E_if_ne 38 dX7_sumOf_26 (by decide) (fun c_26 => ?_) (fun c_26 => ?_)
          · refine E_aload_n dX7_sumOf_38 rfl ?_
            refine E_getR dX7_sumOf_39 fl_X7_15 (by first | assumption | rfl) (by assumption) rfl ?_
            refine E_iload_n dX7_sumOf_42 rfl ?_
            refine E_lald dX7_sumOf_43 (by first | assumption | rfl) (in_of c_1 (by omega)) ?_
            exact E_retl dX7_sumOf_44 rfl (Nat.le_of_ble_eq_true rfl) (Nat.le_of_ble_eq_true rfl) ⟨rfl, by rw [sumA, if_pos (by omega), if_neg c_26, (a10 _ (by omega)).2], rfl⟩
          · refine E_aload_n dX7_sumOf_29 rfl ?_
            refine E_getR dX7_sumOf_30 fl_X7_9 (by first | assumption | rfl) (by assumption) rfl ?_
            refine E_iload_n dX7_sumOf_33 rfl ?_
            refine E_lald dX7_sumOf_34 (by first | assumption | rfl) (in_of c_1 (by omega)) ?_
            refine E_goto 44 dX7_sumOf_35 (by decide) ?_
            exact E_retl dX7_sumOf_44 rfl (Nat.le_of_ble_eq_true rfl) (Nat.le_of_ble_eq_true rfl) ⟨rfl, by rw [sumA, if_pos (by omega), if_pos c_26, (a10 _ (by omega)).1], rfl⟩
        · refine E_ldc2 dX7_sumOf_21 kl_X7_51 ?_
          exact E_retl dX7_sumOf_24 rfl (Nat.le_of_ble_eq_true rfl) (Nat.le_of_ble_eq_true rfl) ⟨rfl, by rw [i_le, h1] at c_18; rw [sumA, if_neg (by omega)], rfl⟩
theorem any_no {L : List (Int64 × Int64)} {w : Int64} (h : ∀ j, j < L.length → ¬ (L.getD j (0, 0)).1 = w) : ¬ L.any (fun p => decide (p.1 = w)) = true := by
  intro q
  obtain ⟨p, h1, h2⟩ := List.any_eq_true.mp q
  obtain ⟨j, hj, rfl⟩ := List.getElem_of_mem h1
  have := h j hj
  simp [List.getD, hj] at this
  exact this (by simpa using h2)
theorem any_yes {L : List (Int64 × Int64)} {w : Int64} {i : Nat} (hi : i < L.length) (h : (L.getD i (0, 0)).1 = w) : L.any (fun p => decide (p.1 = w)) = true := by
  refine List.any_eq_true.mpr ⟨L[i], List.getElem_mem hi, ?_⟩
  simp [List.getD, hi] at h
  simpa using h
theorem c_hasWeak {sh : List Sh} {h : Hp} {s B K : Nat} {L : List (Int64 × Int64)} (S : SumsR sh h s L B K) (w : Int64) : Sp0 mX7_hasWeak [.ref s, .long w] sh h (fun v h' => v = some (.int (if L.any (fun p => decide (p.1 = w)) then 1 else 0)) ∧ h' = h) := by
  obtain ⟨a1, a2, a3, a4, a5, a6, a7, a8, a9, a10⟩ := S
  refine Sp0.of (by decide) (Nat.le_of_ble_eq_true rfl) ?_
  show E mX7_hasWeak none _ 0 [some (.ref s), some (.long w), none, none] [] sh h 0 0
  have loop : ∀ (n i : Nat), L.length - i ≤ n → i ≤ L.length → (∀ j, j < i → ¬ (L.getD j (0, 0)).1 = w) → E mX7_hasWeak none (fun v sh' h' => sh' = sh ∧ v = some (.int (if L.any (fun p => decide (p.1 = w)) then 1 else 0)) ∧ h' = h) 2 [some (.ref s), some (.long w), none, some (.int (nI i))] [] sh h 0 0 := by
    intro n
    induction n with
    | zero =>
      intro i h1 h2 h3
      have e : i = L.length := by omega
      subst e
      refine E_iload_n dX7_hasWeak_2 rfl ?_
      refine E_aload_n dX7_hasWeak_3 rfl ?_
      refine E_getI dX7_hasWeak_4 fl_X7_18 (by first | assumption | rfl) rfl ?_
      refine E_icmp_ge 29 dX7_hasWeak_7 (by decide) (fun c_7 => ?_) (fun c_7 => absurd (by rw [a6]; exact nI_le (by omega) (by omega)) c_7)
      refine E_ic 0 dX7_hasWeak_29 (by decide) ?_
      exact E_reti dX7_hasWeak_30 rfl rfl (Nat.le_of_ble_eq_true rfl) (Nat.le_of_ble_eq_true rfl) ⟨rfl, by rw [if_neg (any_no h3)], rfl⟩
    | succ n ih =>
      intro i h1 h2 h3
      by_cases e : i = L.length
      · subst e
        refine E_iload_n dX7_hasWeak_2 rfl ?_
        refine E_aload_n dX7_hasWeak_3 rfl ?_
        refine E_getI dX7_hasWeak_4 fl_X7_18 (by first | assumption | rfl) rfl ?_
        refine E_icmp_ge 29 dX7_hasWeak_7 (by decide) (fun c_7 => ?_) (fun c_7 => absurd (by rw [a6]; exact nI_le (by omega) (by omega)) c_7)
        refine E_ic 0 dX7_hasWeak_29 (by decide) ?_
        exact E_reti dX7_hasWeak_30 rfl rfl (Nat.le_of_ble_eq_true rfl) (Nat.le_of_ble_eq_true rfl) ⟨rfl, by rw [if_neg (any_no h3)], rfl⟩
      · refine E_iload_n dX7_hasWeak_2 rfl ?_
        refine E_aload_n dX7_hasWeak_3 rfl ?_
        refine E_getI dX7_hasWeak_4 fl_X7_18 (by first | assumption | rfl) rfl ?_
        refine E_icmp_ge 29 dX7_hasWeak_7 (by decide) (fun c_7 => absurd c_7 (by rw [a6]; exact nI_ge (by omega) (by omega))) (fun c_7 => ?_)
        refine E_aload_n dX7_hasWeak_10 rfl ?_
        refine E_getR dX7_hasWeak_11 fl_X7_9 (by first | assumption | rfl) (by assumption) rfl ?_
        refine E_iload_n dX7_hasWeak_14 rfl ?_
        refine E_lald dX7_hasWeak_15 (by first | assumption | rfl) (vp_in_nI (by omega) (by omega)) ?_
        rw [nI_clamp (by omega), (a10 i (by omega)).1]
        refine E_lload_n dX7_hasWeak_16 rfl ?_
        refine E_lcmp dX7_hasWeak_17 ?_
        refine E_if_ne 23 dX7_hasWeak_18 (by decide) (fun c_18 => ?_) (fun c_18 => ?_)
        · refine E_iinc dX7_hasWeak_23 rfl (by decide) ?_
          refine E_goto 2 dX7_hasWeak_26 (by decide) ?_
          rw [nI_inc]
          exact ih (i + 1) (by omega) (by omega) (fun j hj => by rcases Nat.lt_or_ge j i with q | q; exact h3 j q; rw [show j = i by omega]; exact fun q => c_18 ((lg_cmp_eq _ _).mpr q))
        · refine E_ic 1 dX7_hasWeak_21 (by decide) ?_
          exact E_reti dX7_hasWeak_22 rfl rfl (Nat.le_of_ble_eq_true rfl) (Nat.le_of_ble_eq_true rfl) ⟨rfl, by rw [if_pos (any_yes (by omega) ((lg_cmp_eq _ _).mp c_18))], rfl⟩
  refine E_ic 0 dX7_hasWeak_0 (by decide) ?_
  refine E_istore_n dX7_hasWeak_1 (by decide) ?_
  exact loop L.length 0 (by omega) (by omega) (by omega)
/-- the first block with both; -2: none -/
def findB (L : List (Int64 × Int64)) (w t : Int64) : Int32 := match L.findIdx? (fun p => decide (p.1 = w ∧ p.2 = t)) with
  | none => -2
  | some i => nI i
theorem find_no {L : List (Int64 × Int64)} {w t : Int64} (h : ∀ j, j < L.length → ¬ ((L.getD j (0, 0)).1 = w ∧ (L.getD j (0, 0)).2 = t)) : findB L w t = -2 := by
  unfold findB
  rw [List.findIdx?_eq_none_iff.mpr]
  intro p hp
  obtain ⟨j, hj, rfl⟩ := List.getElem_of_mem hp
  have := h j hj
  simp [List.getD, hj] at this
  simpa using this
theorem find_yes {L : List (Int64 × Int64)} {w t : Int64} {i : Nat} (hi : i < L.length) (h : ∀ j, j < i → ¬ ((L.getD j (0, 0)).1 = w ∧ (L.getD j (0, 0)).2 = t)) (h1 : (L.getD i (0, 0)).1 = w) (h2 : (L.getD i (0, 0)).2 = t) : findB L w t = nI i := by
  unfold findB
  rw [List.findIdx?_eq_some_iff_getElem.mpr ⟨hi, ?_, ?_⟩]
  · simp [List.getD, hi] at h1 h2
    simp [h1, h2]
  · intro j hj
    have hl : j < L.length := by omega
    have := h j hj
    simp [List.getD, hl] at this
    simpa using this
theorem c_find {sh : List Sh} {h : Hp} {s B K : Nat} {L : List (Int64 × Int64)} (S : SumsR sh h s L B K) (w t : Int64) : Sp0 mX7_find [.ref s, .long w, .long t] sh h (fun v h' => v = some (.int (findB L w t)) ∧ h' = h) := by
  obtain ⟨a1, a2, a3, a4, a5, a6, a7, a8, a9, a10⟩ := S
  refine Sp0.of (by decide) (Nat.le_of_ble_eq_true rfl) ?_
  show E mX7_find none _ 0 [some (.ref s), some (.long w), none, some (.long t), none, none] [] sh h 0 0
  have loop : ∀ (n i : Nat), L.length - i ≤ n → i ≤ L.length → (∀ j, j < i → ¬ ((L.getD j (0, 0)).1 = w ∧ (L.getD j (0, 0)).2 = t)) → E mX7_find none (fun v sh' h' => sh' = sh ∧ v = some (.int (findB L w t)) ∧ h' = h) 3 [some (.ref s), some (.long w), none, some (.long t), none, some (.int (nI i))] [] sh h 0 0 := by
    intro n
    induction n with
    | zero =>
      intro i h1 h2 h3
      have e : i = L.length := by omega
      subst e
      refine E_iload dX7_find_3 rfl ?_
      refine E_aload_n dX7_find_5 rfl ?_
      refine E_getI dX7_find_6 fl_X7_18 (by first | assumption | rfl) rfl ?_
      refine E_icmp_ge 45 dX7_find_9 (by decide) (fun c_9 => ?_) (fun c_9 => absurd (by rw [a6]; exact nI_le (by omega) (by omega)) c_9)
      refine E_bi (-2) dX7_find_45 (by decide) ?_
      exact E_reti dX7_find_47 rfl rfl (Nat.le_of_ble_eq_true rfl) (Nat.le_of_ble_eq_true rfl) ⟨rfl, by rw [find_no h3], rfl⟩
    | succ n ih =>
      intro i h1 h2 h3
      by_cases e : i = L.length
      · subst e
        refine E_iload dX7_find_3 rfl ?_
        refine E_aload_n dX7_find_5 rfl ?_
        refine E_getI dX7_find_6 fl_X7_18 (by first | assumption | rfl) rfl ?_
        refine E_icmp_ge 45 dX7_find_9 (by decide) (fun c_9 => ?_) (fun c_9 => absurd (by rw [a6]; exact nI_le (by omega) (by omega)) c_9)
        refine E_bi (-2) dX7_find_45 (by decide) ?_
        exact E_reti dX7_find_47 rfl rfl (Nat.le_of_ble_eq_true rfl) (Nat.le_of_ble_eq_true rfl) ⟨rfl, by rw [find_no h3], rfl⟩
      · refine E_iload dX7_find_3 rfl ?_
        refine E_aload_n dX7_find_5 rfl ?_
        refine E_getI dX7_find_6 fl_X7_18 (by first | assumption | rfl) rfl ?_
        refine E_icmp_ge 45 dX7_find_9 (by decide) (fun c_9 => absurd c_9 (by rw [a6]; exact nI_ge (by omega) (by omega))) (fun c_9 => ?_)
        refine E_aload_n dX7_find_12 rfl ?_
        refine E_getR dX7_find_13 fl_X7_9 (by first | assumption | rfl) (by assumption) rfl ?_
        refine E_iload dX7_find_16 rfl ?_
        refine E_lald dX7_find_18 (by first | assumption | rfl) (vp_in_nI (by omega) (by omega)) ?_
        rw [nI_clamp (by omega), (a10 i (by omega)).1]
        refine E_lload_n dX7_find_19 rfl ?_
        refine E_lcmp dX7_find_20 ?_
        refine E_if_ne 39 dX7_find_21 (by decide) (fun c_21 => ?_) (fun c_21 => ?_)
        · refine E_iinc dX7_find_39 rfl (by decide) ?_
          refine E_goto 3 dX7_find_42 (by decide) ?_
          rw [nI_inc]
          exact ih (i + 1) (by omega) (by omega) (fun j hj => by rcases Nat.lt_or_ge j i with q | q; exact h3 j q; rw [show j = i by omega]; exact fun q => c_21 ((lg_cmp_eq _ _).mpr q.1))
        · refine E_aload_n dX7_find_24 rfl ?_
          refine E_getR dX7_find_25 fl_X7_15 (by first | assumption | rfl) (by assumption) rfl ?_
          refine E_iload dX7_find_28 rfl ?_
          refine E_lald dX7_find_30 (by first | assumption | rfl) (vp_in_nI (by omega) (by omega)) ?_
          rw [nI_clamp (by omega), (a10 i (by omega)).2]
          refine E_lload_n dX7_find_31 rfl ?_
          refine E_lcmp dX7_find_32 ?_
          refine E_if_ne 39 dX7_find_33 (by decide) (fun c_33 => ?_) (fun c_33 => ?_)
          · refine E_iinc dX7_find_39 rfl (by decide) ?_
            refine E_goto 3 dX7_find_42 (by decide) ?_
            rw [nI_inc]
            exact ih (i + 1) (by omega) (by omega) (fun j hj => by rcases Nat.lt_or_ge j i with q | q; exact h3 j q; rw [show j = i by omega]; exact fun q => c_33 ((lg_cmp_eq _ _).mpr q.2))
          · refine E_iload dX7_find_36 rfl ?_
            exact E_reti dX7_find_38 rfl rfl (Nat.le_of_ble_eq_true rfl) (Nat.le_of_ble_eq_true rfl) ⟨rfl, by rw [find_yes (by omega) h3 ((lg_cmp_eq _ _).mp c_21) ((lg_cmp_eq _ _).mp c_33)], rfl⟩
  refine E_ic 0 dX7_find_0 (by decide) ?_
  refine E_istore dX7_find_1 (by decide) ?_
  exact loop L.length 0 (by omega) (by omega) (by omega)
theorem c_become {sh : List Sh} {h : Hp} {m : Nat} (hs : sh[m]? = some (.inr 1)) (k n : Int32) : Sp0 mX1_become [.ref m, .int k, .int n] sh h (fun v h' => v = none ∧ h' = sI (sI h m 2 k) m 3 n) := by
  refine Sp0.of (by decide) (Nat.le_of_ble_eq_true rfl) ?_
  show E mX1_become none _ 0 [some (.ref m), some (.int k), some (.int n)] [] sh h 0 0
  refine E_aload_n dX1_become_0 rfl ?_
  refine E_iload_n dX1_become_1 rfl ?_
  refine E_putI dX1_become_2 fl_X1_27 (by first | assumption | rfl) rfl ?_
  refine E_aload_n dX1_become_5 rfl ?_
  refine E_iload_n dX1_become_6 rfl ?_
  refine E_putI dX1_become_7 fl_X1_31 (by first | assumption | rfl) rfl ?_
  exact E_retv dX1_become_10 rfl (Nat.le_of_ble_eq_true rfl) (Nat.le_of_ble_eq_true rfl) ⟨rfl, rfl, rfl⟩
theorem c_isByTarget {sh : List Sh} {h : Hp} {m : Nat} (hs : sh[m]? = some (.inr 1)) : Sp0 mX1_isByTarget [.ref m] sh h (fun v h' => v = some (.int (if h.1 m 2 = 0 ∨ h.1 m 2 = 2 ∨ h.1 m 2 = 7 then 1 else 0)) ∧ h' = h) := by
  refine Sp0.of (by decide) (Nat.le_of_ble_eq_true rfl) ?_
  show E mX1_isByTarget none _ 0 [some (.ref m)] [] sh h 0 0
  refine E_aload_n dX1_isByTarget_0 rfl ?_
  refine E_getI dX1_isByTarget_1 fl_X1_27 (by first | assumption | rfl) rfl ?_
  refine E_if_eq 24 dX1_isByTarget_4 (by decide) (fun c_4 => ?_) (fun c_4 => ?_)
  · refine E_ic 1 dX1_isByTarget_24 (by decide) ?_
    refine E_goto 29 dX1_isByTarget_25 (by decide) ?_
    exact E_reti dX1_isByTarget_29 rfl rfl (Nat.le_of_ble_eq_true rfl) (Nat.le_of_ble_eq_true rfl) ⟨rfl, by rw [if_pos (Or.inl c_4)], rfl⟩
  · refine E_aload_n dX1_isByTarget_7 rfl ?_
    refine E_getI dX1_isByTarget_8 fl_X1_27 (by first | assumption | rfl) rfl ?_
    refine E_ic 2 dX1_isByTarget_11 (by decide) ?_
    refine E_icmp_eq 24 dX1_isByTarget_12 (by decide) (fun c_12 => ?_) (fun c_12 => ?_)
    · refine E_ic 1 dX1_isByTarget_24 (by decide) ?_
      refine E_goto 29 dX1_isByTarget_25 (by decide) ?_
      exact E_reti dX1_isByTarget_29 rfl rfl (Nat.le_of_ble_eq_true rfl) (Nat.le_of_ble_eq_true rfl) ⟨rfl, by rw [if_pos (Or.inr (Or.inl c_12))], rfl⟩
    · refine E_aload_n dX1_isByTarget_15 rfl ?_
      refine E_getI dX1_isByTarget_16 fl_X1_27 (by first | assumption | rfl) rfl ?_
      refine E_bi 7 dX1_isByTarget_19 (by decide) ?_
      refine E_icmp_ne 28 dX1_isByTarget_21 (by decide) (fun c_21 => ?_) (fun c_21 => ?_)
      · refine E_ic 0 dX1_isByTarget_28 (by decide) ?_
        exact E_reti dX1_isByTarget_29 rfl rfl (Nat.le_of_ble_eq_true rfl) (Nat.le_of_ble_eq_true rfl) ⟨rfl, by rw [if_neg (by rintro (q | q | q); exact c_4 q; exact c_12 q; exact c_21 q)], rfl⟩
      · refine E_ic 1 dX1_isByTarget_24 (by decide) ?_
        refine E_goto 29 dX1_isByTarget_25 (by decide) ?_
        exact E_reti dX1_isByTarget_29 rfl rfl (Nat.le_of_ble_eq_true rfl) (Nat.le_of_ble_eq_true rfl) ⟨rfl, by rw [if_pos (Or.inr (Or.inr c_21))], rfl⟩
theorem c_bytesBy {sh : List Sh} {h : Hp} {n : Nat} (hs : sh[n]? = some (.inr 0)) (e : Int32) : Sp0 mX0_bytesBy [.ref n, .int e] sh h (fun v h' => v = some (.long (if e = 0 then h.2.1 n 1 else h.2.1 n 2)) ∧ h' = h) := by
  refine Sp0.of (by decide) (Nat.le_of_ble_eq_true rfl) ?_
  show E mX0_bytesBy none _ 0 [some (.ref n), some (.int e)] [] sh h 0 0
  refine E_iload_n dX0_bytesBy_0 rfl ?_
  refine E_if_ne 11 dX0_bytesBy_1 (by decide) (fun c_1 => ?_) (fun c_1 => ?_)
  · refine E_aload_n dX0_bytesBy_11 rfl ?_
    refine E_getL dX0_bytesBy_12 fl_X0_24 (by first | assumption | rfl) rfl ?_
    exact E_retl dX0_bytesBy_15 rfl (Nat.le_of_ble_eq_true rfl) (Nat.le_of_ble_eq_true rfl) ⟨rfl, by rw [if_neg c_1], rfl⟩
  · refine E_aload_n dX0_bytesBy_4 rfl ?_
    refine E_getL dX0_bytesBy_5 fl_X0_21 (by first | assumption | rfl) rfl ?_
    refine E_goto 15 dX0_bytesBy_8 (by decide) ?_
    exact E_retl dX0_bytesBy_15 rfl (Nat.le_of_ble_eq_true rfl) (Nat.le_of_ble_eq_true rfl) ⟨rfl, by rw [if_pos c_1], rfl⟩
def ushr1 (x : Int64) : Int64 := (x.toUInt64 >>> ((1 : Int32).toInt64.toUInt64 &&& Int64.toUInt64 63)).toInt64
theorem c_carry {sh : List Sh} {h : Hp} {n : Nat} (hs : sh[n]? = some (.inr 0)) (e b : Int32) : Sp0 mX0_carry [.ref n, .int e, .int b] sh h (fun v h' => v = some (.int (if h.2.1 n 0 &&& 1 = 0 then 1 else 0)) ∧ h' = sL (if e = 0 then sL h n 1 (h.2.1 n 1 + b.toInt64) else sL h n 2 (h.2.1 n 2 + b.toInt64)) n 0 (ushr1 (h.2.1 n 0))) := by
  have z : ∀ g : Hp, g.2.1 n 0 = h.2.1 n 0 → E mX0_carry none (fun v sh' h' => sh' = sh ∧ v = some (.int (if h.2.1 n 0 &&& 1 = 0 then 1 else 0)) ∧ h' = sL g n 0 (ushr1 (h.2.1 n 0))) 29 [some (.ref n), some (.int e), some (.int b), none] [] sh g 0 0 := by
    intro g hg
    refine E_aload_n dX0_carry_29 rfl ?_
    refine E_getL dX0_carry_30 fl_X0_9 (by first | assumption | rfl) rfl ?_
    refine E_lc 1 dX0_carry_33 (by decide) ?_
    rw [hg]
    refine E_land dX0_carry_34 ?_
    refine E_lc 0 dX0_carry_35 (by decide) ?_
    refine E_lcmp dX0_carry_36 ?_
    refine E_if_ne 44 dX0_carry_37 (by decide) (fun c_37 => ?_) (fun c_37 => ?_)
    · refine E_ic 0 dX0_carry_44 (by decide) ?_
      refine E_istore_n dX0_carry_45 (by decide) ?_
      refine E_aload_n dX0_carry_46 rfl ?_
      refine E_dup rfl dX0_carry_47 ?_
      refine E_getL dX0_carry_48 fl_X0_9 (by first | assumption | rfl) rfl ?_
      refine E_ic 1 dX0_carry_51 (by decide) ?_
      rw [hg]
      refine E_lushr dX0_carry_52 ?_
      refine E_putL dX0_carry_53 fl_X0_9 (by first | assumption | rfl) rfl ?_
      refine E_iload_n dX0_carry_56 rfl ?_
      exact E_reti dX0_carry_57 rfl rfl (Nat.le_of_ble_eq_true rfl) (Nat.le_of_ble_eq_true rfl) ⟨rfl, by rw [if_neg (fun q => c_37 ((lg_cmp_eq _ _).mpr q))], rfl⟩
    · refine E_ic 1 dX0_carry_40 (by decide) ?_
      refine E_goto 45 dX0_carry_41 (by decide) ?_
      refine E_istore_n dX0_carry_45 (by decide) ?_
      refine E_aload_n dX0_carry_46 rfl ?_
      refine E_dup rfl dX0_carry_47 ?_
      refine E_getL dX0_carry_48 fl_X0_9 (by first | assumption | rfl) rfl ?_
      refine E_ic 1 dX0_carry_51 (by decide) ?_
      rw [hg]
      refine E_lushr dX0_carry_52 ?_
      refine E_putL dX0_carry_53 fl_X0_9 (by first | assumption | rfl) rfl ?_
      refine E_iload_n dX0_carry_56 rfl ?_
      exact E_reti dX0_carry_57 rfl rfl (Nat.le_of_ble_eq_true rfl) (Nat.le_of_ble_eq_true rfl) ⟨rfl, by rw [if_pos ((lg_cmp_eq _ _).mp c_37)], rfl⟩
  refine Sp0.of (by decide) (Nat.le_of_ble_eq_true rfl) ?_
  show E mX0_carry none _ 0 [some (.ref n), some (.int e), some (.int b), none] [] sh h 0 0
  refine E_iload_n dX0_carry_0 rfl ?_
  refine E_if_ne 18 dX0_carry_1 (by decide) (fun c_1 => ?_) (fun c_1 => ?_)
  · refine E_aload_n dX0_carry_18 rfl ?_
    refine E_dup rfl dX0_carry_19 ?_
    refine E_getL dX0_carry_20 fl_X0_24 (by first | assumption | rfl) rfl ?_
    refine E_iload_n dX0_carry_23 rfl ?_
    refine E_i2l dX0_carry_24 ?_
    refine E_ladd dX0_carry_25 ?_
    refine E_putL dX0_carry_26 fl_X0_24 (by first | assumption | rfl) rfl ?_
    rw [if_neg c_1]
    exact z _ (by simp [sL, u2])
  · refine E_aload_n dX0_carry_4 rfl ?_
    refine E_dup rfl dX0_carry_5 ?_
    refine E_getL dX0_carry_6 fl_X0_21 (by first | assumption | rfl) rfl ?_
    refine E_iload_n dX0_carry_9 rfl ?_
    refine E_i2l dX0_carry_10 ?_
    refine E_ladd dX0_carry_11 ?_
    refine E_putL dX0_carry_12 fl_X0_21 (by first | assumption | rfl) rfl ?_
    refine E_goto 29 dX0_carry_15 (by decide) ?_
    rw [if_pos c_1]
    exact z _ (by simp [sL, u2])

