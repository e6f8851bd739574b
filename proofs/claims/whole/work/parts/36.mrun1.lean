/-! the model: small calls -/
theorem m_target {b : Ab} {h : Hp} (M : MRep b h) (hs : eOk (b.1 1)) : Sp0 mX9_target [.ref 59] SH h (fun v h' => v = some (.int (nI (tg b))) ∧ h' = h) := by
  have g1 : h.1 59 5 = b.1 1 := M.1 1 (by decide)
  have e : (1 : Int32) - b.1 1 = nI (tg b) := by
    unfold tg
    rcases hs with q | q <;> rw [q] <;> decide
  refine Sp0.of (by decide) (Nat.le_of_ble_eq_true rfl) ?_
  show E mX9_target none _ 0 [some (.ref 59)] [] SH h 0 0
  refine E_ic 1 dX9_target_0 (by decide) ?_
  refine E_aload_n dX9_target_1 rfl ?_
  refine E_getI dX9_target_2 fl_X9_90 rfl rfl ?_
  rw [g1]
  refine E_isub dX9_target_5 ?_
  rw [e]
  exact E_reti dX9_target_6 rfl rfl (Nat.le_of_ble_eq_true rfl) (Nat.le_of_ble_eq_true rfl) ⟨rfl, rfl, rfl⟩
theorem src_n {b : Ab} (hs : eOk (b.1 1)) : b.1 1 = nI (sr b) := by
  unfold sr
  rcases hs with q | q <;> rw [q] <;> decide
def msgA (b : Ab) (s k z : Int32) : Ab := aI (aI (aI b 29 s) 9 k) 10 z
theorem m_message {b : Ab} {h : Hp} (M : MRep b h) (s k z : Int32) : Sp0 mX9_message [.ref 59, .int s, .int k, .int z] SH h (fun v h' => v = none ∧ MRep (msgA b s k z) h' ∧ MF h h') := by
  refine Sp0.of (by decide) (Nat.le_of_ble_eq_true rfl) ?_
  show E mX9_message none _ 0 [some (.ref 59), some (.int s), some (.int k), some (.int z)] [] SH h 0 0
  refine E_aload_n dX9_message_0 rfl ?_
  refine E_iload_n dX9_message_1 rfl ?_
  refine E_putI dX9_message_2 fl_X9_137 rfl rfl ?_
  have M1 := M.setI 29 s (by decide)
  have F1 : MF h (sI h 59 24 s) := MF_sI MF.rf (by decide)
  refine E_aload_n dX9_message_5 rfl ?_
  refine E_iload_n dX9_message_6 rfl ?_
  refine E_putI dX9_message_7 fl_X9_131 rfl rfl ?_
  have M2 := M1.setI 9 k (by decide)
  have F2 := MF_sI (b := 59) (k := 25) (x := k) F1 (by decide)
  refine E_aload_n dX9_message_10 rfl ?_
  refine E_iload_n dX9_message_11 rfl ?_
  refine E_putI dX9_message_12 fl_X9_140 rfl rfl ?_
  have M3 := M2.setI 10 z (by decide)
  have F3 := MF_sI (b := 59) (k := 26) (x := z) F2 (by decide)
  exact E_retv dX9_message_15 rfl (Nat.le_of_ble_eq_true rfl) (Nat.le_of_ble_eq_true rfl) ⟨rfl, rfl, M3, F3⟩
theorem m_leastToDo {b : Ab} {h : Hp} (M : MRep b h) : Sp0 mX9_leastToDo [.ref 59] SH h (fun v h' => v = some (.int (ltd (b.2.2.2.2.1 0))) ∧ h' = h) := by
  obtain ⟨q0, q1, q2, q3, q9, q10, q11, q13, q14, q22, q29, q33, q34, q36, q37, q40⟩ := id M.2.2.1
  have c5 := M.2.2.2.2.1
  generalize b.2.2.2.2.1 0 = T at c5 ⊢
  refine Sp0.of (by decide) (Nat.le_of_ble_eq_true rfl) ?_
  show E mX9_leastToDo none _ 0 [some (.ref 59), none] [] SH h 0 0
  have loop : ∀ (n i : Nat), 8 - i ≤ n → i ≤ 8 → (∀ j, j < i → T j = false) → E mX9_leastToDo none (fun v sh' h' => sh' = SH ∧ v = some (.int (ltd T)) ∧ h' = h) 2 [some (.ref 59), some (.int (nI i))] [] SH h 0 0 := by
    intro n
    induction n with
    | zero =>
      intro i h1 h2 h3
      have e : i = 8 := by omega
      subst e
      refine E_iload_n dX9_leastToDo_2 rfl ?_
      refine E_bi 8 dX9_leastToDo_3 (by decide) ?_
      refine E_icmp_ge 25 dX9_leastToDo_5 (by decide) (fun c_5 => ?_) (fun c_5 => absurd (by decide) c_5)
      refine E_bi (-2) dX9_leastToDo_25 (by decide) ?_
      exact E_reti dX9_leastToDo_27 rfl rfl (Nat.le_of_ble_eq_true rfl) (Nat.le_of_ble_eq_true rfl) ⟨rfl, by rw [ltd_none h3], rfl⟩
    | succ n ih =>
      intro i h1 h2 h3
      by_cases e : i = 8
      · subst e
        refine E_iload_n dX9_leastToDo_2 rfl ?_
        refine E_bi 8 dX9_leastToDo_3 (by decide) ?_
        refine E_icmp_ge 25 dX9_leastToDo_5 (by decide) (fun c_5 => ?_) (fun c_5 => absurd (by decide) c_5)
        refine E_bi (-2) dX9_leastToDo_25 (by decide) ?_
        exact E_reti dX9_leastToDo_27 rfl rfl (Nat.le_of_ble_eq_true rfl) (Nat.le_of_ble_eq_true rfl) ⟨rfl, by rw [ltd_none h3], rfl⟩
      · cases hT : T i with
        | true =>
          refine E_iload_n dX9_leastToDo_2 rfl ?_
          refine E_bi 8 dX9_leastToDo_3 (by decide) ?_
          rw [show (8 : Int32) = nI 8 by decide]
          refine E_icmp_ge 25 dX9_leastToDo_5 (by decide) (fun c_5 => absurd c_5 (nI_ge (by omega) (by omega))) (fun c_5 => ?_)
          refine E_aload_n dX9_leastToDo_8 rfl ?_
          refine E_getR dX9_leastToDo_9 fl_X9_33 rfl (by assumption) rfl ?_
          refine E_iload_n dX9_leastToDo_12 rfl ?_
          refine E_zald dX9_leastToDo_13 rfl (vp_in_nI (by omega) (by omega)) ?_
          rw [nI_clamp (by omega), c5 i (by omega), hT]
          refine E_if_eq 19 dX9_leastToDo_14 (by decide) (fun c_14 => absurd c_14 (by simp)) (fun c_14 => ?_)
          refine E_iload_n dX9_leastToDo_17 rfl ?_
          exact E_reti dX9_leastToDo_18 rfl rfl (Nat.le_of_ble_eq_true rfl) (Nat.le_of_ble_eq_true rfl) ⟨rfl, by rw [ltd_some (by omega) h3 hT], rfl⟩
        | false =>
          refine E_iload_n dX9_leastToDo_2 rfl ?_
          refine E_bi 8 dX9_leastToDo_3 (by decide) ?_
          rw [show (8 : Int32) = nI 8 by decide]
          refine E_icmp_ge 25 dX9_leastToDo_5 (by decide) (fun c_5 => absurd c_5 (nI_ge (by omega) (by omega))) (fun c_5 => ?_)
          refine E_aload_n dX9_leastToDo_8 rfl ?_
          refine E_getR dX9_leastToDo_9 fl_X9_33 rfl (by assumption) rfl ?_
          refine E_iload_n dX9_leastToDo_12 rfl ?_
          refine E_zald dX9_leastToDo_13 rfl (vp_in_nI (by omega) (by omega)) ?_
          rw [nI_clamp (by omega), c5 i (by omega), hT]
          refine E_if_eq 19 dX9_leastToDo_14 (by decide) (fun c_14 => ?_) (fun c_14 => absurd (by simp) c_14)
          refine E_iinc dX9_leastToDo_19 rfl (by decide) ?_
          refine E_goto 2 dX9_leastToDo_22 (by decide) ?_
          rw [nI_inc]
          exact ih (i + 1) (by omega) (by omega) (fun j hj => by rcases Nat.lt_or_ge j i with q | q; exact h3 j q; rw [show j = i by omega]; exact hT)
  refine E_ic 0 dX9_leastToDo_0 (by decide) ?_
  refine E_istore_n dX9_leastToDo_1 (by decide) ?_
  exact loop 8 0 (by omega) (by omega) (by omega)
theorem MRep.built0 {b : Ab} {h : Hp} (M : MRep b h) : MRep (aN b 1 []) (sI h 59 23 0) :=
  M.built (W := []) ⟨by simp [sI, u2, nI_0], by simp, fun x hx => (by cases hx), fun j hj => (by simp at hj)⟩ rfl (fun x q1 q2 => by funext j; simp [sI, u2, q1]) (fun s q => by simp [sI, u2, q])
theorem m_cut {b : Ab} {h : Hp} (M : MRep b h) : Sp0 mX9_cut [.ref 59] SH h (fun v h' => v = some (.int (cuR b)) ∧ MRep (cuS b) h' ∧ MF h h') := by
  obtain ⟨q0, q1, q2, q3, q9, q10, q11, q13, q14, q22, q29, q33, q34, q36, q37, q40⟩ := id M.2.2.1
  have g0 : h.1 59 4 = b.1 0 := M.1 0 (by decide)
  have g4 : h.1 64 1 = b.1 4 := M.1 4 (by decide)
  refine Sp0.of (by decide) (Nat.le_of_ble_eq_true rfl) ?_
  show E mX9_cut none _ 0 [some (.ref 59)] [] SH h 0 0
  refine E_aload_n dX9_cut_0 rfl ?_
  refine E_getI dX9_cut_1 fl_X9_94 rfl rfl ?_
  refine E_ic 1 dX9_cut_4 (by decide) ?_
  rw [g0]
  refine E_icmp_eq 11 dX9_cut_5 (by decide) (fun c_5 => ?_) (fun c_5 => ?_)
  · refine E_aload_n dX9_cut_11 rfl ?_
    refine E_ic 3 dX9_cut_12 (by decide) ?_
    refine E_putI dX9_cut_13 fl_X9_94 rfl rfl ?_
    have M1 := M.setI 0 3 (by decide)
    have F1 : MF h (sI h 59 4 3) := MF_sI MF.rf (by decide)
    refine E_aload_n dX9_cut_16 rfl ?_
    refine E_ic 0 dX9_cut_17 (by decide) ?_
    refine E_putI dX9_cut_18 fl_X9_119 rfl rfl ?_
    have M2 := MRep.built0 M1
    have F2 : MF h (sI (sI h 59 4 3) 59 23 0) := MF_sI F1 (by decide)
    refine E_aload_n dX9_cut_21 rfl ?_
    refine E_getR dX9_cut_22 fl_X9_24 rfl (by assumption) rfl ?_
    refine E_ic 1 dX9_cut_25 (by decide) ?_
    refine E_iald dX9_cut_26 rfl (vp_in_nI (n := 1) (by decide) (by decide)) ?_
    rw [show (sI (sI h 59 4 3) 59 23 0).1 64 (1 : Int32).toNatClampNeg = b.1 4 from M2.1 4 (by decide)]
    exact E_reti dX9_cut_27 rfl rfl (Nat.le_of_ble_eq_true rfl) (Nat.le_of_ble_eq_true rfl) ⟨rfl, by rw [cuR, if_pos c_5], by rw [cuS, if_pos c_5]; exact M2, F2⟩
  · refine E_bi (-2) dX9_cut_8 (by decide) ?_
    exact E_reti dX9_cut_10 rfl rfl (Nat.le_of_ble_eq_true rfl) (Nat.le_of_ble_eq_true rfl) ⟨rfl, by rw [cuR, if_neg c_5], by rw [cuS, if_neg c_5]; exact M, MF.rf⟩
theorem m_sent {b : Ab} {h : Hp} (M : MRep b h) (e : Int32) : Sp0 mX9_sent [.ref 59, .int e] SH h (fun v h' => v = some (.long (seR b e)) ∧ h' = h) := by
  obtain ⟨q0, q1, q2, q3, q9, q10, q11, q13, q14, q22, q29, q33, q34, q36, q37, q40⟩ := id M.2.2.1
  have l1 : h.2.1 65 0 = b.2.1 1 := M.2.1 1 (by decide) (by decide)
  have l2 : h.2.1 65 1 = b.2.1 2 := M.2.1 2 (by decide) (by decide)
  refine Sp0.of (by decide) (Nat.le_of_ble_eq_true rfl) ?_
  show E mX9_sent none _ 0 [some (.ref 59), some (.int e)] [] SH h 0 0
  refine E_iload_n dX9_sent_0 rfl ?_
  refine E_if_eq 9 dX9_sent_1 (by decide) (fun c_1 => ?_) (fun c_1 => ?_)
  · refine E_aload_n dX9_sent_9 rfl ?_
    refine E_getR dX9_sent_10 fl_X9_27 rfl (by assumption) rfl ?_
    refine E_iload_n dX9_sent_13 rfl ?_
    subst c_1
    refine E_lald dX9_sent_14 rfl (vp_in_nI (n := 0) (by decide) (by decide)) ?_
    rw [show h.2.1 65 (0 : Int32).toNatClampNeg = b.2.1 1 from l1]
    refine E_goto 21 dX9_sent_15 (by decide) ?_
    exact E_retl dX9_sent_21 rfl (Nat.le_of_ble_eq_true rfl) (Nat.le_of_ble_eq_true rfl) ⟨rfl, by rw [seR, if_pos (Or.inl rfl), if_pos rfl], rfl⟩
  · refine E_iload_n dX9_sent_4 rfl ?_
    refine E_ic 1 dX9_sent_5 (by decide) ?_
    refine E_icmp_ne 18 dX9_sent_6 (by decide) (fun c_6 => ?_) (fun c_6 => ?_)
    · refine E_ldc2 dX9_sent_18 kl_X9_85 ?_
      exact E_retl dX9_sent_21 rfl (Nat.le_of_ble_eq_true rfl) (Nat.le_of_ble_eq_true rfl) ⟨rfl, by rw [seR, if_neg (fun z => z.elim c_1 c_6)], rfl⟩
    · refine E_aload_n dX9_sent_9 rfl ?_
      refine E_getR dX9_sent_10 fl_X9_27 rfl (by assumption) rfl ?_
      refine E_iload_n dX9_sent_13 rfl ?_
      subst c_6
      refine E_lald dX9_sent_14 rfl (vp_in_nI (n := 1) (by decide) (by decide)) ?_
      rw [show h.2.1 65 (1 : Int32).toNatClampNeg = b.2.1 2 from l2]
      refine E_goto 21 dX9_sent_15 (by decide) ?_
      exact E_retl dX9_sent_21 rfl (Nat.le_of_ble_eq_true rfl) (Nat.le_of_ble_eq_true rfl) ⟨rfl, by rw [seR, if_pos (Or.inr rfl), if_neg (by decide)], rfl⟩
theorem m_built {b : Ab} {h : Hp} (M : MRep b h) (i : Int32) : Sp0 mX9_built [.ref 59, .int i] SH h (fun v h' => v = some (.int (gI (b.2.2.1 1) i)) ∧ h' = h) := by
  obtain ⟨q0, q1, q2, q3, q9, q10, q11, q13, q14, q22, q29, q33, q34, q36, q37, q40⟩ := id M.2.2.1
  have c7 := M.2.2.2.2.2.2.1
  generalize b.2.2.1 1 = xs at c7 ⊢
  obtain ⟨f1, hl, fB⟩ := c7
  refine Sp0.of (by decide) (Nat.le_of_ble_eq_true rfl) ?_
  show E mX9_built none _ 0 [some (.ref 59), some (.int i)] [] SH h 0 0
  refine E_iload_n dX9_built_0 rfl ?_
  refine E_if_lt 25 dX9_built_1 (by decide) (fun c_1 => ?_) (fun c_1 => ?_)
  · refine E_ic (-1) dX9_built_25 (by decide) ?_
    exact E_reti dX9_built_26 rfl rfl (Nat.le_of_ble_eq_true rfl) (Nat.le_of_ble_eq_true rfl) ⟨rfl, by rw [gI, if_neg (fun z => by rw [i_lt, i_0] at c_1; omega)], rfl⟩
  · refine E_iload_n dX9_built_4 rfl ?_
    refine E_aload_n dX9_built_5 rfl ?_
    refine E_getI dX9_built_6 fl_X9_119 rfl rfl ?_
    rw [f1]
    refine E_icmp_ge 25 dX9_built_9 (by decide) (fun c_9 => ?_) (fun c_9 => ?_)
    · refine E_ic (-1) dX9_built_25 (by decide) ?_
      exact E_reti dX9_built_26 rfl rfl (Nat.le_of_ble_eq_true rfl) (Nat.le_of_ble_eq_true rfl) ⟨rfl, by rw [gI, if_neg (fun z => by rw [i_le, nI_toInt (by omega)] at c_9; omega)], rfl⟩
    · obtain ⟨j, hj, rfl⟩ := nI_of c_1
      have hj2 : j < xs.length := Nat.lt_of_not_le fun q => c_9 (nI_le q (by omega))
      have hr := fB.at hj2
      rw [Nat.zero_add] at hr
      refine E_aload_n dX9_built_12 rfl ?_
      refine E_getR dX9_built_13 fl_X9_40 rfl (by assumption) rfl ?_
      refine E_iload_n dX9_built_16 rfl ?_
      refine E_bald dX9_built_17 rfl (vp_in_nI (by omega) (by omega)) ?_
      rw [nI_clamp (by omega), hr]
      refine E_si 255 dX9_built_18 (by decide) ?_
      refine E_iand dX9_built_21 ?_
      rw [sb_i _ (fB.lt j)]
      refine E_goto 26 dX9_built_22 (by decide) ?_
      exact E_reti dX9_built_26 rfl rfl (Nat.le_of_ble_eq_true rfl) (Nat.le_of_ble_eq_true rfl) ⟨rfl, by rw [gI_at hj2 hl], rfl⟩
theorem m_sums {b : Ab} {h : Hp} (M : MRep b h) (i w : Int32) : Sp0 mX9_sums [.ref 59, .int i, .int w] SH h (fun v h' => v = some (.long (sumA (b.2.2.2.2.2 1) i w)) ∧ h' = h) := by
  obtain ⟨q0, q1, q2, q3, q9, q10, q11, q13, q14, q22, q29, q33, q34, q36, q37, q40⟩ := id M.2.2.1
  have c := M.2.2.2.2.2.2.2.2.2.2.2
  generalize b.2.2.2.2.2 1 = L at c ⊢
  obtain ⟨f1, hl, fB⟩ := c
  have h1 : (1 : Int32).toInt = 1 := by decide
  refine Sp0.of (by decide) (Nat.le_of_ble_eq_true rfl) ?_
  show E mX9_sums none _ 0 [some (.ref 59), some (.int i), some (.int w)] [] SH h 0 0
  refine E_iload_n dX9_sums_0 rfl ?_
  refine E_if_lt 21 dX9_sums_1 (by decide) (fun c_1 => ?_) (fun c_1 => ?_)
  · refine E_ldc2 dX9_sums_21 kl_X9_85 ?_
    exact E_retl dX9_sums_24 rfl (Nat.le_of_ble_eq_true rfl) (Nat.le_of_ble_eq_true rfl) ⟨rfl, by rw [sumA, if_neg (fun z => by rw [i_lt, i_0] at c_1; omega)], rfl⟩
  · refine E_iload_n dX9_sums_4 rfl ?_
    refine E_aload_n dX9_sums_5 rfl ?_
    refine E_getI dX9_sums_6 fl_X9_209 rfl rfl ?_
    rw [f1]
    refine E_icmp_ge 21 dX9_sums_9 (by decide) (fun c_9 => ?_) (fun c_9 => ?_)
    · refine E_ldc2 dX9_sums_21 kl_X9_85 ?_
      exact E_retl dX9_sums_24 rfl (Nat.le_of_ble_eq_true rfl) (Nat.le_of_ble_eq_true rfl) ⟨rfl, by rw [sumA, if_neg (fun z => by rw [i_le, nI_toInt (by omega)] at c_9; omega)], rfl⟩
    · refine E_iload_n dX9_sums_12 rfl ?_
      refine E_if_lt 21 dX9_sums_13 (by decide) (fun c_13 => ?_) (fun c_13 => ?_)
      · refine E_ldc2 dX9_sums_21 kl_X9_85 ?_
        exact E_retl dX9_sums_24 rfl (Nat.le_of_ble_eq_true rfl) (Nat.le_of_ble_eq_true rfl) ⟨rfl, by rw [sumA, if_neg (fun z => by rw [i_lt, i_0] at c_13; omega)], rfl⟩
      · refine E_iload_n dX9_sums_16 rfl ?_
        refine E_ic 1 dX9_sums_17 (by decide) ?_
        refine E_icmp_le 25 dX9_sums_18 (by decide) (fun c_18 => ?_) (fun c_18 => ?_)
        · obtain ⟨j, hj, rfl⟩ := nI_of c_1
          have hj2 : j < L.length := Nat.lt_of_not_le fun q => c_9 (nI_le q (by omega))
          have hr := fB j hj2
          have hyes : 0 ≤ (nI j).toInt ∧ (nI j).toInt < L.length ∧ 0 ≤ w.toInt ∧ w.toInt ≤ 1 := by rw [nI_toInt hj]; rw [i_lt, i_0] at c_13; rw [i_le, h1] at c_18; omega
          refine E_iload_n dX9_sums_25 rfl ?_
          refine E_if_ne 38 dX9_sums_26 (by decide) (fun c_26 => ?_) (fun c_26 => ?_)
          · refine E_aload_n dX9_sums_38 rfl ?_
            refine E_getR dX9_sums_39 fl_X9_55 rfl (by assumption) rfl ?_
            refine E_iload_n dX9_sums_42 rfl ?_
            refine E_lald dX9_sums_43 rfl (vp_in_nI (by omega) (by omega)) ?_
            rw [nI_clamp (by omega), hr.2]
            exact E_retl dX9_sums_44 rfl (Nat.le_of_ble_eq_true rfl) (Nat.le_of_ble_eq_true rfl) ⟨rfl, by rw [sumA, if_pos hyes, if_neg c_26, nI_clamp hj], rfl⟩
          · refine E_aload_n dX9_sums_29 rfl ?_
            refine E_getR dX9_sums_30 fl_X9_52 rfl (by assumption) rfl ?_
            refine E_iload_n dX9_sums_33 rfl ?_
            refine E_lald dX9_sums_34 rfl (vp_in_nI (by omega) (by omega)) ?_
            rw [nI_clamp (by omega), hr.1]
            refine E_goto 44 dX9_sums_35 (by decide) ?_
            exact E_retl dX9_sums_44 rfl (Nat.le_of_ble_eq_true rfl) (Nat.le_of_ble_eq_true rfl) ⟨rfl, by rw [sumA, if_pos hyes, if_pos c_26, nI_clamp hj], rfl⟩
        · refine E_ldc2 dX9_sums_21 kl_X9_85 ?_
          exact E_retl dX9_sums_24 rfl (Nat.le_of_ble_eq_true rfl) (Nat.le_of_ble_eq_true rfl) ⟨rfl, by rw [sumA, if_neg (fun z => by rw [i_le, h1] at c_18; omega)], rfl⟩
theorem m_builds {b : Ab} {h : Hp} (M : MRep b h) {v : Nat} (hv : v < 256) : Sp0 mX9_builds [.ref 59, .int (sb v)] SH h (fun w h' => w = none ∧ MRep (aN b 1 (rset (b.2.2.1 1) (b.2.2.1 1).length v 500)) h' ∧ MF h h') := by
  obtain ⟨q0, q1, q2, q3, q9, q10, q11, q13, q14, q22, q29, q33, q34, q36, q37, q40⟩ := id M.2.2.1
  have c7 := M.2.2.2.2.2.2.1
  obtain ⟨f1, hl, fB⟩ := c7
  refine Sp0.of (by decide) (Nat.le_of_ble_eq_true rfl) ?_
  show E mX9_builds none _ 0 [some (.ref 59), some (.int (sb v))] [] SH h 0 0
  refine E_aload_n dX9_builds_0 rfl ?_
  refine E_getI dX9_builds_1 fl_X9_119 rfl rfl ?_
  refine E_si 500 dX9_builds_4 (by decide) ?_
  rw [f1, show (500 : Int32) = nI 500 by decide]
  refine E_icmp_ge 30 dX9_builds_7 (by decide) (fun c_7 => ?_) (fun c_7 => ?_)
  · exact E_retv dX9_builds_30 rfl (Nat.le_of_ble_eq_true rfl) (Nat.le_of_ble_eq_true rfl) ⟨rfl, rfl, by rw [rset, if_neg (by omega), if_neg (fun z => by have := (nI_leI (by omega) (by omega)).mp c_7; omega)]; have := M.built (W := b.2.2.1 1) ⟨f1, hl, fB⟩ rfl (fun _ _ _ => rfl) (fun _ _ => rfl); exact this, MF.rf⟩
  · have hlt : (b.2.2.1 1).length < 500 := Nat.lt_of_not_le fun q => c_7 (nI_le q (by omega))
    have B2 := fB.rset (q := (b.2.2.1 1).length) (m := 500) (Nat.le_refl _) hlt hv
    refine E_aload_n dX9_builds_10 rfl ?_
    refine E_getR dX9_builds_11 fl_X9_40 rfl (by assumption) rfl ?_
    refine E_aload_n dX9_builds_14 rfl ?_
    refine E_getI dX9_builds_15 fl_X9_119 rfl rfl ?_
    refine E_iload_n dX9_builds_18 rfl ?_
    rw [f1]
    refine E_bast dX9_builds_19 rfl (vp_in_nI (by omega) (by omega)) ?_
    rw [nI_clamp (by omega), sb_n _ hv]
    refine E_aload_n dX9_builds_20 rfl ?_
    refine E_dup rfl dX9_builds_21 ?_
    refine E_getI dX9_builds_22 fl_X9_119 rfl rfl ?_
    rw [show (sI h 69 (b.2.2.1 1).length (sb v)).1 59 23 = nI (b.2.2.1 1).length by rw [← f1]; simp [sI, u2]]
    refine E_ic 1 dX9_builds_25 (by decide) ?_
    refine E_iadd dX9_builds_26 ?_
    rw [nI_1]
    refine E_putI dX9_builds_27 fl_X9_119 rfl rfl ?_
    exact E_retv dX9_builds_30 rfl (Nat.le_of_ble_eq_true rfl) (Nat.le_of_ble_eq_true rfl) ⟨rfl, rfl, M.built (W := rset (b.2.2.1 1) (b.2.2.1 1).length v 500) ⟨by rw [rset, if_neg (by omega), if_pos hlt]; simp [sI, u2], rset_len _ _ _ _ hl, by rw [Nat.zero_add] at B2; exact BSeg.off B2 (by funext y; simp [sI, u2])⟩ rfl (fun x r1 r2 => by funext j; simp [sI, u2, r1, r2]) (fun s r => by simp [sI, u2, r]), MF_sI (MF_sI MF.rf (by decide)) (by decide)⟩
theorem setF_self (F : FS) (i : Nat) : setF F i (F i) = F := by
  funext g
  simp only [setF]
  split
  · rename_i e; rw [e]
  · rfl
def endA (b : Ab) (i : Nat) : Ab := aF (aN (aI b 0 2) 1 []) (tg b) (dropF (b.2.2.2.2.1 1) (tF b) i)
theorem m_ends {b : Ab} {h : Hp} (M : MRep b h) (hs : eOk (b.1 1)) : Sp0 mX9_ends [.ref 59] SH h (fun v h' => v = none ∧ MRep (overA b) h' ∧ MF h h') := by
  refine Sp0.of (by decide) (Nat.le_of_ble_eq_true rfl) ?_
  show E mX9_ends none _ 0 [some (.ref 59), none] [] SH h 0 0
  have loop : ∀ (n i : Nat) (h3 : Hp), 8 - i ≤ n → i ≤ 8 → MRep (endA b i) h3 → MF h h3 → E mX9_ends none (fun v sh' h' => sh' = SH ∧ v = none ∧ MRep (overA b) h' ∧ MF h h') 12 [some (.ref 59), some (.int (nI i))] [] SH h3 0 0 := by
    intro n
    induction n with
    | zero =>
      intro i h3 r1 r2 M3 F3
      have e : i = 8 := by omega
      subst e
      refine E_iload_n dX9_ends_12 rfl ?_
      refine E_bi 8 dX9_ends_13 (by decide) ?_
      refine E_icmp_ge 66 dX9_ends_15 (by decide) (fun c_15 => ?_) (fun c_15 => absurd (by decide) c_15)
      exact E_retv dX9_ends_66 rfl (Nat.le_of_ble_eq_true rfl) (Nat.le_of_ble_eq_true rfl) ⟨rfl, rfl, M3, F3⟩
    | succ n ih =>
      intro i h3 r1 r2 M3 F3
      by_cases e : i = 8
      · subst e
        refine E_iload_n dX9_ends_12 rfl ?_
        refine E_bi 8 dX9_ends_13 (by decide) ?_
        refine E_icmp_ge 66 dX9_ends_15 (by decide) (fun c_15 => ?_) (fun c_15 => absurd (by decide) c_15)
        exact E_retv dX9_ends_66 rfl (Nat.le_of_ble_eq_true rfl) (Nat.le_of_ble_eq_true rfl) ⟨rfl, rfl, M3, F3⟩
      · have hi : i < 8 := by omega
        obtain ⟨q0, q1, q2, q3, q9, q10, q11, q13, q14, q22, q29, q33, q34, q36, q37, q40⟩ := id M3.2.2.1
        have c6 := M3.2.2.2.2.2.1 i hi
        have ht : tg (endA b i) = tg b := rfl
        have tl := tg_lt b
        have fm := M3.fm tl hi
        have hat : (endA b i).2.2.2.1 (tg b) = dropF (b.2.2.2.2.1 1) (tF b) i := aF_at _ _ _
        rw [hat] at fm
        have hix : (8 : Int32) * nI (tg b) + nI i = nI (8 * tg b + i) := by rw [show (8 : Int32) = nI 8 by decide, pk_mul, nI_add]
        have step : ∀ o, aF (endA b i) (tg b) (setF ((endA b i).2.2.2.1 (tg b)) i o) = aF (aN (aI b 0 2) 1 []) (tg b) (setF (dropF (b.2.2.2.2.1 1) (tF b) i) i o) := fun o => by rw [hat, endA, aF_aF]
        cases hD : b.2.2.2.2.1 1 i with
        | true =>
          have c6' : h3.1 68 i = 1 := by rw [c6]; show (if b.2.2.2.2.1 1 i = true then (1 : Int32) else 0) = 1; rw [hD]; rfl
          refine E_iload_n dX9_ends_12 rfl ?_
          refine E_bi 8 dX9_ends_13 (by decide) ?_
          rw [show (8 : Int32) = nI 8 by decide]
          refine E_icmp_ge 66 dX9_ends_15 (by decide) (fun c_15 => absurd c_15 (nI_ge (by omega) (by omega))) (fun c_15 => ?_)
          refine E_aload_n dX9_ends_18 rfl ?_
          refine E_getR dX9_ends_19 fl_X9_13 rfl (by assumption) rfl ?_
          refine E_bi 8 dX9_ends_22 (by decide) ?_
          refine E_aload_n dX9_ends_24 rfl ?_
          refine cV0 (N := mX9_target) dX9_ends_25 cn_X9_target lk_X9_157 ⟨Nat.le_of_ble_eq_true rfl, Nat.le_of_ble_eq_true rfl⟩ rfl rfl (Nat.le_of_ble_eq_true rfl) ⟨rfl, rfl⟩ (m_target M3 hs) (fun v4 h4 ⟨hv4, hh4⟩ => ?_)
          rw [hv4, hh4, ht]
          refine E_imul dX9_ends_28 ?_
          refine E_iload_n dX9_ends_29 rfl ?_
          refine E_iadd dX9_ends_30 ?_
          rw [hix]
          refine E_aload_n dX9_ends_31 rfl ?_
          refine E_getR dX9_ends_32 fl_X9_37 rfl (by assumption) rfl ?_
          refine E_iload_n dX9_ends_35 rfl ?_
          refine E_zald dX9_ends_36 rfl (vp_in_nI hi (by omega)) ?_
          rw [nI_clamp (by omega), c6']
          refine E_if_eq 45 dX9_ends_37 (by decide) (fun c_37 => absurd c_37 (by decide)) (fun c_37 => ?_)
          refine E_bi (-2) dX9_ends_40 (by decide) ?_
          refine E_goto 59 dX9_ends_42 (by decide) ?_
          refine E_iast dX9_ends_59 rfl (vp_in_nI (by omega) (by omega)) ?_
          rw [nI_clamp (by omega)]
          refine E_iinc dX9_ends_60 rfl (by decide) ?_
          refine E_goto 12 dX9_ends_63 (by decide) ?_
          rw [nI_inc]
          have M5 := M3.file (o := none) tl hi (FilF.rf.sz (-2)) (by simp [sI, u2, szI]) (by simp) ⟨fun x hx => (by cases hx), fun j hj => (by simp at hj)⟩
          rw [step, ← dropF_yes hD] at M5
          exact ih (i + 1) _ (by omega) (by omega) M5 (F3.tr (FilF.rf.sz (i := 8 * tg b + i) _).mf)
        | false =>
          have c6' : h3.1 68 i = 0 := by rw [c6]; show (if b.2.2.2.2.1 1 i = true then (1 : Int32) else 0) = 0; rw [hD]; rfl
          refine E_iload_n dX9_ends_12 rfl ?_
          refine E_bi 8 dX9_ends_13 (by decide) ?_
          rw [show (8 : Int32) = nI 8 by decide]
          refine E_icmp_ge 66 dX9_ends_15 (by decide) (fun c_15 => absurd c_15 (nI_ge (by omega) (by omega))) (fun c_15 => ?_)
          refine E_aload_n dX9_ends_18 rfl ?_
          refine E_getR dX9_ends_19 fl_X9_13 rfl (by assumption) rfl ?_
          refine E_bi 8 dX9_ends_22 (by decide) ?_
          refine E_aload_n dX9_ends_24 rfl ?_
          refine cV0 (N := mX9_target) dX9_ends_25 cn_X9_target lk_X9_157 ⟨Nat.le_of_ble_eq_true rfl, Nat.le_of_ble_eq_true rfl⟩ rfl rfl (Nat.le_of_ble_eq_true rfl) ⟨rfl, rfl⟩ (m_target M3 hs) (fun v4 h4 ⟨hv4, hh4⟩ => ?_)
          rw [hv4, hh4, ht]
          refine E_imul dX9_ends_28 ?_
          refine E_iload_n dX9_ends_29 rfl ?_
          refine E_iadd dX9_ends_30 ?_
          rw [hix]
          refine E_aload_n dX9_ends_31 rfl ?_
          refine E_getR dX9_ends_32 fl_X9_37 rfl (by assumption) rfl ?_
          refine E_iload_n dX9_ends_35 rfl ?_
          refine E_zald dX9_ends_36 rfl (vp_in_nI hi (by omega)) ?_
          rw [nI_clamp (by omega), c6']
          refine E_if_eq 45 dX9_ends_37 (by decide) (fun c_37 => ?_) (fun c_37 => absurd rfl c_37)
          refine E_aload_n dX9_ends_45 rfl ?_
          refine E_getR dX9_ends_46 fl_X9_13 rfl (by assumption) rfl ?_
          refine E_bi 8 dX9_ends_49 (by decide) ?_
          refine E_aload_n dX9_ends_51 rfl ?_
          refine cV0 (N := mX9_target) dX9_ends_52 cn_X9_target lk_X9_157 ⟨Nat.le_of_ble_eq_true rfl, Nat.le_of_ble_eq_true rfl⟩ rfl rfl (Nat.le_of_ble_eq_true rfl) ⟨rfl, rfl⟩ (m_target M3 hs) (fun v5 h5 ⟨hv5, hh5⟩ => ?_)
          rw [hv5, hh5, ht]
          refine E_imul dX9_ends_55 ?_
          refine E_iload_n dX9_ends_56 rfl ?_
          refine E_iadd dX9_ends_57 ?_
          rw [hix]
          refine E_iald dX9_ends_58 rfl (vp_in_nI (by omega) (by omega)) ?_
          rw [nI_clamp (by omega), fm.1]
          refine E_iast dX9_ends_59 rfl (vp_in_nI (by omega) (by omega)) ?_
          rw [nI_clamp (by omega)]
          refine E_iinc dX9_ends_60 rfl (by decide) ?_
          refine E_goto 12 dX9_ends_63 (by decide) ?_
          rw [nI_inc]
          have M5 := M3.file (o := dropF (b.2.2.2.2.1 1) (tF b) i i) tl hi (FilF.rf.sz (szI (dropF (b.2.2.2.2.1 1) (tF b) i i))) (by simp [sI, u2]) fm.2.1 (BSeg.off fm.2.2 (by funext y; simp [sI, u2]))
          rw [step, setF_self] at M5
          refine ih (i + 1) _ (by omega) (by omega) ?_ (F3.tr (FilF.rf.sz (i := 8 * tg b + i) _).mf)
          rw [endA, dropF_no hD]
          exact M5
  refine E_aload_n dX9_ends_0 rfl ?_
  refine E_ic 2 dX9_ends_1 (by decide) ?_
  refine E_putI dX9_ends_2 fl_X9_94 rfl rfl ?_
  have M1 := M.setI 0 2 (by decide)
  have F1 : MF h (sI h 59 4 2) := MF_sI MF.rf (by decide)
  refine E_aload_n dX9_ends_5 rfl ?_
  refine E_ic 0 dX9_ends_6 (by decide) ?_
  refine E_putI dX9_ends_7 fl_X9_119 rfl rfl ?_
  have M2 := MRep.built0 M1
  have F2 : MF h (sI (sI h 59 4 2) 59 23 0) := MF_sI F1 (by decide)
  refine E_ic 0 dX9_ends_10 (by decide) ?_
  refine E_istore_n dX9_ends_11 (by decide) ?_
  exact loop 8 0 _ (by omega) (by omega) (by rw [endA, show dropF (b.2.2.2.2.1 1) (tF b) 0 = (aN (aI b 0 2) 1 []).2.2.2.1 (tg b) by funext g; simp [dropF, tF]; rfl, aF_self]; exact M2) F2

