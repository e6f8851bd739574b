/-! the model: state, lose, isToLose, begin -/
theorem m_state {b : Ab} {h : Hp} (M : MRep b h) (w : Int32) : Sp0 mX9_state [.ref 59, .int w] SH h (fun v h' => v = some (.int (if w = 14 ∧ b.1 0 = 0 then -2 else tellA b w)) ∧ h' = h) := by
  obtain ⟨q0, q1, q2, q3, q9, q10, q11, q13, q14, q22, q29, q33, q34, q36, q37, q40⟩ := id M.2.2.1
  have g0 : h.1 59 4 = b.1 0 := M.1 0 (by decide)
  have g4 : h.1 64 1 = b.1 4 := M.1 4 (by decide)
  have g5 : h.1 64 2 = b.1 5 := M.1 5 (by decide)
  have g6 : h.1 64 3 = b.1 6 := M.1 6 (by decide)
  have g7 : h.1 64 12 = b.1 7 := M.1 7 (by decide)
  have g8 : h.1 64 14 = b.1 8 := M.1 8 (by decide)
  have g14 : h.1 64 10 = b.1 14 := M.1 14 (by decide)
  have g15 : h.1 64 11 = b.1 15 := M.1 15 (by decide)
  have g22 : h.1 64 5 = b.1 22 := M.1 22 (by decide)
  have g23 : h.1 64 6 = b.1 23 := M.1 23 (by decide)
  have g24 : h.1 64 7 = b.1 24 := M.1 24 (by decide)
  have g25 : h.1 64 8 = b.1 25 := M.1 25 (by decide)
  have g26 : h.1 64 9 = b.1 26 := M.1 26 (by decide)
  have c5 := M.2.2.2.2.1
  have h15 : (15 : Int32).toInt = 15 := by decide
  have gW : h.1 59 12 = nI (b.2.2.1 0).length := M.2.2.2.1.1
  have gB : h.1 59 23 = nI (b.2.2.1 1).length := M.2.2.2.2.2.2.1.1
  have cnt : ∀ j, j < 16 → j ≠ 0 → j ≠ 4 → j ≠ 13 → j ≠ 15 → h.1 64 j = tellN b j := by
    intro j r1 r2 r3 r4 r5
    rcases (show j = 1 ∨ j = 2 ∨ j = 3 ∨ j = 5 ∨ j = 6 ∨ j = 7 ∨ j = 8 ∨ j = 9 ∨ j = 10 ∨ j = 11 ∨ j = 12 ∨ j = 14 by omega) with rfl | rfl | rfl | rfl | rfl | rfl | rfl | rfl | rfl | rfl | rfl | rfl
    · exact g4
    · exact g5
    · exact g6
    · exact g22
    · exact g23
    · exact g24
    · exact g25
    · exact g26
    · exact g14
    · exact g15
    · exact g7
    · exact g8
  refine Sp0.of (by decide) (Nat.le_of_ble_eq_true rfl) ?_
  show E mX9_state none _ 0 [some (.ref 59), some (.int w), none, none] [] SH h 0 0
  have fin : ∀ j, j < 16 → E mX9_state none (fun v sh' h' => sh' = SH ∧ v = some (.int (if nI j = 14 ∧ b.1 0 = 0 then -2 else tellA b (nI j))) ∧ h' = h) 45 [some (.ref 59), some (.int (nI j)), some (.int (nI (tcount (b.2.2.2.2.1 0) 8))), some (.int (nI 8))] [] SH h 0 0 := by
    intro j hj
    have ht : tellA b (nI j) = tellN b j := by rw [tellA, if_pos (by rw [nI_toInt (by omega)]; omega), nI_clamp (by omega)]
    rw [ht]
    have hE : ∀ m, m < 16 → (nI j = nI m ↔ j = m) := fun m hm => nI_eq (by omega) (by omega)
    refine E_iload_n dX9_state_45 rfl ?_
    rw [show (0 : Int32) = nI 0 by decide]
    refine E_if_ne 56 dX9_state_46 (by decide) (fun c_46 => ?_) (fun c_46 => ?_)
    · refine E_iload_n dX9_state_56 rfl ?_
      refine E_ic 4 dX9_state_57 (by decide) ?_
      rw [show (4 : Int32) = nI 4 by decide]
      refine E_icmp_ne 65 dX9_state_58 (by decide) (fun c_58 => ?_) (fun c_58 => ?_)
      · refine E_iload_n dX9_state_65 rfl ?_
        refine E_bi 13 dX9_state_66 (by decide) ?_
        rw [show (13 : Int32) = nI 13 by decide]
        refine E_icmp_ne 78 dX9_state_68 (by decide) (fun c_68 => ?_) (fun c_68 => ?_)
        · refine E_iload_n dX9_state_78 rfl ?_
          refine E_bi 15 dX9_state_79 (by decide) ?_
          rw [show (15 : Int32) = nI 15 by decide]
          refine E_icmp_ne 91 dX9_state_81 (by decide) (fun c_81 => ?_) (fun c_81 => ?_)
          · refine E_iload_n dX9_state_91 rfl ?_
            refine E_bi 14 dX9_state_92 (by decide) ?_
            rw [show (14 : Int32) = nI 14 by decide]
            refine E_icmp_ne 109 dX9_state_94 (by decide) (fun c_94 => ?_) (fun c_94 => ?_)
            · refine E_aload_n dX9_state_109 rfl ?_
              refine E_getR dX9_state_110 fl_X9_24 rfl (by assumption) rfl ?_
              refine E_iload_n dX9_state_113 rfl ?_
              refine E_iald dX9_state_114 rfl (vp_in_nI hj (by omega)) ?_
              exact E_reti dX9_state_115 rfl rfl (Nat.le_of_ble_eq_true rfl) (Nat.le_of_ble_eq_true rfl) ⟨rfl, by rw [nI_clamp (by omega), cnt j hj (fun z => c_46 (by rw [z]; decide)) (fun z => c_58 (by rw [z])) (fun z => c_68 (by rw [z])) (fun z => c_81 (by rw [z])), if_neg (fun z => c_94 z.1)], rfl⟩
            · refine E_aload_n dX9_state_97 rfl ?_
              refine E_getI dX9_state_98 fl_X9_94 rfl rfl ?_
              rw [g0]
              refine E_if_ne 109 dX9_state_101 (by decide) (fun c_101 => ?_) (fun c_101 => ?_)
              · refine E_aload_n dX9_state_109 rfl ?_
                refine E_getR dX9_state_110 fl_X9_24 rfl (by assumption) rfl ?_
                refine E_iload_n dX9_state_113 rfl ?_
                refine E_iald dX9_state_114 rfl (vp_in_nI hj (by omega)) ?_
                exact E_reti dX9_state_115 rfl rfl (Nat.le_of_ble_eq_true rfl) (Nat.le_of_ble_eq_true rfl) ⟨rfl, by rw [nI_clamp (by omega), cnt j hj (fun z => c_46 (by rw [z]; decide)) (fun z => c_58 (by rw [z])) (fun z => c_68 (by rw [z])) (fun z => c_81 (by rw [z])), if_neg (fun z => c_101 z.2)], rfl⟩
              · refine E_bi (-2) dX9_state_104 (by decide) ?_
                refine E_goto 115 dX9_state_106 (by decide) ?_
                exact E_reti dX9_state_115 rfl rfl (Nat.le_of_ble_eq_true rfl) (Nat.le_of_ble_eq_true rfl) ⟨rfl, by rw [if_pos ⟨c_94, c_101⟩], rfl⟩
          · refine E_aload_n dX9_state_84 rfl ?_
            refine E_getI dX9_state_85 fl_X9_106 rfl rfl ?_
            rw [gW]
            refine E_goto 115 dX9_state_88 (by decide) ?_
            exact E_reti dX9_state_115 rfl rfl (Nat.le_of_ble_eq_true rfl) (Nat.le_of_ble_eq_true rfl) ⟨rfl, by have := (hE 15 (by decide)).mp c_81; subst this; rw [if_neg (fun z => absurd z.1 (by decide))]; rfl, rfl⟩
        · refine E_aload_n dX9_state_71 rfl ?_
          refine E_getI dX9_state_72 fl_X9_119 rfl rfl ?_
          rw [gB]
          refine E_goto 115 dX9_state_75 (by decide) ?_
          exact E_reti dX9_state_115 rfl rfl (Nat.le_of_ble_eq_true rfl) (Nat.le_of_ble_eq_true rfl) ⟨rfl, by have := (hE 13 (by decide)).mp c_68; subst this; rw [if_neg (fun z => absurd z.1 (by decide))]; rfl, rfl⟩
      · refine E_iload_n dX9_state_61 rfl ?_
        refine E_goto 115 dX9_state_62 (by decide) ?_
        exact E_reti dX9_state_115 rfl rfl (Nat.le_of_ble_eq_true rfl) (Nat.le_of_ble_eq_true rfl) ⟨rfl, by have := (hE 4 (by decide)).mp c_58; subst this; rw [if_neg (fun z => absurd z.1 (by decide))]; rfl, rfl⟩
    · refine E_aload_n dX9_state_49 rfl ?_
      refine E_getI dX9_state_50 fl_X9_94 rfl rfl ?_
      rw [g0]
      refine E_goto 115 dX9_state_53 (by decide) ?_
      exact E_reti dX9_state_115 rfl rfl (Nat.le_of_ble_eq_true rfl) (Nat.le_of_ble_eq_true rfl) ⟨rfl, by have := (hE 0 (by decide)).mp c_46; subst this; rw [if_neg (fun z => absurd z.1 (by decide))]; rfl, rfl⟩
  generalize hT : b.2.2.2.2.1 0 = T at c5 fin
  have loop : ∀ j, j < 16 → ∀ (n i : Nat), 8 - i ≤ n → i ≤ 8 → E mX9_state none (fun v sh' h' => sh' = SH ∧ v = some (.int (if nI j = 14 ∧ b.1 0 = 0 then -2 else tellA b (nI j))) ∧ h' = h) 16 [some (.ref 59), some (.int (nI j)), some (.int (nI (tcount T i))), some (.int (nI i))] [] SH h 0 0 := by
    intro j hj n
    induction n with
    | zero =>
      intro i r1 r2
      have e : i = 8 := by omega
      subst e
      refine E_iload_n dX9_state_16 rfl ?_
      refine E_bi 8 dX9_state_17 (by decide) ?_
      refine E_icmp_ge 45 dX9_state_19 (by decide) (fun c_19 => ?_) (fun c_19 => absurd (by decide) c_19)
      exact fin j hj
    | succ n ih =>
      intro i r1 r2
      by_cases e : i = 8
      · subst e
        refine E_iload_n dX9_state_16 rfl ?_
        refine E_bi 8 dX9_state_17 (by decide) ?_
        refine E_icmp_ge 45 dX9_state_19 (by decide) (fun c_19 => ?_) (fun c_19 => absurd (by decide) c_19)
        exact fin j hj
      · have hi := ih (i + 1) (by omega) (by omega)
        cases hTi : T i with
        | true =>
          rw [show tcount T (i + 1) = tcount T i + 1 by simp [tcount, hTi]] at hi
          refine E_iload_n dX9_state_16 rfl ?_
          refine E_bi 8 dX9_state_17 (by decide) ?_
          rw [show (8 : Int32) = nI 8 by decide]
          refine E_icmp_ge 45 dX9_state_19 (by decide) (fun c_19 => absurd c_19 (nI_ge (by omega) (by omega))) (fun c_19 => ?_)
          refine E_iload_n dX9_state_22 rfl ?_
          refine E_aload_n dX9_state_23 rfl ?_
          refine E_getR dX9_state_24 fl_X9_33 rfl (by assumption) rfl ?_
          refine E_iload_n dX9_state_27 rfl ?_
          refine E_zald dX9_state_28 rfl (vp_in_nI (by omega) (by omega)) ?_
          rw [nI_clamp (by omega), c5 i (by omega), hTi]
          refine E_if_eq 36 dX9_state_29 (by decide) (fun c_29 => absurd c_29 (by simp)) (fun c_29 => ?_)
          refine E_ic 1 dX9_state_32 (by decide) ?_
          refine E_goto 37 dX9_state_33 (by decide) ?_
          refine E_iadd dX9_state_37 ?_
          refine E_istore_n dX9_state_38 (by decide) ?_
          refine E_iinc dX9_state_39 rfl (by decide) ?_
          refine E_goto 16 dX9_state_42 (by decide) ?_
          rw [nI_inc, nI_1]
          exact hi
        | false =>
          rw [show tcount T (i + 1) = tcount T i + 0 by simp [tcount, hTi]] at hi
          refine E_iload_n dX9_state_16 rfl ?_
          refine E_bi 8 dX9_state_17 (by decide) ?_
          rw [show (8 : Int32) = nI 8 by decide]
          refine E_icmp_ge 45 dX9_state_19 (by decide) (fun c_19 => absurd c_19 (nI_ge (by omega) (by omega))) (fun c_19 => ?_)
          refine E_iload_n dX9_state_22 rfl ?_
          refine E_aload_n dX9_state_23 rfl ?_
          refine E_getR dX9_state_24 fl_X9_33 rfl (by assumption) rfl ?_
          refine E_iload_n dX9_state_27 rfl ?_
          refine E_zald dX9_state_28 rfl (vp_in_nI (by omega) (by omega)) ?_
          rw [nI_clamp (by omega), c5 i (by omega), hTi]
          refine E_if_eq 36 dX9_state_29 (by decide) (fun c_29 => ?_) (fun c_29 => absurd (by simp) c_29)
          refine E_ic 0 dX9_state_36 (by decide) ?_
          refine E_iadd dX9_state_37 ?_
          refine E_istore_n dX9_state_38 (by decide) ?_
          refine E_iinc dX9_state_39 rfl (by decide) ?_
          refine E_goto 16 dX9_state_42 (by decide) ?_
          rw [nI_inc, show (0 : Int32) = nI 0 by decide, nI_add]
          exact hi
  refine E_iload_n dX9_state_0 rfl ?_
  refine E_if_lt 10 dX9_state_1 (by decide) (fun c_1 => ?_) (fun c_1 => ?_)
  · refine E_ic (-1) dX9_state_10 (by decide) ?_
    exact E_reti dX9_state_11 rfl rfl (Nat.le_of_ble_eq_true rfl) (Nat.le_of_ble_eq_true rfl) ⟨rfl, by rw [if_neg (fun z => by rw [z.1] at c_1; exact absurd c_1 (by decide)), tellA, if_neg (fun z => by rw [i_lt, i_0] at c_1; omega)], rfl⟩
  · refine E_iload_n dX9_state_4 rfl ?_
    refine E_bi 15 dX9_state_5 (by decide) ?_
    refine E_icmp_le 12 dX9_state_7 (by decide) (fun c_7 => ?_) (fun c_7 => ?_)
    · obtain ⟨j, hj, rfl⟩ := nI_of2 (x := w) (M := 15) (n := 15) h15 c_1 c_7
      refine E_ic 0 dX9_state_12 (by decide) ?_
      refine E_istore_n dX9_state_13 (by decide) ?_
      refine E_ic 0 dX9_state_14 (by decide) ?_
      refine E_istore_n dX9_state_15 (by decide) ?_
      exact loop j (by omega) 8 0 (by omega) (by omega)
    · refine E_ic (-1) dX9_state_10 (by decide) ?_
      exact E_reti dX9_state_11 rfl rfl (Nat.le_of_ble_eq_true rfl) (Nat.le_of_ble_eq_true rfl) ⟨rfl, by rw [if_neg (fun z => by rw [z.1] at c_7; exact absurd (by decide) c_7), tellA, if_neg (fun z => by rw [i_le, h15] at c_7; omega)], rfl⟩
abbrev loOk (k : Int32) : Prop := 1 ≤ k.toInt ∧ k.toInt ≤ 50
def loR (T : List Nat) (k : Int32) : Int32 := if loOk k then (if k.toNatClampNeg ∈ T then -1 else if 8 ≤ T.length then -3 else nI (T.length + 1)) else -1
def loT (T : List Nat) (k : Int32) : List Nat := if loOk k ∧ ¬ k.toNatClampNeg ∈ T ∧ ¬ 8 ≤ T.length then T ++ [k.toNatClampNeg] else T
theorem mem_no {T : List Nat} {k : Nat} (h : ∀ j, j < T.length → T.getD j 0 ≠ k) : ¬ k ∈ T := by
  intro hk
  obtain ⟨j, hj, e⟩ := List.mem_iff_getElem.mp hk
  exact h j hj (by simp [List.getD, hj, e])
theorem mem_yes {T : List Nat} {k j : Nat} (hj : j < T.length) (h : T.getD j 0 = k) : k ∈ T := by
  rw [← h]
  simp [List.getD, hj]
theorem aN_self (a : Ab) (k : Nat) : aN a k (a.2.2.1 k) = a := by
  simp only [aN]
  congr 3
  funext j
  simp [va_up]
  intro e
  rw [e]
theorem lose_put {b : Ab} {h : Hp} {T : List Nat} {q : Nat} (M : MRep b h) (hTe : b.2.2.1 5 = T) (f1 : h.1 59 41 = nI T.length) (hl : T.length ≤ 8) (fB : ∀ j, j < T.length → h.1 75 j = nI (T.getD j 0)) (he : T.length < 8) : MRep (aN b 5 (T ++ [q])) (sI (sI h 75 T.length (nI q)) 59 41 (nI (T.length + 1))) := by
  refine M.los (W := T ++ [q]) ⟨by simp [sI, u2], by simp; omega, fun j hj => ?_⟩ rfl (fun x r1 r2 => by funext j; simp [sI, u2, r1, r2]) (fun s r => by simp [sI, u2, r])
  simp at hj
  by_cases z : j = T.length
  · subst z; simp [sI, u2, List.getD]
  · have z2 : j < T.length := by omega
    have z3 := fB j z2
    simp [sI, u2, z, List.getD, List.getElem?_append_left z2] at z3 ⊢
    exact z3
theorem m_lose {b : Ab} {h : Hp} (M : MRep b h) (hT : ∀ t ∈ b.2.2.1 5, t ≤ 50) (k : Int32) : Sp0 mX9_lose [.ref 59, .int k] SH h (fun v h' => v = some (.int (loR (b.2.2.1 5) k)) ∧ MRep (aN b 5 (loT (b.2.2.1 5) k)) h' ∧ MF h h') := by
  obtain ⟨q0, q1, q2, q3, q9, q10, q11, q13, q14, q22, q29, q33, q34, q36, q37, q40⟩ := id M.2.2.1
  have c9 := M.2.2.2.2.2.2.2.2.1
  have hself : aN b 5 (b.2.2.1 5) = b := aN_self b 5
  generalize hTe : b.2.2.1 5 = T at hT c9 hself ⊢
  obtain ⟨f1, hl, fB⟩ := c9
  have h1 : (1 : Int32).toInt = 1 := by decide
  have h50 : (50 : Int32).toInt = 50 := by decide
  refine Sp0.of (by decide) (Nat.le_of_ble_eq_true rfl) ?_
  show E mX9_lose none _ 0 [some (.ref 59), some (.int k), none] [] SH h 0 0
  have fin : ∀ (q : Nat), q ≤ 50 → 1 ≤ q → ¬ q ∈ T → E mX9_lose none (fun v sh' h' => sh' = SH ∧ v = some (.int (loR T (nI q))) ∧ MRep (aN b 5 (loT T (nI q))) h' ∧ MF h h') 41 [some (.ref 59), some (.int (nI q)), some (.int (nI T.length))] [] SH h 0 0 := by
    intro q hq hq1 hn
    have hok : loOk (nI q) := by unfold loOk; rw [nI_toInt (by omega)]; omega
    have hn' : ¬ (nI q).toNatClampNeg ∈ T := by rw [nI_clamp (by omega)]; exact hn
    refine E_aload_n dX9_lose_41 rfl ?_
    refine E_getI dX9_lose_42 fl_X9_160 rfl rfl ?_
    refine E_bi 8 dX9_lose_45 (by decide) ?_
    rw [f1, show (8 : Int32) = nI 8 by decide]
    refine E_icmp_ne 53 dX9_lose_47 (by decide) (fun c_47 => ?_) (fun c_47 => ?_)
    · have he : T.length < 8 := Nat.lt_of_le_of_ne hl (fun z => c_47 (by rw [z]))
      refine E_aload_n dX9_lose_53 rfl ?_
      refine E_getR dX9_lose_54 fl_X9_58 rfl (by assumption) rfl ?_
      refine E_aload_n dX9_lose_57 rfl ?_
      refine E_getI dX9_lose_58 fl_X9_160 rfl rfl ?_
      refine E_iload_n dX9_lose_61 rfl ?_
      rw [f1]
      refine E_iast dX9_lose_62 rfl (vp_in_nI he (by omega)) ?_
      rw [nI_clamp (by omega)]
      refine E_aload_n dX9_lose_63 rfl ?_
      refine E_dup rfl dX9_lose_64 ?_
      refine E_getI dX9_lose_65 fl_X9_160 rfl rfl ?_
      rw [show (sI h 75 T.length (nI q)).1 59 41 = nI T.length by rw [← f1]; simp [sI, u2]]
      refine E_ic 1 dX9_lose_68 (by decide) ?_
      refine E_iadd dX9_lose_69 ?_
      rw [nI_1]
      refine E_putI dX9_lose_70 fl_X9_160 rfl rfl ?_
      refine E_aload_n dX9_lose_73 rfl ?_
      refine E_getI dX9_lose_74 fl_X9_160 rfl rfl ?_
      rw [show (sI (sI h 75 T.length (nI q)) 59 41 (nI (T.length + 1))).1 59 41 = nI (T.length + 1) by simp [sI, u2]]
      exact E_reti dX9_lose_77 rfl rfl (Nat.le_of_ble_eq_true rfl) (Nat.le_of_ble_eq_true rfl) ⟨rfl, by rw [loR, if_pos hok, if_neg hn', if_neg (by omega)], by rw [loT, if_pos ⟨hok, hn', by omega⟩, nI_clamp (by omega)]; exact lose_put M hTe f1 hl fB he, MF_sI (MF_sI MF.rf (by decide)) (by decide)⟩
    · have he : T.length = 8 := (nI_eq (by omega) (by omega)).mp c_47
      refine E_bi (-3) dX9_lose_50 (by decide) ?_
      exact E_reti dX9_lose_52 rfl rfl (Nat.le_of_ble_eq_true rfl) (Nat.le_of_ble_eq_true rfl) ⟨rfl, by rw [loR, if_pos hok, if_neg hn', if_pos (by omega)], by rw [loT, if_neg (fun z => z.2.2 (by omega)), hself]; exact M, MF.rf⟩
  have loop : ∀ (q : Nat), q ≤ 50 → 1 ≤ q → ∀ (n i : Nat), T.length - i ≤ n → i ≤ T.length → (∀ j, j < i → T.getD j 0 ≠ q) → E mX9_lose none (fun v sh' h' => sh' = SH ∧ v = some (.int (loR T (nI q))) ∧ MRep (aN b 5 (loT T (nI q))) h' ∧ MF h h') 15 [some (.ref 59), some (.int (nI q)), some (.int (nI i))] [] SH h 0 0 := by
    intro q hq hq1 n
    have hok : loOk (nI q) := by unfold loOk; rw [nI_toInt (by omega)]; omega
    induction n with
    | zero =>
      intro i r1 r2 r3
      have e : i = T.length := by omega
      subst e
      refine E_iload_n dX9_lose_15 rfl ?_
      refine E_aload_n dX9_lose_16 rfl ?_
      refine E_getI dX9_lose_17 fl_X9_160 rfl rfl ?_
      rw [f1]
      refine E_icmp_ge 41 dX9_lose_20 (by decide) (fun c_20 => ?_) (fun c_20 => absurd (nI_le (by omega) (by omega)) c_20)
      exact fin q hq hq1 (mem_no r3)
    | succ n ih =>
      intro i r1 r2 r3
      by_cases e : i = T.length
      · subst e
        refine E_iload_n dX9_lose_15 rfl ?_
        refine E_aload_n dX9_lose_16 rfl ?_
        refine E_getI dX9_lose_17 fl_X9_160 rfl rfl ?_
        rw [f1]
        refine E_icmp_ge 41 dX9_lose_20 (by decide) (fun c_20 => ?_) (fun c_20 => absurd (nI_le (by omega) (by omega)) c_20)
        exact fin q hq hq1 (mem_no r3)
      · have hi : i < T.length := by omega
        have hti : T.getD i 0 ≤ 50 := hT _ (mem_yes hi rfl)
        refine E_iload_n dX9_lose_15 rfl ?_
        refine E_aload_n dX9_lose_16 rfl ?_
        refine E_getI dX9_lose_17 fl_X9_160 rfl rfl ?_
        rw [f1]
        refine E_icmp_ge 41 dX9_lose_20 (by decide) (fun c_20 => absurd c_20 (nI_ge hi (by omega))) (fun c_20 => ?_)
        refine E_aload_n dX9_lose_23 rfl ?_
        refine E_getR dX9_lose_24 fl_X9_58 rfl (by assumption) rfl ?_
        refine E_iload_n dX9_lose_27 rfl ?_
        refine E_iald dX9_lose_28 rfl (vp_in_nI (by omega) (by omega)) ?_
        rw [nI_clamp (by omega), fB i hi]
        refine E_iload_n dX9_lose_29 rfl ?_
        refine E_icmp_ne 35 dX9_lose_30 (by decide) (fun c_30 => ?_) (fun c_30 => ?_)
        · refine E_iinc dX9_lose_35 rfl (by decide) ?_
          refine E_goto 15 dX9_lose_38 (by decide) ?_
          rw [nI_inc]
          exact ih (i + 1) (by omega) (by omega) (fun j hj => by rcases Nat.lt_or_ge j i with z | z; exact r3 j z; rw [show j = i by omega]; exact fun y => c_30 (by rw [y]))
        · refine E_ic (-1) dX9_lose_33 (by decide) ?_
          exact E_reti dX9_lose_34 rfl rfl (Nat.le_of_ble_eq_true rfl) (Nat.le_of_ble_eq_true rfl) ⟨rfl, by have z := (nI_eq (by omega) (by omega)).mp c_30; rw [loR, if_pos hok, nI_clamp (by omega), if_pos (mem_yes hi z)], by have z := (nI_eq (by omega) (by omega)).mp c_30; rw [loT, if_neg (fun y => y.2.1 (by rw [nI_clamp (by omega)]; exact mem_yes hi z)), hself]; exact M, MF.rf⟩
  refine E_iload_n dX9_lose_0 rfl ?_
  refine E_ic 1 dX9_lose_1 (by decide) ?_
  refine E_icmp_lt 11 dX9_lose_2 (by decide) (fun c_2 => ?_) (fun c_2 => ?_)
  · refine E_ic (-1) dX9_lose_11 (by decide) ?_
    exact E_reti dX9_lose_12 rfl rfl (Nat.le_of_ble_eq_true rfl) (Nat.le_of_ble_eq_true rfl) ⟨rfl, by rw [loR, if_neg (fun z => by rw [i_lt, h1] at c_2; omega)], by rw [loT, if_neg (fun z => by rw [i_lt, h1] at c_2; omega), hself]; exact M, MF.rf⟩
  · refine E_iload_n dX9_lose_5 rfl ?_
    refine E_bi 50 dX9_lose_6 (by decide) ?_
    refine E_icmp_le 13 dX9_lose_8 (by decide) (fun c_8 => ?_) (fun c_8 => ?_)
    · rw [i_lt, h1] at c_2
      obtain ⟨q, hq, rfl⟩ := nI_of2 (x := k) (M := 50) (n := 50) h50 (by rw [i_lt, i_0]; omega) c_8
      rw [nI_toInt (by omega)] at c_2
      refine E_ic 0 dX9_lose_13 (by decide) ?_
      refine E_istore_n dX9_lose_14 (by decide) ?_
      exact loop q hq (by omega) _ 0 (Nat.le_refl _) (by omega) (fun j hj => absurd hj (by omega))
    · refine E_ic (-1) dX9_lose_11 (by decide) ?_
      exact E_reti dX9_lose_12 rfl rfl (Nat.le_of_ble_eq_true rfl) (Nat.le_of_ble_eq_true rfl) ⟨rfl, by rw [loR, if_neg (fun z => by rw [i_le, h50] at c_8; omega)], by rw [loT, if_neg (fun z => by rw [i_le, h50] at c_8; omega), hself]; exact M, MF.rf⟩

