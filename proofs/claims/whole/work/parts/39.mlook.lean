/-! the model: look -/
theorem aI_aI (a : Ab) (k : Nat) (x y : Int32) : aI (aI a k x) k y = aI a k y := by
  simp only [aI]
  congr 1
  funext j
  simp [va_up]
  split <;> rfl
theorem aI_at (a : Ab) (k : Nat) (x : Int32) : (aI a k x).1 k = x := by simp [aI, va_up]
theorem aI_ne (a : Ab) {k j : Nat} (x : Int32) (h : j ≠ k) : (aI a k x).1 j = a.1 j := by simp [aI, va_up, h]
theorem aI_self (a : Ab) (k : Nat) : aI a k (a.1 k) = a := by
  simp only [aI]
  congr 1
  funext j
  simp [va_up]
  intro e
  rw [e]
theorem nI_no2 {n : Nat} (h : n < 2 ^ 31) : ¬ nI n = -2 := fun q => absurd (nI_pos h) (fun z => z (by rw [q]; decide))
theorem lk_l2 {b : Ab} {h : Hp} {w s : Int64} {fi : Int32} {Q : QT} (hnI : (b.2.2.2.2.2 1).length ≤ 500) (hw : (∃ j, j < (b.2.2.2.2.2 1).length ∧ ((b.2.2.2.2.2 1).getD j (0, 0)).1 = w)) (kF : ∀ i h', i < (b.2.2.2.2.2 1).length → findB (b.2.2.2.2.2 1) w s = nI i → MRep (aI b 14 (b.1 14 + 1)) h' → MF h h' → Q (some (.int (nI i))) SH h') (kN : ∀ h', findB (b.2.2.2.2.2 1) w s = -2 → MRep (aI (aI b 14 (b.1 14 + 1)) 15 (b.1 15 + 1)) h' → MF h h' → Q (some (.int (-2))) SH h') : ∀ (n i : Nat) (h3 : Hp), (b.2.2.2.2.2 1).length - i ≤ n → i ≤ (b.2.2.2.2.2 1).length → MRep (aI b 14 (b.1 14 + 1)) h3 → MF h h3 → (∀ j, j < i → ¬ (((b.2.2.2.2.2 1).getD j (0, 0)).1 = w ∧ ((b.2.2.2.2.2 1).getD j (0, 0)).2 = s)) → E mX9_look none Q 75 [some (.ref 59), some (.int fi), some (.long w), none, some (.long s), none, some (.int 1), some (.int (nI i))] [] SH h3 0 0 := by
  intro n
  have fin : ∀ (h3 : Hp), MRep (aI b 14 (b.1 14 + 1)) h3 → MF h h3 → (∀ j, j < (b.2.2.2.2.2 1).length → ¬ (((b.2.2.2.2.2 1).getD j (0, 0)).1 = w ∧ ((b.2.2.2.2.2 1).getD j (0, 0)).2 = s)) → E mX9_look none Q 75 [some (.ref 59), some (.int fi), some (.long w), none, some (.long s), none, some (.int 1), some (.int (nI (b.2.2.2.2.2 1).length))] [] SH h3 0 0 := by
    intro h3 M3 F3 hno
    obtain ⟨q0, q1, q2, q3, q9, q10, q11, q13, q14, q22, q29, q33, q34, q36, q37, q40⟩ := id M3.2.2.1
    have f1 : h3.1 59 38 = nI (b.2.2.2.2.2 1).length := M3.2.2.2.2.2.2.2.2.2.2.2.1
    have g15 : h3.1 64 11 = b.1 15 := M3.1 15 (by decide)
    refine E_iload dX9_look_75 rfl ?_
    refine E_aload_n dX9_look_77 rfl ?_
    refine E_getI dX9_look_78 fl_X9_209 rfl rfl ?_
    rw [f1]
    refine E_icmp_ge 141 dX9_look_81 (by decide) (fun c_81 => ?_) (fun c_81 => absurd (nI_le (by omega) (by omega)) c_81)
    refine E_aload_n dX9_look_141 rfl ?_
    refine E_getR dX9_look_142 fl_X9_24 rfl (by assumption) rfl ?_
    refine E_bi 11 dX9_look_145 (by decide) ?_
    refine E_dup2 rfl rfl dX9_look_147 ?_
    refine E_iald dX9_look_148 rfl (vp_in_nI (n := 11) (by decide) (by decide)) ?_
    rw [show h3.1 64 (11 : Int32).toNatClampNeg = b.1 15 from g15]
    refine E_iload dX9_look_149 rfl ?_
    refine E_if_eq 158 dX9_look_151 (by decide) (fun c_151 => absurd c_151 (by decide)) (fun c_151 => ?_)
    refine E_ic 1 dX9_look_154 (by decide) ?_
    refine E_goto 159 dX9_look_155 (by decide) ?_
    refine E_iadd dX9_look_159 ?_
    refine E_iast dX9_look_160 rfl (vp_in_nI (n := 11) (by decide) (by decide)) ?_
    have M4 := M3.setI 15 (b.1 15 + 1) (by decide)
    have F4 := MF_sI (b := 64) (k := 11) (x := b.1 15 + 1) F3 (by decide)
    refine E_bi (-2) dX9_look_161 (by decide) ?_
    exact E_reti dX9_look_163 rfl rfl (Nat.le_of_ble_eq_true rfl) (Nat.le_of_ble_eq_true rfl) (kN _ (find_no hno) M4 F4)
  induction n with
  | zero =>
    intro i h3 r1 r2 M3 F3 hno
    have e : i = (b.2.2.2.2.2 1).length := by omega
    subst e
    exact fin h3 M3 F3 hno
  | succ n ih =>
    intro i h3 r1 r2 M3 F3 hno
    by_cases e : i = (b.2.2.2.2.2 1).length
    · subst e
      exact fin h3 M3 F3 hno
    · have hi : i < (b.2.2.2.2.2 1).length := by omega
      obtain ⟨q0, q1, q2, q3, q9, q10, q11, q13, q14, q22, q29, q33, q34, q36, q37, q40⟩ := id M3.2.2.1
      have c := M3.2.2.2.2.2.2.2.2.2.2.2
      have f1 : h3.1 59 38 = nI (b.2.2.2.2.2 1).length := c.1
      have g14 : h3.1 64 10 = b.1 14 + 1 := (M3.1 14 (by decide)).trans (aI_at _ _ _)
      have c1 : h3.2.1 73 i = ((b.2.2.2.2.2 1).getD i (0, 0)).1 := (c.2.2 i hi).1
      have c2 : h3.2.1 74 i = ((b.2.2.2.2.2 1).getD i (0, 0)).2 := (c.2.2 i hi).2
      have M4 : MRep (aI b 14 (b.1 14 + 1)) (sI h3 64 10 (b.1 14 + 1 + 0)) := by
        have := M3.setI 14 (b.1 14 + 1 + 0) (by decide)
        rw [aI_aI, show b.1 14 + 1 + 0 = b.1 14 + 1 from Int32.add_zero _] at this
        rw [show b.1 14 + 1 + 0 = b.1 14 + 1 from Int32.add_zero _]
        exact this
      have F4 : MF h (sI h3 64 10 (b.1 14 + 1 + 0)) := MF_sI F3 (by decide)
      have c2' : (sI h3 64 10 (b.1 14 + 1 + 0)).2.1 74 i = ((b.2.2.2.2.2 1).getD i (0, 0)).2 := c2
      refine E_iload dX9_look_75 rfl ?_
      refine E_aload_n dX9_look_77 rfl ?_
      refine E_getI dX9_look_78 fl_X9_209 rfl rfl ?_
      rw [f1]
      refine E_icmp_ge 141 dX9_look_81 (by decide) (fun c_81 => absurd c_81 (nI_ge hi (by omega))) (fun c_81 => ?_)
      refine E_aload_n dX9_look_84 rfl ?_
      refine E_getR dX9_look_85 fl_X9_52 rfl (by assumption) rfl ?_
      refine E_iload dX9_look_88 rfl ?_
      refine E_lald dX9_look_90 rfl (vp_in_nI (by omega) (by omega)) ?_
      rw [nI_clamp (by omega), c1]
      refine E_lload_n dX9_look_91 rfl ?_
      refine E_lcmp dX9_look_92 ?_
      refine E_if_ne 135 dX9_look_93 (by decide) (fun c_93 => ?_) (fun c_93 => ?_)
      · refine E_iinc dX9_look_135 rfl (by decide) ?_
        refine E_goto 75 dX9_look_138 (by decide) ?_
        rw [nI_inc]
        exact ih (i + 1) _ (by omega) (by omega) M3 F3 (fun j hj => by rcases Nat.lt_or_ge j i with z | z; exact hno j z; rw [show j = i by omega]; exact fun y => c_93 ((lg_cmp_eq _ _).mpr y.1))
      · refine E_aload_n dX9_look_96 rfl ?_
        refine E_getR dX9_look_97 fl_X9_24 rfl (by assumption) rfl ?_
        refine E_bi 10 dX9_look_100 (by decide) ?_
        refine E_dup2 rfl rfl dX9_look_102 ?_
        refine E_iald dX9_look_103 rfl (vp_in_nI (n := 10) (by decide) (by decide)) ?_
        rw [show h3.1 64 (10 : Int32).toNatClampNeg = b.1 14 + 1 from g14]
        refine E_iload dX9_look_104 rfl ?_
        refine E_if_eq 113 dX9_look_106 (by decide) (fun c_106 => absurd c_106 (by decide)) (fun c_106 => ?_)
        refine E_ic 0 dX9_look_109 (by decide) ?_
        refine E_goto 114 dX9_look_110 (by decide) ?_
        refine E_iadd dX9_look_114 ?_
        refine E_iast dX9_look_115 rfl (vp_in_nI (n := 10) (by decide) (by decide)) ?_
        refine E_ic 1 dX9_look_116 (by decide) ?_
        refine E_istore dX9_look_117 (by decide) ?_
        refine E_aload_n dX9_look_119 rfl ?_
        refine E_getR dX9_look_120 fl_X9_55 rfl (by assumption) rfl ?_
        refine E_iload dX9_look_123 rfl ?_
        refine E_lald dX9_look_125 rfl (vp_in_nI (by omega) (by omega)) ?_
        rw [nI_clamp (by omega), show (sI h3 64 (10 : Int32).toNatClampNeg (b.1 14 + 1 + 0)).2.1 74 i = _ from c2']
        refine E_lload dX9_look_126 rfl ?_
        refine E_lcmp dX9_look_128 ?_
        refine E_if_ne 135 dX9_look_129 (by decide) (fun c_129 => ?_) (fun c_129 => ?_)
        · refine E_iinc dX9_look_135 rfl (by decide) ?_
          refine E_goto 75 dX9_look_138 (by decide) ?_
          rw [nI_inc]
          exact ih (i + 1) _ (by omega) (by omega) M4 F4 (fun j hj => by rcases Nat.lt_or_ge j i with z | z; exact hno j z; rw [show j = i by omega]; exact fun y => c_129 ((lg_cmp_eq _ _).mpr y.2))
        · refine E_iload dX9_look_132 rfl ?_
          exact E_reti dX9_look_134 rfl rfl (Nat.le_of_ble_eq_true rfl) (Nat.le_of_ble_eq_true rfl) (kF i _ hi (find_yes hi hno ((lg_cmp_eq _ _).mp c_93) ((lg_cmp_eq _ _).mp c_129)) M4 F4)
theorem lk_l1 {b : Ab} {h : Hp} {w s : Int64} {fi : Int32} {Q : QT} (M : MRep b h) (kF : ∀ i h', i < (b.2.2.2.2.2 1).length → (∃ j, j < (b.2.2.2.2.2 1).length ∧ ((b.2.2.2.2.2 1).getD j (0, 0)).1 = w) → findB (b.2.2.2.2.2 1) w s = nI i → MRep (aI b 14 (b.1 14 + 1)) h' → MF h h' → Q (some (.int (nI i))) SH h') (kN : ∀ h', (∃ j, j < (b.2.2.2.2.2 1).length ∧ ((b.2.2.2.2.2 1).getD j (0, 0)).1 = w) → findB (b.2.2.2.2.2 1) w s = -2 → MRep (aI (aI b 14 (b.1 14 + 1)) 15 (b.1 15 + 1)) h' → MF h h' → Q (some (.int (-2))) SH h') (kO : ∀ h', (∀ j, j < (b.2.2.2.2.2 1).length → ¬ ((b.2.2.2.2.2 1).getD j (0, 0)).1 = w) → MRep b h' → MF h h' → Q (some (.int (-2))) SH h') : ∀ (n i : Nat), (b.2.2.2.2.2 1).length - i ≤ n → i ≤ (b.2.2.2.2.2 1).length → (∀ j, j < i → ¬ ((b.2.2.2.2.2 1).getD j (0, 0)).1 = w) → E mX9_look none Q 75 [some (.ref 59), some (.int fi), some (.long w), none, some (.long s), none, some (.int 0), some (.int (nI i))] [] SH h 0 0 := by
  obtain ⟨q0, q1, q2, q3, q9, q10, q11, q13, q14, q22, q29, q33, q34, q36, q37, q40⟩ := id M.2.2.1
  have c := M.2.2.2.2.2.2.2.2.2.2.2
  obtain ⟨f1, hl, fB⟩ := c
  have g14 : h.1 64 10 = b.1 14 := M.1 14 (by decide)
  have g15 : h.1 64 11 = b.1 15 := M.1 15 (by decide)
  intro n
  have fin : (∀ j, j < (b.2.2.2.2.2 1).length → ¬ ((b.2.2.2.2.2 1).getD j (0, 0)).1 = w) → E mX9_look none Q 75 [some (.ref 59), some (.int fi), some (.long w), none, some (.long s), none, some (.int 0), some (.int (nI (b.2.2.2.2.2 1).length))] [] SH h 0 0 := by
    intro hno
    have M4 : MRep b (sI h 64 11 (b.1 15 + 0)) := by
      have := M.setI 15 (b.1 15 + 0) (by decide)
      rw [show b.1 15 + 0 = b.1 15 from Int32.add_zero _, aI_self] at this
      rw [show b.1 15 + 0 = b.1 15 from Int32.add_zero _]
      exact this
    have F4 : MF h (sI h 64 11 (b.1 15 + 0)) := MF_sI MF.rf (by decide)
    refine E_iload dX9_look_75 rfl ?_
    refine E_aload_n dX9_look_77 rfl ?_
    refine E_getI dX9_look_78 fl_X9_209 rfl rfl ?_
    rw [f1]
    refine E_icmp_ge 141 dX9_look_81 (by decide) (fun c_81 => ?_) (fun c_81 => absurd (nI_le (by omega) (by omega)) c_81)
    refine E_aload_n dX9_look_141 rfl ?_
    refine E_getR dX9_look_142 fl_X9_24 rfl (by assumption) rfl ?_
    refine E_bi 11 dX9_look_145 (by decide) ?_
    refine E_dup2 rfl rfl dX9_look_147 ?_
    refine E_iald dX9_look_148 rfl (vp_in_nI (n := 11) (by decide) (by decide)) ?_
    rw [show h.1 64 (11 : Int32).toNatClampNeg = b.1 15 from g15]
    refine E_iload dX9_look_149 rfl ?_
    refine E_if_eq 158 dX9_look_151 (by decide) (fun c_151 => ?_) (fun c_151 => absurd rfl c_151)
    refine E_ic 0 dX9_look_158 (by decide) ?_
    refine E_iadd dX9_look_159 ?_
    refine E_iast dX9_look_160 rfl (vp_in_nI (n := 11) (by decide) (by decide)) ?_
    refine E_bi (-2) dX9_look_161 (by decide) ?_
    exact E_reti dX9_look_163 rfl rfl (Nat.le_of_ble_eq_true rfl) (Nat.le_of_ble_eq_true rfl) (kO _ hno M4 F4)
  induction n with
  | zero =>
    intro i r1 r2 hno
    have e : i = (b.2.2.2.2.2 1).length := by omega
    subst e
    exact fin hno
  | succ n ih =>
    intro i r1 r2 hno
    by_cases e : i = (b.2.2.2.2.2 1).length
    · subst e
      exact fin hno
    · have hi : i < (b.2.2.2.2.2 1).length := by omega
      have c1 := (fB i hi).1
      have c2 := (fB i hi).2
      have M4 : MRep (aI b 14 (b.1 14 + 1)) (sI h 64 10 (b.1 14 + 1)) := M.setI 14 (b.1 14 + 1) (by decide)
      have F4 : MF h (sI h 64 10 (b.1 14 + 1)) := MF_sI MF.rf (by decide)
      have c2' : (sI h 64 10 (b.1 14 + 1)).2.1 74 i = ((b.2.2.2.2.2 1).getD i (0, 0)).2 := c2
      have hno2 : ∀ j, j < i → ¬ (((b.2.2.2.2.2 1).getD j (0, 0)).1 = w ∧ ((b.2.2.2.2.2 1).getD j (0, 0)).2 = s) := fun j hj z => hno j hj z.1
      refine E_iload dX9_look_75 rfl ?_
      refine E_aload_n dX9_look_77 rfl ?_
      refine E_getI dX9_look_78 fl_X9_209 rfl rfl ?_
      rw [f1]
      refine E_icmp_ge 141 dX9_look_81 (by decide) (fun c_81 => absurd c_81 (nI_ge hi (by omega))) (fun c_81 => ?_)
      refine E_aload_n dX9_look_84 rfl ?_
      refine E_getR dX9_look_85 fl_X9_52 rfl (by assumption) rfl ?_
      refine E_iload dX9_look_88 rfl ?_
      refine E_lald dX9_look_90 rfl (vp_in_nI (by omega) (by omega)) ?_
      rw [nI_clamp (by omega), c1]
      refine E_lload_n dX9_look_91 rfl ?_
      refine E_lcmp dX9_look_92 ?_
      refine E_if_ne 135 dX9_look_93 (by decide) (fun c_93 => ?_) (fun c_93 => ?_)
      · refine E_iinc dX9_look_135 rfl (by decide) ?_
        refine E_goto 75 dX9_look_138 (by decide) ?_
        rw [nI_inc]
        exact ih (i + 1) (by omega) (by omega) (fun j hj => by rcases Nat.lt_or_ge j i with z | z; exact hno j z; rw [show j = i by omega]; exact fun y => c_93 ((lg_cmp_eq _ _).mpr y))
      · refine E_aload_n dX9_look_96 rfl ?_
        refine E_getR dX9_look_97 fl_X9_24 rfl (by assumption) rfl ?_
        refine E_bi 10 dX9_look_100 (by decide) ?_
        refine E_dup2 rfl rfl dX9_look_102 ?_
        refine E_iald dX9_look_103 rfl (vp_in_nI (n := 10) (by decide) (by decide)) ?_
        rw [show h.1 64 (10 : Int32).toNatClampNeg = b.1 14 from g14]
        refine E_iload dX9_look_104 rfl ?_
        refine E_if_eq 113 dX9_look_106 (by decide) (fun c_106 => ?_) (fun c_106 => absurd rfl c_106)
        refine E_ic 1 dX9_look_113 (by decide) ?_
        refine E_iadd dX9_look_114 ?_
        refine E_iast dX9_look_115 rfl (vp_in_nI (n := 10) (by decide) (by decide)) ?_
        refine E_ic 1 dX9_look_116 (by decide) ?_
        refine E_istore dX9_look_117 (by decide) ?_
        refine E_aload_n dX9_look_119 rfl ?_
        refine E_getR dX9_look_120 fl_X9_55 rfl (by assumption) rfl ?_
        refine E_iload dX9_look_123 rfl ?_
        refine E_lald dX9_look_125 rfl (vp_in_nI (by omega) (by omega)) ?_
        rw [nI_clamp (by omega), show (sI h 64 (10 : Int32).toNatClampNeg (b.1 14 + 1)).2.1 74 i = _ from c2']
        refine E_lload dX9_look_126 rfl ?_
        refine E_lcmp dX9_look_128 ?_
        refine E_if_ne 135 dX9_look_129 (by decide) (fun c_129 => ?_) (fun c_129 => ?_)
        · refine E_iinc dX9_look_135 rfl (by decide) ?_
          refine E_goto 75 dX9_look_138 (by decide) ?_
          rw [nI_inc]
          exact lk_l2 hl ⟨i, hi, (lg_cmp_eq _ _).mp c_93⟩ (fun j h' z1 z2 => kF j h' z1 ⟨i, hi, (lg_cmp_eq _ _).mp c_93⟩ z2) (fun h' => kN h' ⟨i, hi, (lg_cmp_eq _ _).mp c_93⟩) _ (i + 1) _ (Nat.le_refl _) (by omega) M4 F4 (fun j hj => by rcases Nat.lt_or_ge j i with z | z; exact hno2 j z; rw [show j = i by omega]; exact fun y => c_129 ((lg_cmp_eq _ _).mpr y.2))
        · refine E_iload dX9_look_132 rfl ?_
          exact E_reti dX9_look_134 rfl rfl (Nat.le_of_ble_eq_true rfl) (Nat.le_of_ble_eq_true rfl) (kF i _ hi ⟨i, hi, (lg_cmp_eq _ _).mp c_93⟩ (find_yes hi hno2 ((lg_cmp_eq _ _).mp c_93) ((lg_cmp_eq _ _).mp c_129)) M4 F4)
theorem m_look {b : Ab} {h : Hp} (M : MRep b h) {e g p B K : Nat} {xs : List Nat} (he : e < 2) (hg : g < 8) (hx : (b.2.2.2.1 e g).getD [] = xs) (hp : b.1 13 = nI p) (hp2 : p ≤ 600) (hB : b.1 16 = nI B) (hB2 : B ≤ 64) (hK : b.1 30 = nI K) (hK2 : K ≤ 8) : Sp0 mX9_look [.ref 59, .int (nI (8 * e + g))] SH h (fun v h' => v = some (.int (lookR b xs p B K)) ∧ MRep (lookS b xs p B K) h' ∧ MF h h') := by
  have fm := M.fm he hg
  obtain ⟨q0, q1, q2, q3, q9, q10, q11, q13, q14, q22, q29, q33, q34, q36, q37, q40⟩ := id M.2.2.1
  have g13 : h.1 59 19 = b.1 13 := M.1 13 (by decide)
  have g16 : h.1 59 6 = b.1 16 := M.1 16 (by decide)
  have g30 : h.1 59 39 = b.1 30 := M.1 30 (by decide)
  rw [hp] at g13
  rw [hB] at g16
  rw [hK] at g30
  refine Sp0.of (by decide) (Nat.le_of_ble_eq_true rfl) ?_
  show E mX9_look none _ 0 [some (.ref 59), some (.int (nI (8 * e + g))), none, none, none, none, none, none] [] SH h 0 0
  have hl : xs.length ≤ 500 := by rw [← hx]; exact fm.2.1
  have fB : BSeg h 60 (500 * (8 * e + g)) xs := by rw [← hx]; exact fm.2.2
  by_cases h1 : p + B ≤ xs.length
  · have pl := part_len (xs := xs) (p := p) (n := B) h1
    have seg := (fB.drop p).take B
    have hW : lN (wk ((xs.drop p).take B).length (fun j => ((xs.drop p).take B).getD j 0)) = lkW xs p B := by rw [pl, lkW, wk_congr (fun i hi => getD_part hi)]
    refine E_aload_n dX9_look_0 rfl ?_
    refine E_getI dX9_look_1 fl_X9_197 rfl rfl ?_
    refine E_aload_n dX9_look_4 rfl ?_
    refine E_getI dX9_look_5 fl_X9_97 rfl rfl ?_
    rw [g13, g16]
    refine E_iadd dX9_look_8 ?_
    rw [nI_add]
    refine E_aload_n dX9_look_9 rfl ?_
    refine E_iload_n dX9_look_10 rfl ?_
    refine cV1 (N := mX9_sizeOf) dX9_look_11 cn_X9_sizeOf lk_X9_69 ⟨Nat.le_of_ble_eq_true rfl, Nat.le_of_ble_eq_true rfl⟩ rfl rfl (Nat.le_of_ble_eq_true rfl) ⟨rfl, rfl⟩ (m_sizeOf q1 (by omega) fm.1 fm.2.1) (fun v2 h2 ⟨hv2, hh2⟩ => ?_)
    rw [hv2, hh2, hx]
    refine E_icmp_le 20 dX9_look_14 (by decide) (fun c_14 => ?_) (fun c_14 => absurd (nI_le h1 (by omega)) c_14)
    refine E_aload_n dX9_look_20 rfl ?_
    refine E_getR dX9_look_21 fl_X9_7 rfl (by assumption) rfl ?_
    refine E_si 500 dX9_look_24 (by decide) ?_
    refine E_iload_n dX9_look_27 rfl ?_
    refine E_imul dX9_look_28 ?_
    refine E_aload_n dX9_look_29 rfl ?_
    refine E_getI dX9_look_30 fl_X9_197 rfl rfl ?_
    refine E_iadd dX9_look_33 ?_
    refine E_aload_n dX9_look_34 rfl ?_
    refine E_getI dX9_look_35 fl_X9_97 rfl rfl ?_
    rw [g13, g16, show (500 : Int32) = nI 500 by decide, pk_mul, nI_add, show nI B = nI ((xs.drop p).take B).length by rw [pl]]
    refine cS3 (N := mX9_weakOf) dX9_look_38 cn_X9_weakOf lk_X9_87 ⟨Nat.le_of_ble_eq_true rfl, Nat.le_of_ble_eq_true rfl⟩ (Nat.le_of_ble_eq_true rfl) ⟨rfl, rfl⟩ (m_weakOf (m := 8000) rfl (by decide) seg (by rw [pl]; omega) (by rw [pl]; omega)) (fun v3 h3 ⟨hv3, hh3⟩ => ?_)
    rw [hv3, hh3, hW]
    refine E_lstore_n dX9_look_41 (by decide) ?_
    refine E_aload_n dX9_look_42 rfl ?_
    refine E_getR dX9_look_43 fl_X9_7 rfl (by assumption) rfl ?_
    refine E_si 500 dX9_look_46 (by decide) ?_
    refine E_iload_n dX9_look_49 rfl ?_
    refine E_imul dX9_look_50 ?_
    refine E_aload_n dX9_look_51 rfl ?_
    refine E_getI dX9_look_52 fl_X9_197 rfl rfl ?_
    refine E_iadd dX9_look_55 ?_
    refine E_aload_n dX9_look_56 rfl ?_
    refine E_getI dX9_look_57 fl_X9_97 rfl rfl ?_
    refine E_aload_n dX9_look_60 rfl ?_
    refine E_getI dX9_look_61 fl_X9_206 rfl rfl ?_
    rw [g13, g16, g30, show (500 : Int32) = nI 500 by decide, pk_mul, nI_add, show nI B = nI ((xs.drop p).take B).length by rw [pl]]
    refine cS4 (N := mX9_strong) dX9_look_64 cn_X9_strong lk_X9_190 ⟨Nat.le_of_ble_eq_true rfl, Nat.le_of_ble_eq_true rfl⟩ (Nat.le_of_ble_eq_true rfl) ⟨rfl, rfl⟩ (m_strong (m := 8000) rfl (by decide) seg (by rw [pl]; omega) hK2) (fun v4 h4 ⟨hv4, hh4⟩ => ?_)
    rw [hv4, hh4]
    refine E_lstore dX9_look_67 (by decide) ?_
    refine E_ic 0 dX9_look_69 (by decide) ?_
    refine E_istore dX9_look_70 (by decide) ?_
    refine E_ic 0 dX9_look_72 (by decide) ?_
    refine E_istore dX9_look_73 (by decide) ?_
    refine lk_l1 M (fun i h' z1 z2 z3 M' F' => ?_) (fun h' z2 z3 M' F' => ?_) (fun h' z M' F' => ?_) _ 0 (Nat.le_refl _) (by omega) (fun j hj => absurd hj (by omega))
    · obtain ⟨j, y1, y2⟩ := z2
      have hM : lkM b xs p B = true := by rw [lkM, any_yes y1 y2]; simp [h1]
      have hF : lkF b xs p B K = nI i := z3
      have hl5 : (b.2.2.2.2.2 1).length ≤ 500 := M.2.2.2.2.2.2.2.2.2.2.2.2.1
      exact ⟨rfl, by rw [lookR, hM, if_pos rfl, hF], by rw [lookS, hM, if_pos rfl, hF, if_neg (nI_no2 (by omega))]; exact M', F'⟩
    · obtain ⟨j, y1, y2⟩ := z2
      have hM : lkM b xs p B = true := by rw [lkM, any_yes y1 y2]; simp [h1]
      have hF : lkF b xs p B K = -2 := z3
      exact ⟨rfl, by rw [lookR, hM, if_pos rfl, hF], by rw [lookS, hM, if_pos rfl, hF, if_pos rfl]; exact M', F'⟩
    · have hM : lkM b xs p B = false := by
        have := any_no z
        rw [lkM]
        simp only [Bool.and_eq_false_iff]
        exact Or.inr (Bool.eq_false_iff.mpr this)
      exact ⟨rfl, by rw [lookR, hM]; rfl, by rw [lookS, hM]; exact M', F'⟩
  · have hM : lkM b xs p B = false := by rw [lkM]; simp [h1]
    refine E_aload_n dX9_look_0 rfl ?_
    refine E_getI dX9_look_1 fl_X9_197 rfl rfl ?_
    refine E_aload_n dX9_look_4 rfl ?_
    refine E_getI dX9_look_5 fl_X9_97 rfl rfl ?_
    rw [g13, g16]
    refine E_iadd dX9_look_8 ?_
    rw [nI_add]
    refine E_aload_n dX9_look_9 rfl ?_
    refine E_iload_n dX9_look_10 rfl ?_
    refine cV1 (N := mX9_sizeOf) dX9_look_11 cn_X9_sizeOf lk_X9_69 ⟨Nat.le_of_ble_eq_true rfl, Nat.le_of_ble_eq_true rfl⟩ rfl rfl (Nat.le_of_ble_eq_true rfl) ⟨rfl, rfl⟩ (m_sizeOf q1 (by omega) fm.1 fm.2.1) (fun v2 h2 ⟨hv2, hh2⟩ => ?_)
    rw [hv2, hh2, hx]
    refine E_icmp_le 20 dX9_look_14 (by decide) (fun c_14 => absurd c_14 (nI_ge (by omega) (by omega))) (fun c_14 => ?_)
    refine E_bi (-2) dX9_look_17 (by decide) ?_
    exact E_reti dX9_look_19 rfl rfl (Nat.le_of_ble_eq_true rfl) (Nat.le_of_ble_eq_true rfl) ⟨rfl, by rw [lookR, hM]; rfl, by rw [lookS, hM]; exact M, MF.rf⟩

