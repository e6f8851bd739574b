/-! the model: step -/
def stepM : Nat → Ab → Nat × Ab
  | 0, b => (0, b)
  | n + 1, b => if b.1 0 = 1 then ((stepM n (mOne b)).1 + 1, (stepM n (mOne b)).2) else (0, b)
def stRM (b : Ab) (n : Int32) : Int32 := if stOk n then (if b.1 0 = 1 then nI (stepM n.toNatClampNeg b).1 else -2) else -1
def stSM (b : Ab) (n : Int32) : Ab := if stOk n ∧ b.1 0 = 1 then (stepM n.toNatClampNeg b).2 else b
theorem mstep_loop {J : Ab → Prop} (h1 : ∀ b, J b → b.1 0 = 1 → MOnePre b) (h2 : ∀ b, J b → b.1 0 = 1 → J (mOne b)) {j : Nat} (hj : j ≤ 200) {h : Hp} {Q : QT} : ∀ (n i : Nat) (b : Ab) (h3 : Hp), n + i = j → MRep b h3 → J b → MF h h3 → (∀ h4, MRep (stepM n b).2 h4 → MF h h4 → Q (some (.int (nI (i + (stepM n b).1)))) SH h4) → E mX9_step none Q 27 [some (.ref 59), some (.int (nI j)), some (.int (nI i))] [] SH h3 0 0 := by
  intro n
  induction n with
  | zero =>
    intro i b h3 hn M hI F kk
    have e : i = j := by omega
    subst e
    refine E_iload_n dX9_step_27 rfl ?_
    refine E_iload_n dX9_step_28 rfl ?_
    refine E_icmp_ge 50 dX9_step_29 (by decide) (fun c_29 => ?_) (fun c_29 => absurd (nI_le (by omega) (by omega)) c_29)
    refine E_iload_n dX9_step_50 rfl ?_
    exact E_reti dX9_step_51 rfl rfl (Nat.le_of_ble_eq_true rfl) (Nat.le_of_ble_eq_true rfl) (kk h3 M F)
  | succ n ih =>
    intro i b h3 hn M hI F kk
    have g0 : h3.1 59 4 = b.1 0 := M.1 0 (by decide)
    by_cases hp : b.1 0 = 1
    · rw [stepM, if_pos hp] at kk
      refine E_iload_n dX9_step_27 rfl ?_
      refine E_iload_n dX9_step_28 rfl ?_
      refine E_icmp_ge 50 dX9_step_29 (by decide) (fun c_29 => absurd c_29 (nI_ge (by omega) (by omega))) (fun c_29 => ?_)
      refine E_aload_n dX9_step_32 rfl ?_
      refine E_getI dX9_step_33 fl_X9_94 rfl rfl ?_
      refine E_ic 1 dX9_step_36 (by decide) ?_
      rw [g0]
      refine E_icmp_ne 50 dX9_step_37 (by decide) (fun c_37 => absurd hp c_37) (fun c_37 => ?_)
      refine E_aload_n dX9_step_40 rfl ?_
      refine cV0 (N := mX9_steps) dX9_step_41 cn_X9_steps lk_X9_122 ⟨Nat.le_of_ble_eq_true rfl, Nat.le_of_ble_eq_true rfl⟩ rfl rfl (Nat.le_of_ble_eq_true rfl) ⟨rfl, rfl⟩ (m_steps M (h1 b hI hp)) (fun v5 h5 ⟨hv5, M5, F5⟩ => ?_)
      rw [hv5]
      refine E_iinc dX9_step_44 rfl (by decide) ?_
      refine E_goto 27 dX9_step_47 (by decide) ?_
      rw [nI_inc]
      refine ih (i + 1) (mOne b) h5 (by omega) M5 (h2 b hI hp) (F.tr F5) (fun h6 M6 F6 => ?_)
      have z := kk h6 M6 F6
      rw [show i + ((stepM n (mOne b)).1 + 1) = i + 1 + (stepM n (mOne b)).1 by omega] at z
      exact z
    · rw [stepM, if_neg hp] at kk
      refine E_iload_n dX9_step_27 rfl ?_
      refine E_iload_n dX9_step_28 rfl ?_
      refine E_icmp_ge 50 dX9_step_29 (by decide) (fun c_29 => absurd c_29 (nI_ge (by omega) (by omega))) (fun c_29 => ?_)
      refine E_aload_n dX9_step_32 rfl ?_
      refine E_getI dX9_step_33 fl_X9_94 rfl rfl ?_
      refine E_ic 1 dX9_step_36 (by decide) ?_
      rw [g0]
      refine E_icmp_ne 50 dX9_step_37 (by decide) (fun c_37 => ?_) (fun c_37 => absurd c_37 hp)
      refine E_iload_n dX9_step_50 rfl ?_
      exact E_reti dX9_step_51 rfl rfl (Nat.le_of_ble_eq_true rfl) (Nat.le_of_ble_eq_true rfl) (kk h3 M F)
theorem m_step {J : Ab → Prop} (h1 : ∀ b, J b → b.1 0 = 1 → MOnePre b) (h2 : ∀ b, J b → b.1 0 = 1 → J (mOne b)) {b : Ab} {h : Hp} (M : MRep b h) (hI : J b) (n : Int32) : Sp0 mX9_step [.ref 59, .int n] SH h (fun v h' => v = some (.int (stRM b n)) ∧ MRep (stSM b n) h' ∧ MF h h') := by
  have g0 : h.1 59 4 = b.1 0 := M.1 0 (by decide)
  have h1' : (1 : Int32).toInt = 1 := by decide
  have h200 : (200 : Int32).toInt = 200 := by decide
  have bad : ¬ stOk n → (some (Value.int (-1)) : Option Value) = some (.int (stRM b n)) ∧ MRep (stSM b n) h ∧ MF h h := fun hb => ⟨by rw [stRM, if_neg hb], by rw [stSM, if_neg (fun z => hb z.1)]; exact M, MF.rf⟩
  refine Sp0.of (by decide) (Nat.le_of_ble_eq_true rfl) ?_
  show E mX9_step none _ 0 [some (.ref 59), some (.int n), none] [] SH h 0 0
  refine E_iload_n dX9_step_0 rfl ?_
  refine E_ic 1 dX9_step_1 (by decide) ?_
  refine E_icmp_lt 12 dX9_step_2 (by decide) (fun c_2 => ?_) (fun c_2 => ?_)
  · refine E_ic (-1) dX9_step_12 (by decide) ?_
    exact E_reti dX9_step_13 rfl rfl (Nat.le_of_ble_eq_true rfl) (Nat.le_of_ble_eq_true rfl) ⟨rfl, bad (fun z => by rw [i_lt, h1'] at c_2; have := z.1; omega)⟩
  · refine E_iload_n dX9_step_5 rfl ?_
    refine E_si 200 dX9_step_6 (by decide) ?_
    refine E_icmp_le 14 dX9_step_9 (by decide) (fun c_9 => ?_) (fun c_9 => ?_)
    · have hok : stOk n := ⟨by rw [i_lt, h1'] at c_2; omega, by rw [i_le, h200] at c_9; exact c_9⟩
      refine E_aload_n dX9_step_14 rfl ?_
      refine E_getI dX9_step_15 fl_X9_94 rfl rfl ?_
      refine E_ic 1 dX9_step_18 (by decide) ?_
      rw [g0]
      refine E_icmp_eq 25 dX9_step_19 (by decide) (fun c_19 => ?_) (fun c_19 => ?_)
      · refine E_ic 0 dX9_step_25 (by decide) ?_
        refine E_istore_n dX9_step_26 (by decide) ?_
        obtain ⟨j, hj, rfl⟩ := nI_of (x := n) (by rw [i_lt, i_0]; have := hok.1; omega)
        have hj2 : j ≤ 200 := by have := hok.2; rw [nI_toInt hj] at this; omega
        refine mstep_loop h1 h2 hj2 j 0 b h (by omega) M hI MF.rf (fun h4 M4 F4 => ⟨rfl, ?_, ?_, F4⟩)
        · rw [stRM, if_pos hok, if_pos c_19, nI_clamp hj, Nat.zero_add]
        · rw [stSM, if_pos ⟨hok, c_19⟩, nI_clamp hj]; exact M4
      · refine E_bi (-2) dX9_step_22 (by decide) ?_
        exact E_reti dX9_step_24 rfl rfl (Nat.le_of_ble_eq_true rfl) (Nat.le_of_ble_eq_true rfl) ⟨rfl, by rw [stRM, if_pos hok, if_neg c_19], by rw [stSM, if_neg (fun z => c_19 z.2)]; exact M, MF.rf⟩
    · refine E_ic (-1) dX9_step_12 (by decide) ?_
      exact E_reti dX9_step_13 rfl rfl (Nat.le_of_ble_eq_true rfl) (Nat.le_of_ble_eq_true rfl) ⟨rfl, bad (fun z => by rw [i_le, h200] at c_9; have := z.2; omega)⟩

