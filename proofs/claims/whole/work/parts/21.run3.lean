/-! Run: oneStep, start, stop, tell .. -/
def finA (a : Ab) : Ab := if (a.1 9 = 1 ∨ a.1 9 = 3 ∨ a.1 9 = 7) ∧ ¬ (0 < (a.2.2.1 0).length ∨ ¬ ltd (a.2.2.2.2.1 0) = -2) then overA a else a
theorem finA_pos {a : Ab} (h : ends a) : finA a = overA a := if_pos h
theorem finA_neg {a : Ab} (h : ¬ ends a) : finA a = a := if_neg h
/-- the told losses come nearer by one -/
def shT (T : List Nat) : List Nat := (T.filter (fun t => decide (t ≠ 1))).map (fun t => t - 1)
def em5 (a : Ab) : Ab := aN (emA a) 5 (shT (a.2.2.1 5))
def oneB (a : Ab) : Ab := em5 (if a.1 2 = 0 then mkA (aI a 4 (a.1 4 + 1)) else aI a 4 (a.1 4 + 1))
theorem CRep.n5 {a : Ab} {h : Hp} (C : CRep a h) (X : List Nat) : CRep (aN a 5 X) h := C
def oneA (a : Ab) : Ab := if 0 < a.1 3 then aI (aI a 4 (a.1 4 + 1)) 3 (a.1 3 - 1) else if (oneB a).1 2 = 0 then finA (tkA (oneB a)) else aI (aI (oneB a) 6 ((oneB a).1 6 + 1)) 3 2
def OnePre (a : Ab) : Prop := ¬ 0 < a.1 3 → (a.1 2 = 0 → MkPre (aI a 4 (a.1 4 + 1))) ∧ ((oneB a).1 2 = 0 → TkPre (oneB a))
theorem c_oneStep {a : Ab} {h : Hp} (C : CRep a h) (P : OnePre a) : Sp0 mX4_oneStep [.ref 42] SH h (fun v h' => v = none ∧ CRep (oneA a) h' ∧ CF h h') := by
  have e2 : h.1 42 8 = a.1 2 := C.1 2 (by decide)
  have e3 : h.1 42 9 = a.1 3 := C.1 3 (by decide)
  have e4 : h.1 42 10 = a.1 4 := C.1 4 (by decide)
  have C1 : CRep (aI a 4 (a.1 4 + 1)) (sI h 42 10 (a.1 4 + 1)) := C.setI 4 (a.1 4 + 1) (by decide) (by decide)
  have F1 : CF h (sI h 42 10 (a.1 4 + 1)) := CF_sI CF.rf (by decide)
  have g3 : (sI h 42 10 (a.1 4 + 1)).1 42 9 = a.1 3 := C1.1 3 (by decide)
  have g2 : (sI h 42 10 (a.1 4 + 1)).1 42 8 = a.1 2 := C1.1 2 (by decide)
  refine Sp0.of (by decide) (Nat.le_of_ble_eq_true rfl) ?_
  show E mX4_oneStep none _ 0 [some (.ref 42)] [] SH h 0 0
  have tail : ¬ 0 < a.1 3 → ∀ h3 : Hp, CRep (if a.1 2 = 0 then mkA (aI a 4 (a.1 4 + 1)) else aI a 4 (a.1 4 + 1)) h3 → CF h h3 → E mX4_oneStep none (fun v sh' h' => sh' = SH ∧ v = none ∧ CRep (oneA a) h' ∧ CF h h') 39 [some (.ref 42)] [] SH h3 0 0 := by
    intro hs h3 C3 F3
    have P2 := (P hs).2
    refine E_aload_n dX4_oneStep_39 rfl ?_
    refine cV0 (N := mX4_emit) dX4_oneStep_40 cn_X4_emit lk_X4_90 ⟨Nat.le_of_ble_eq_true rfl, Nat.le_of_ble_eq_true rfl⟩ rfl rfl (Nat.le_of_ble_eq_true rfl) ⟨rfl, rfl⟩ (c_emit C3) (fun v4 h4 ⟨hv4, C4, F4⟩ => ?_)
    rw [hv4]
    have C4 : CRep (oneB a) h4 := C4.n5 _
    have k2 : h4.1 42 8 = (oneB a).1 2 := C4.1 2 (by decide)
    have k6 : h4.1 42 12 = (oneB a).1 6 := C4.1 6 (by decide)
    refine E_aload_n dX4_oneStep_43 rfl ?_
    refine E_getI dX4_oneStep_44 fl_X4_65 rfl rfl ?_
    rw [k2]
    refine E_if_eq 68 dX4_oneStep_47 (by decide) (fun c_47 => ?_) (fun c_47 => ?_)
    · refine E_aload_n dX4_oneStep_68 rfl ?_
      refine cV0 (N := mX4_takeMessage) dX4_oneStep_69 cn_X4_takeMessage lk_X4_93 ⟨Nat.le_of_ble_eq_true rfl, Nat.le_of_ble_eq_true rfl⟩ rfl rfl (Nat.le_of_ble_eq_true rfl) ⟨rfl, rfl⟩ (c_takeMessage C4 (P2 c_47)) (fun v5 h5 ⟨hv5, C5, F5⟩ => ?_)
      rw [hv5]
      refine E_aload_n dX4_oneStep_72 rfl ?_
      refine cV0 (N := mX4_finishIfNothingFollows) dX4_oneStep_73 cn_X4_finishIfNothingFollows lk_X4_96 ⟨Nat.le_of_ble_eq_true rfl, Nat.le_of_ble_eq_true rfl⟩ rfl rfl (Nat.le_of_ble_eq_true rfl) ⟨rfl, rfl⟩ (c_finish C5) (fun v6 h6 ⟨hv6, C6, F6⟩ => ?_)
      rw [hv6]
      exact E_retv dX4_oneStep_76 rfl (Nat.le_of_ble_eq_true rfl) (Nat.le_of_ble_eq_true rfl) ⟨rfl, rfl, by rw [oneA, if_neg hs, if_pos c_47]; rcases C6 with ⟨he, C6⟩ | ⟨he, C6⟩; rw [finA_pos he]; exact C6; rw [finA_neg he]; exact C6, ((F3.tr F4).tr F5).tr F6⟩
    · refine E_aload_n dX4_oneStep_50 rfl ?_
      refine E_dup rfl dX4_oneStep_51 ?_
      refine E_getI dX4_oneStep_52 fl_X4_78 rfl rfl ?_
      rw [k6]
      refine E_ic 1 dX4_oneStep_55 (by decide) ?_
      refine E_iadd dX4_oneStep_56 ?_
      refine E_putI dX4_oneStep_57 fl_X4_78 rfl rfl ?_
      have C5 := C4.setI 6 ((oneB a).1 6 + 1) (by decide) (by decide)
      refine E_aload_n dX4_oneStep_60 rfl ?_
      refine E_ic 2 dX4_oneStep_61 (by decide) ?_
      refine E_putI dX4_oneStep_62 fl_X4_69 rfl rfl ?_
      refine E_goto 76 dX4_oneStep_65 (by decide) ?_
      have C6 := C5.setI 3 2 (by decide) (by decide)
      exact E_retv dX4_oneStep_76 rfl (Nat.le_of_ble_eq_true rfl) (Nat.le_of_ble_eq_true rfl) ⟨rfl, rfl, by rw [oneA, if_neg hs, if_neg c_47]; exact C6, CF_sI (CF_sI (F3.tr F4) (by decide)) (by decide)⟩
  refine E_aload_n dX4_oneStep_0 rfl ?_
  refine E_dup rfl dX4_oneStep_1 ?_
  refine E_getI dX4_oneStep_2 fl_X4_72 rfl rfl ?_
  rw [e4]
  refine E_ic 1 dX4_oneStep_5 (by decide) ?_
  refine E_iadd dX4_oneStep_6 ?_
  refine E_putI dX4_oneStep_7 fl_X4_72 rfl rfl ?_
  refine E_aload_n dX4_oneStep_10 rfl ?_
  refine E_getI dX4_oneStep_11 fl_X4_69 rfl rfl ?_
  rw [g3]
  refine E_if_le 28 dX4_oneStep_14 (by decide) (fun c_14 => ?_) (fun c_14 => ?_)
  · have hs : ¬ 0 < a.1 3 := by rw [i_lt, i_0]; rw [i_le, i_0] at c_14; omega
    refine E_aload_n dX4_oneStep_28 rfl ?_
    refine E_getI dX4_oneStep_29 fl_X4_65 rfl rfl ?_
    rw [g2]
    refine E_if_ne 39 dX4_oneStep_32 (by decide) (fun c_32 => ?_) (fun c_32 => ?_)
    · exact tail hs _ (by rw [if_neg c_32]; exact C1) F1
    · refine E_aload_n dX4_oneStep_35 rfl ?_
      refine cV0 (N := mX4_makeMessage) dX4_oneStep_36 cn_X4_makeMessage lk_X4_87 ⟨Nat.le_of_ble_eq_true rfl, Nat.le_of_ble_eq_true rfl⟩ rfl rfl (Nat.le_of_ble_eq_true rfl) ⟨rfl, rfl⟩ (c_makeMessage C1 ((P hs).1 c_32)) (fun v3 h3 ⟨hv3, C3, F3⟩ => ?_)
      rw [hv3]
      exact tail hs h3 (by rw [if_pos c_32]; exact C3) (F1.tr F3)
  · refine E_aload_n dX4_oneStep_17 rfl ?_
    refine E_dup rfl dX4_oneStep_18 ?_
    refine E_getI dX4_oneStep_19 fl_X4_69 rfl rfl ?_
    rw [g3]
    refine E_ic 1 dX4_oneStep_22 (by decide) ?_
    refine E_isub dX4_oneStep_23 ?_
    refine E_putI dX4_oneStep_24 fl_X4_69 rfl rfl ?_
    have C2 := C1.setI 3 (a.1 3 - 1) (by decide) (by decide)
    have hs : 0 < a.1 3 := by rw [i_lt, i_0]; rw [i_le, i_0] at c_14; omega
    exact E_retv dX4_oneStep_27 rfl (Nat.le_of_ble_eq_true rfl) (Nat.le_of_ble_eq_true rfl) ⟨rfl, rfl, by rw [oneA, if_pos hs]; exact C2, CF_sI F1 (by decide)⟩
theorem c_goes {a : Ab} {h : Hp} (C : CRep a h) : Sp0 mX4_goes [.ref 42] SH h (fun v h' => v = some (.int (if a.1 0 = 1 then 1 else 0)) ∧ h' = h) := by
  have e0 : h.1 42 6 = a.1 0 := C.1 0 (by decide)
  refine Sp0.of (by decide) (Nat.le_of_ble_eq_true rfl) ?_
  show E mX4_goes none _ 0 [some (.ref 42)] [] SH h 0 0
  refine E_aload_n dX4_goes_0 rfl ?_
  refine E_getI dX4_goes_1 fl_X4_18 rfl rfl ?_
  refine E_ic 1 dX4_goes_4 (by decide) ?_
  rw [e0]
  refine E_icmp_ne 12 dX4_goes_5 (by decide) (fun c_5 => ?_) (fun c_5 => ?_)
  · refine E_ic 0 dX4_goes_12 (by decide) ?_
    exact E_reti dX4_goes_13 rfl rfl (Nat.le_of_ble_eq_true rfl) (Nat.le_of_ble_eq_true rfl) ⟨rfl, by rw [if_neg c_5], rfl⟩
  · refine E_ic 1 dX4_goes_8 (by decide) ?_
    refine E_goto 13 dX4_goes_9 (by decide) ?_
    exact E_reti dX4_goes_13 rfl rfl (Nat.le_of_ble_eq_true rfl) (Nat.le_of_ble_eq_true rfl) ⟨rfl, by rw [if_pos c_5], rfl⟩
def beginA (a : Ab) (src B K rule : Int32) : Ab := aI (aI (aI (aI (aI (aI (aI (aI (aI (rStartA (aI (aI (aI (aI a 0 1) 1 src) 14 0) 15 0) B K rule) 9 (-2)) 10 0) 2 0) 3 0) 4 0) 5 0) 6 0) 7 0) 8 (-2)
theorem CRep.setSrc {a : Ab} {h : Hp} (C : CRep a h) (src : Int32) : CRep (aI a 1 src) (sR (sR (sI h 42 7 src) 49 1 (some (if src = 0 then 1 else 21))) 53 4 (some (if src = 0 then 21 else 1))) := by
  obtain ⟨c1, c2, c3, c4, c5, c6, c7, c8, c9, c10, c11, c12⟩ := C
  have ne : ∀ b, b ≠ 42 → (sR (sR (sI h 42 7 src) 49 1 (some (if src = 0 then 1 else 21))) 53 4 (some (if src = 0 then 21 else 1))).1 b = h.1 b := fun b q1 => by
    funext j; simp [sR, sI, u2, q1]
  have nr : ∀ b, b ≠ 49 → b ≠ 53 → (sR (sR (sI h 42 7 src) 49 1 (some (if src = 0 then 1 else 21))) 53 4 (some (if src = 0 then 21 else 1))).2.2 b = h.2.2 b := fun b q1 q2 => by
    funext j; simp [sR, sI, u2, q1, q2]
  refine ⟨fun j hj => ?_, c2, ?_, ⟨by rw [ne 53 (by decide)]; exact c4.1, c4.2.1, by rw [ne 54 (by decide)]; exact c4.2.2⟩, ?_, ?_, ⟨c7.1.keep (ne _ (by decide)) (ne _ (by decide)) (nr _ (by decide) (by decide)), c7.2⟩, ⟨c8.1.keep (ne _ (by decide)) (ne _ (by decide)) (nr _ (by decide) (by decide)), c8.2⟩, ⟨c9.1.off (fun b q1 q2 => ne b (by omega)) (fun b q1 q2 => nr b (by omega) (by omega)), c9.2⟩, ⟨c10.1.off (fun b q1 q2 => ne b (by omega)) (fun b q1 q2 => nr b (by omega) (by omega)), c10.2⟩, ?_, ?_⟩
  · by_cases e : j = 1
    · subst e; simp [sR, sI, u2, aI, va_up, loc]
    · have q := loc_inj j hj 1 (by decide) e
      have q2 : ¬ ((loc j).1 = 42 ∧ (loc j).2 = 7) := fun z => q (Prod.ext z.1 z.2)
      have := c1 j hj
      simp [sR, sI, u2, aI, va_up, e, q2, this]
  · obtain ⟨r00, r01, r02, r03, r420, r421, r422, r423, r424, r425, r430, r431, r490, r491, r530, r531, r532, r533, r534⟩ := c3
    refine ⟨?_, ?_, ?_, ?_, ?_, ?_, ?_, ?_, ?_, ?_, ?_, ?_, ?_, ?_, ?_, ?_, ?_, ?_, ?_⟩ <;> simp [sR, u2, aI, va_up, sI, *]
  · intro f hf; rw [ne 55 (by decide)]; exact c5 f hf
  · intro f hf; rw [ne 56 (by decide)]; exact c6 f hf
  · obtain ⟨B, K, e, S⟩ := c11
    exact ⟨B, K, e, S.off (ne _ (by decide)) (fun b _ _ => rfl) (nr _ (by decide) (by decide))⟩
  · obtain ⟨B, K, e, S⟩ := c12
    exact ⟨B, K, e, S.off (ne _ (by decide)) (fun b _ _ => rfl) (nr _ (by decide) (by decide))⟩
theorem start_tail {b : Ab} {h h3 : Hp} {x1 x2 x3 x4 : Option Value} (C3 : CRep b h3) (F3 : CF h h3) : E mX4_start none (fun v sh' h' => sh' = SH ∧ v = none ∧ CRep (aI (aI (aI (aI (aI (aI (aI (aI (aI b 9 (-2)) 10 0) 2 0) 3 0) 4 0) 5 0) 6 0) 7 0) 8 (-2)) h' ∧ CF h h') 64 [some (.ref 42), x1, x2, x3, x4] [] SH h3 0 0 := by
  have r425 : h3.2.2 42 5 = some 43 := C3.2.2.1.2.2.2.2.2.2.2.2.2.1
  have C4 := C3.setI 9 (-2) (by decide) (by decide)
  have F4 := CF_sI (b := 43) (k := 2) (x := -2) F3 (by decide)
  have C5 := C4.setI 10 0 (by decide) (by decide)
  have F5 := CF_sI (b := 43) (k := 3) (x := 0) F4 (by decide)
  have C6 := C5.setI 2 0 (by decide) (by decide)
  have F6 := CF_sI (b := 42) (k := 8) (x := 0) F5 (by decide)
  have C7 := C6.setI 3 0 (by decide) (by decide)
  have F7 := CF_sI (b := 42) (k := 9) (x := 0) F6 (by decide)
  have C8 := C7.setI 4 0 (by decide) (by decide)
  have F8 := CF_sI (b := 42) (k := 10) (x := 0) F7 (by decide)
  have C9 := C8.setI 5 0 (by decide) (by decide)
  have F9 := CF_sI (b := 42) (k := 11) (x := 0) F8 (by decide)
  have C10 := C9.setI 6 0 (by decide) (by decide)
  have F10 := CF_sI (b := 42) (k := 12) (x := 0) F9 (by decide)
  have C11 := C10.setI 7 0 (by decide) (by decide)
  have F11 := CF_sI (b := 42) (k := 13) (x := 0) F10 (by decide)
  have C12 := C11.setI 8 (-2) (by decide) (by decide)
  have F12 := CF_sI (b := 42) (k := 14) (x := -2) F11 (by decide)
  refine E_aload_n dX4_start_64 rfl ?_
  refine E_getR dX4_start_65 fl_X4_12 rfl r425 rfl ?_
  refine E_bi (-2) dX4_start_68 (by decide) ?_
  refine E_ic 0 dX4_start_70 (by decide) ?_
  refine cV2 (N := mX1_become) dX4_start_71 cn_X1_become lk_X4_61 ⟨Nat.le_of_ble_eq_true rfl, Nat.le_of_ble_eq_true rfl⟩ rfl rfl (Nat.le_of_ble_eq_true rfl) ⟨rfl, rfl⟩ (c_become rfl _ _) (fun v4 h4 ⟨hv4, hh4⟩ => ?_)
  rw [hv4, hh4]
  refine E_aload_n dX4_start_74 rfl ?_
  refine E_ic 0 dX4_start_75 (by decide) ?_
  refine E_putZ dX4_start_76 fl_X4_65 rfl rfl (Or.inl rfl) ?_
  refine E_aload_n dX4_start_79 rfl ?_
  refine E_ic 0 dX4_start_80 (by decide) ?_
  refine E_putI dX4_start_81 fl_X4_69 rfl rfl ?_
  refine E_aload_n dX4_start_84 rfl ?_
  refine E_ic 0 dX4_start_85 (by decide) ?_
  refine E_putI dX4_start_86 fl_X4_72 rfl rfl ?_
  refine E_aload_n dX4_start_89 rfl ?_
  refine E_ic 0 dX4_start_90 (by decide) ?_
  refine E_putI dX4_start_91 fl_X4_75 rfl rfl ?_
  refine E_aload_n dX4_start_94 rfl ?_
  refine E_ic 0 dX4_start_95 (by decide) ?_
  refine E_putI dX4_start_96 fl_X4_78 rfl rfl ?_
  refine E_aload_n dX4_start_99 rfl ?_
  refine E_ic 0 dX4_start_100 (by decide) ?_
  refine E_putI dX4_start_101 fl_X4_81 rfl rfl ?_
  refine E_aload_n dX4_start_104 rfl ?_
  refine E_bi (-2) dX4_start_105 (by decide) ?_
  refine E_putI dX4_start_107 fl_X4_22 rfl rfl ?_
  refine E_retv dX4_start_110 rfl (Nat.le_of_ble_eq_true rfl) (Nat.le_of_ble_eq_true rfl) ?_
  exact ⟨rfl, rfl, C12, F12⟩
theorem c_runStart {a : Ab} {h : Hp} (C : CRep a h) (src B K rule : Int32) : Sp0 mX4_start [.ref 42, .int src, .int B, .int K, .int rule] SH h (fun v h' => v = none ∧ CRep (beginA a src B K rule) h' ∧ CF h h') := by
  obtain ⟨r00, r01, r02, r03, r420, r421, r422, r423, r424, r425, r430, r431, r490, r491, r530, r531, r532, r533, r534⟩ := id C.2.2.1
  have C1 : CRep (aI a 0 1) (sI h 42 6 1) := C.setI 0 1 (by decide) (by decide)
  have C2 := C1.setSrc src
  have C3 := C2.setI 14 0 (by decide) (by decide)
  have C4 := C3.setI 15 0 (by decide) (by decide)
  have F1 : CF h (sI h 42 6 1) := CF_sI CF.rf (by decide)
  have F2 : CF h (sI (sI h 42 6 1) 42 7 src) := CF_sI F1 (by decide)
  have gsrc : (sI (sI h 42 6 1) 42 7 src).1 42 7 = src := by simp [sI, u2]
  have F3 : ∀ x, CF h (sI (sI (sR (sI (sI h 42 6 1) 42 7 src) 49 1 x) 49 4 0) 49 5 0) := by
    intro x
    refine CF_sI (CF_sI ?_ (by decide)) (by decide)
    intro y q
    refine ⟨(F2 y q).1, (F2 y q).2.1, ?_⟩
    rw [← (F2 y q).2.2]
    funext j
    have : y ≠ 49 := by omega
    simp [sR, u2, this]
  refine Sp0.of (by decide) (Nat.le_of_ble_eq_true rfl) ?_
  show E mX4_start none _ 0 [some (.ref 42), some (.int src), some (.int B), some (.int K), some (.int rule)] [] SH h 0 0
  by_cases hs : src = 0
  · rw [if_pos hs, if_pos hs] at C4
    refine E_aload_n dX4_start_0 rfl ?_
    refine E_ic 1 dX4_start_1 (by decide) ?_
    refine E_putI dX4_start_2 fl_X4_18 rfl rfl ?_
    refine E_aload_n dX4_start_5 rfl ?_
    refine E_iload_n dX4_start_6 rfl ?_
    refine E_putI dX4_start_7 fl_X4_52 rfl rfl ?_
    refine E_aload_n dX4_start_10 rfl ?_
    refine E_getR dX4_start_11 fl_X4_41 rfl r423 rfl ?_
    refine E_aload_n dX4_start_14 rfl ?_
    refine E_getI dX4_start_15 fl_X4_52 rfl rfl ?_
    rw [gsrc]
    refine E_if_ne 28 dX4_start_18 (by decide) (fun c_18 => absurd hs c_18) (fun c_18 => ?_)
    refine E_aload_n dX4_start_21 rfl ?_
    refine E_getR dX4_start_22 fl_X4_25 rfl r420 rfl ?_
    refine E_goto 32 dX4_start_25 (by decide) ?_
    refine cV1 (N := mX5_start) dX4_start_32 cn_X5_start lk_X4_55 ⟨Nat.le_of_ble_eq_true rfl, Nat.le_of_ble_eq_true rfl⟩ rfl rfl (Nat.le_of_ble_eq_true rfl) ⟨rfl, rfl⟩ (c_sStart 1 (by decide)) (fun v2 h2 ⟨hv2, hh2⟩ => ?_)
    rw [hv2, hh2]
    refine E_aload_n dX4_start_35 rfl ?_
    refine E_getR dX4_start_36 fl_X4_48 rfl r424 rfl ?_
    refine E_aload_n dX4_start_39 rfl ?_
    refine E_getI dX4_start_40 fl_X4_52 rfl rfl ?_
    rw [show (sI (sI (sR (sI (sI h 42 6 1) 42 7 src) 49 1 (some 1)) 49 4 0) 49 5 0).1 42 7 = src by simp [sI, sR, u2]]
    refine E_if_ne 53 dX4_start_43 (by decide) (fun c_43 => absurd hs c_43) (fun c_43 => ?_)
    refine E_aload_n dX4_start_46 rfl ?_
    refine E_getR dX4_start_47 fl_X4_29 rfl r421 rfl ?_
    refine E_goto 57 dX4_start_50 (by decide) ?_
    refine E_iload_n dX4_start_57 rfl ?_
    refine E_iload_n dX4_start_58 rfl ?_
    refine E_iload dX4_start_59 rfl ?_
    refine cV4 (N := mX2_start) dX4_start_61 cn_X2_start lk_X4_58 ⟨Nat.le_of_ble_eq_true rfl, Nat.le_of_ble_eq_true rfl⟩ rfl rfl (Nat.le_of_ble_eq_true rfl) ⟨rfl, rfl⟩ (c_rStart 21 (by decide) C4 B K rule) (fun v3 h3 ⟨hv3, C5, F5⟩ => ?_)
    rw [hv3]
    exact start_tail C5 ((F3 _).tr F5)
  · rw [if_neg hs, if_neg hs] at C4
    refine E_aload_n dX4_start_0 rfl ?_
    refine E_ic 1 dX4_start_1 (by decide) ?_
    refine E_putI dX4_start_2 fl_X4_18 rfl rfl ?_
    refine E_aload_n dX4_start_5 rfl ?_
    refine E_iload_n dX4_start_6 rfl ?_
    refine E_putI dX4_start_7 fl_X4_52 rfl rfl ?_
    refine E_aload_n dX4_start_10 rfl ?_
    refine E_getR dX4_start_11 fl_X4_41 rfl r423 rfl ?_
    refine E_aload_n dX4_start_14 rfl ?_
    refine E_getI dX4_start_15 fl_X4_52 rfl rfl ?_
    rw [gsrc]
    refine E_if_ne 28 dX4_start_18 (by decide) (fun c_18 => ?_) (fun c_18 => absurd c_18 hs)
    refine E_aload_n dX4_start_28 rfl ?_
    refine E_getR dX4_start_29 fl_X4_29 rfl r421 rfl ?_
    refine cV1 (N := mX5_start) dX4_start_32 cn_X5_start lk_X4_55 ⟨Nat.le_of_ble_eq_true rfl, Nat.le_of_ble_eq_true rfl⟩ rfl rfl (Nat.le_of_ble_eq_true rfl) ⟨rfl, rfl⟩ (c_sStart 21 (by decide)) (fun v2 h2 ⟨hv2, hh2⟩ => ?_)
    rw [hv2, hh2]
    refine E_aload_n dX4_start_35 rfl ?_
    refine E_getR dX4_start_36 fl_X4_48 rfl r424 rfl ?_
    refine E_aload_n dX4_start_39 rfl ?_
    refine E_getI dX4_start_40 fl_X4_52 rfl rfl ?_
    rw [show (sI (sI (sR (sI (sI h 42 6 1) 42 7 src) 49 1 (some 21)) 49 4 0) 49 5 0).1 42 7 = src by simp [sI, sR, u2]]
    refine E_if_ne 53 dX4_start_43 (by decide) (fun c_43 => ?_) (fun c_43 => absurd c_43 hs)
    refine E_aload_n dX4_start_53 rfl ?_
    refine E_getR dX4_start_54 fl_X4_25 rfl r420 rfl ?_
    refine E_iload_n dX4_start_57 rfl ?_
    refine E_iload_n dX4_start_58 rfl ?_
    refine E_iload dX4_start_59 rfl ?_
    refine cV4 (N := mX2_start) dX4_start_61 cn_X2_start lk_X4_58 ⟨Nat.le_of_ble_eq_true rfl, Nat.le_of_ble_eq_true rfl⟩ rfl rfl (Nat.le_of_ble_eq_true rfl) ⟨rfl, rfl⟩ (c_rStart 1 (by decide) C4 B K rule) (fun v3 h3 ⟨hv3, C5, F5⟩ => ?_)
    rw [hv3]
    exact start_tail C5 ((F3 _).tr F5)
def stopA (a : Ab) : Ab := aN (aI a 0 3) 1 []
theorem c_stop {a : Ab} {h : Hp} (C : CRep a h) : Sp0 mX4_stop [.ref 42] SH h (fun v h' => v = some (.int (a.1 4)) ∧ CRep (stopA a) h' ∧ CF h h') := by
  obtain ⟨r00, r01, r02, r03, r420, r421, r422, r423, r424, r425, r430, r431, r490, r491, r530, r531, r532, r533, r534⟩ := id C.2.2.1
  have C1 : CRep (aI a 0 3) (sI h 42 6 3) := C.setI 0 3 (by decide) (by decide)
  have F1 : CF h (sI h 42 6 3) := CF_sI CF.rf (by decide)
  refine Sp0.of (by decide) (Nat.le_of_ble_eq_true rfl) ?_
  show E mX4_stop none _ 0 [some (.ref 42)] [] SH h 0 0
  refine E_aload_n dX4_stop_0 rfl ?_
  refine E_ic 3 dX4_stop_1 (by decide) ?_
  refine E_putI dX4_stop_2 fl_X4_18 rfl rfl ?_
  refine E_aload_n dX4_stop_5 rfl ?_
  refine E_getR dX4_stop_6 fl_X4_48 rfl r424 rfl ?_
  refine cV0 (N := mX2_forgetBuilt) dX4_stop_9 cn_X2_forgetBuilt lk_X4_84 ⟨Nat.le_of_ble_eq_true rfl, Nat.le_of_ble_eq_true rfl⟩ rfl rfl (Nat.le_of_ble_eq_true rfl) ⟨rfl, rfl⟩ (c_forgetBuilt C1) (fun v2 h2 ⟨hv2, C2, F2⟩ => ?_)
  rw [hv2]
  have k4 : h2.1 42 10 = a.1 4 := C2.1 4 (by decide)
  refine E_aload_n dX4_stop_12 rfl ?_
  refine E_getI dX4_stop_13 fl_X4_72 rfl rfl ?_
  rw [k4]
  exact E_reti dX4_stop_16 rfl rfl (Nat.le_of_ble_eq_true rfl) (Nat.le_of_ble_eq_true rfl) ⟨rfl, rfl, C2, F1.tr F2⟩
theorem c_builtByte {a : Ab} {h : Hp} (C : CRep a h) (i : Int32) : Sp0 mX4_builtByte [.ref 42, .int i] SH h (fun v h' => v = some (.int (gI (a.2.2.1 1) i)) ∧ h' = h) := by
  obtain ⟨r00, r01, r02, r03, r420, r421, r422, r423, r424, r425, r430, r431, r490, r491, r530, r531, r532, r533, r534⟩ := id C.2.2.1
  have c7 := C.2.2.2.2.2.2.1
  refine Sp0.of (by decide) (Nat.le_of_ble_eq_true rfl) ?_
  show E mX4_builtByte none _ 0 [some (.ref 42), some (.int i)] [] SH h 0 0
  refine E_aload_n dX4_builtByte_0 rfl ?_
  refine E_getR dX4_builtByte_1 fl_X4_48 rfl r424 rfl ?_
  refine E_getR dX4_builtByte_4 fl_X4_124 rfl r533 rfl ?_
  refine E_iload_n dX4_builtByte_7 rfl ?_
  refine cV1 (N := mX3_get) dX4_builtByte_8 cn_X3_get lk_X4_136 ⟨Nat.le_of_ble_eq_true rfl, Nat.le_of_ble_eq_true rfl⟩ rfl rfl (Nat.le_of_ble_eq_true rfl) ⟨rfl, rfl⟩ (c_Row_get c7.1 _) (fun v2 h2 ⟨hv2, hh2⟩ => ?_)
  rw [hv2, hh2]
  exact E_reti dX4_builtByte_11 rfl rfl (Nat.le_of_ble_eq_true rfl) (Nat.le_of_ble_eq_true rfl) ⟨rfl, rfl, rfl⟩
theorem c_runSum {a : Ab} {h : Hp} (C : CRep a h) (i w : Int32) : Sp0 mX4_sumOf [.ref 42, .int i, .int w] SH h (fun v h' => v = some (.long (sumA (a.2.2.2.2.2 1) i w)) ∧ h' = h) := by
  obtain ⟨r00, r01, r02, r03, r420, r421, r422, r423, r424, r425, r430, r431, r490, r491, r530, r531, r532, r533, r534⟩ := id C.2.2.1
  obtain ⟨B0, K0, -, S⟩ := C.2.2.2.2.2.2.2.2.2.2.2
  refine Sp0.of (by decide) (Nat.le_of_ble_eq_true rfl) ?_
  show E mX4_sumOf none _ 0 [some (.ref 42), some (.int i), some (.int w)] [] SH h 0 0
  refine E_aload_n dX4_sumOf_0 rfl ?_
  refine E_getR dX4_sumOf_1 fl_X4_41 rfl r423 rfl ?_
  refine E_getR dX4_sumOf_4 fl_X4_140 rfl r490 rfl ?_
  refine E_iload_n dX4_sumOf_7 rfl ?_
  refine E_iload_n dX4_sumOf_8 rfl ?_
  refine cV2 (N := mX7_sumOf) dX4_sumOf_9 cn_X7_sumOf lk_X4_144 ⟨Nat.le_of_ble_eq_true rfl, Nat.le_of_ble_eq_true rfl⟩ rfl rfl (Nat.le_of_ble_eq_true rfl) ⟨rfl, rfl⟩ (c_sumOf S _ _) (fun v2 h2 ⟨hv2, hh2⟩ => ?_)
  rw [hv2, hh2]
  exact E_retl dX4_sumOf_12 rfl (Nat.le_of_ble_eq_true rfl) (Nat.le_of_ble_eq_true rfl) ⟨rfl, rfl, rfl⟩
def tellN (a : Ab) (j : Nat) : Int32 := match j with
  | 0 => a.1 0 | 1 => a.1 4 | 2 => a.1 5 | 3 => a.1 6 | 4 => nI (tcount (a.2.2.2.2.1 0) 8) | 5 => a.1 22 | 6 => a.1 23 | 7 => a.1 24 | 8 => a.1 25 | 9 => a.1 26 | 10 => a.1 14 | 11 => a.1 15 | 12 => a.1 7 | 13 => nI (a.2.2.1 1).length | 14 => a.1 8 | _ => nI (a.2.2.1 0).length
def tellA (a : Ab) (w : Int32) : Int32 := if 0 ≤ w.toInt ∧ w.toInt ≤ 15 then tellN a w.toNatClampNeg else -1
theorem tell_in {w : Int32} (h : 0 ≤ w.toInt ∧ w.toInt ≤ 15) : ∃ j, j < 16 ∧ w = nI j := by
  obtain ⟨j, h1, h2⟩ := nI_of2 (x := w) (M := 15) (n := 15) (by decide) (by rw [i_lt, i_0]; omega) (by rw [i_le, show (15 : Int32).toInt = 15 by decide]; exact h.2)
  exact ⟨j, by omega, h2⟩
theorem c_tell {a : Ab} {h : Hp} (C : CRep a h) (w : Int32) : Sp0 mX4_tell [.ref 42, .int w] SH h (fun v h' => v = some (.int (tellA a w)) ∧ h' = h) := by
  obtain ⟨r00, r01, r02, r03, r420, r421, r422, r423, r424, r425, r430, r431, r490, r491, r530, r531, r532, r533, r534⟩ := id C.2.2.1
  have e0 : h.1 42 6 = a.1 0 := C.1 0 (by decide)
  have e4 : h.1 42 10 = a.1 4 := C.1 4 (by decide)
  have e5 : h.1 42 11 = a.1 5 := C.1 5 (by decide)
  have e6 : h.1 42 12 = a.1 6 := C.1 6 (by decide)
  have e7 : h.1 42 13 = a.1 7 := C.1 7 (by decide)
  have e8 : h.1 42 14 = a.1 8 := C.1 8 (by decide)
  have e14 : h.1 49 4 = a.1 14 := C.1 14 (by decide)
  have e15 : h.1 49 5 = a.1 15 := C.1 15 (by decide)
  have e22 : h.1 53 12 = a.1 22 := C.1 22 (by decide)
  have e23 : h.1 53 13 = a.1 23 := C.1 23 (by decide)
  have e24 : h.1 53 14 = a.1 24 := C.1 24 (by decide)
  have e25 : h.1 53 15 = a.1 25 := C.1 25 (by decide)
  have e26 : h.1 53 16 = a.1 26 := C.1 26 (by decide)
  have c4 := C.2.2.2.1
  have c7 := C.2.2.2.2.2.2.1
  refine Sp0.of (by decide) (Nat.le_of_ble_eq_true rfl) ?_
  show E mX4_tell none _ 0 [some (.ref 42), some (.int w)] [] SH h 0 0
  by_cases hw : 0 ≤ w.toInt ∧ w.toInt ≤ 15
  · rw [tellA, if_pos hw]
    obtain ⟨j, hj, rfl⟩ := tell_in hw
    match j, hj with
    | 0, _ =>
      refine E_iload_n dX4_tell_0 rfl ?_
      refine E_tabIn 80 dX4_tell_1 (by decide) (by decide) rfl (by decide) ?_
      refine E_aload_n dX4_tell_80 rfl ?_
      refine E_getI dX4_tell_81 fl_X4_18 rfl rfl ?_
      rw [e0]
      exact E_reti dX4_tell_84 rfl rfl (Nat.le_of_ble_eq_true rfl) (Nat.le_of_ble_eq_true rfl) ⟨rfl, rfl, rfl⟩
    | 1, _ =>
      refine E_iload_n dX4_tell_0 rfl ?_
      refine E_tabIn 85 dX4_tell_1 (by decide) (by decide) rfl (by decide) ?_
      refine E_aload_n dX4_tell_85 rfl ?_
      refine E_getI dX4_tell_86 fl_X4_72 rfl rfl ?_
      rw [e4]
      exact E_reti dX4_tell_89 rfl rfl (Nat.le_of_ble_eq_true rfl) (Nat.le_of_ble_eq_true rfl) ⟨rfl, rfl, rfl⟩
    | 2, _ =>
      refine E_iload_n dX4_tell_0 rfl ?_
      refine E_tabIn 90 dX4_tell_1 (by decide) (by decide) rfl (by decide) ?_
      refine E_aload_n dX4_tell_90 rfl ?_
      refine E_getI dX4_tell_91 fl_X4_75 rfl rfl ?_
      rw [e5]
      exact E_reti dX4_tell_94 rfl rfl (Nat.le_of_ble_eq_true rfl) (Nat.le_of_ble_eq_true rfl) ⟨rfl, rfl, rfl⟩
    | 3, _ =>
      refine E_iload_n dX4_tell_0 rfl ?_
      refine E_tabIn 95 dX4_tell_1 (by decide) (by decide) rfl (by decide) ?_
      refine E_aload_n dX4_tell_95 rfl ?_
      refine E_getI dX4_tell_96 fl_X4_78 rfl rfl ?_
      rw [e6]
      exact E_reti dX4_tell_99 rfl rfl (Nat.le_of_ble_eq_true rfl) (Nat.le_of_ble_eq_true rfl) ⟨rfl, rfl, rfl⟩
    | 4, _ =>
      refine E_iload_n dX4_tell_0 rfl ?_
      refine E_tabIn 100 dX4_tell_1 (by decide) (by decide) rfl (by decide) ?_
      refine E_aload_n dX4_tell_100 rfl ?_
      refine E_getR dX4_tell_101 fl_X4_48 rfl r424 rfl ?_
      refine cV0 (N := mX2_toDoCount) dX4_tell_104 cn_X2_toDoCount lk_X4_99 ⟨Nat.le_of_ble_eq_true rfl, Nat.le_of_ble_eq_true rfl⟩ rfl rfl (Nat.le_of_ble_eq_true rfl) ⟨rfl, rfl⟩ (c_toDoCount C) (fun v2 h2 ⟨hv2, hh2⟩ => ?_)
      rw [hv2, hh2]
      exact E_reti dX4_tell_107 rfl rfl (Nat.le_of_ble_eq_true rfl) (Nat.le_of_ble_eq_true rfl) ⟨rfl, rfl, rfl⟩
    | 5, _ =>
      refine E_iload_n dX4_tell_0 rfl ?_
      refine E_tabIn 108 dX4_tell_1 (by decide) (by decide) rfl (by decide) ?_
      refine E_aload_n dX4_tell_108 rfl ?_
      refine E_getR dX4_tell_109 fl_X4_48 rfl r424 rfl ?_
      refine E_getI dX4_tell_112 fl_X4_103 rfl rfl ?_
      rw [e22]
      exact E_reti dX4_tell_115 rfl rfl (Nat.le_of_ble_eq_true rfl) (Nat.le_of_ble_eq_true rfl) ⟨rfl, rfl, rfl⟩
    | 6, _ =>
      refine E_iload_n dX4_tell_0 rfl ?_
      refine E_tabIn 116 dX4_tell_1 (by decide) (by decide) rfl (by decide) ?_
      refine E_aload_n dX4_tell_116 rfl ?_
      refine E_getR dX4_tell_117 fl_X4_48 rfl r424 rfl ?_
      refine E_getI dX4_tell_120 fl_X4_106 rfl rfl ?_
      rw [e23]
      exact E_reti dX4_tell_123 rfl rfl (Nat.le_of_ble_eq_true rfl) (Nat.le_of_ble_eq_true rfl) ⟨rfl, rfl, rfl⟩
    | 7, _ =>
      refine E_iload_n dX4_tell_0 rfl ?_
      refine E_tabIn 124 dX4_tell_1 (by decide) (by decide) rfl (by decide) ?_
      refine E_aload_n dX4_tell_124 rfl ?_
      refine E_getR dX4_tell_125 fl_X4_48 rfl r424 rfl ?_
      refine E_getI dX4_tell_128 fl_X4_109 rfl rfl ?_
      rw [e24]
      exact E_reti dX4_tell_131 rfl rfl (Nat.le_of_ble_eq_true rfl) (Nat.le_of_ble_eq_true rfl) ⟨rfl, rfl, rfl⟩
    | 8, _ =>
      refine E_iload_n dX4_tell_0 rfl ?_
      refine E_tabIn 132 dX4_tell_1 (by decide) (by decide) rfl (by decide) ?_
      refine E_aload_n dX4_tell_132 rfl ?_
      refine E_getR dX4_tell_133 fl_X4_48 rfl r424 rfl ?_
      refine E_getI dX4_tell_136 fl_X4_112 rfl rfl ?_
      rw [e25]
      exact E_reti dX4_tell_139 rfl rfl (Nat.le_of_ble_eq_true rfl) (Nat.le_of_ble_eq_true rfl) ⟨rfl, rfl, rfl⟩
    | 9, _ =>
      refine E_iload_n dX4_tell_0 rfl ?_
      refine E_tabIn 140 dX4_tell_1 (by decide) (by decide) rfl (by decide) ?_
      refine E_aload_n dX4_tell_140 rfl ?_
      refine E_getR dX4_tell_141 fl_X4_48 rfl r424 rfl ?_
      refine E_getI dX4_tell_144 fl_X4_115 rfl rfl ?_
      rw [e26]
      exact E_reti dX4_tell_147 rfl rfl (Nat.le_of_ble_eq_true rfl) (Nat.le_of_ble_eq_true rfl) ⟨rfl, rfl, rfl⟩
    | 10, _ =>
      refine E_iload_n dX4_tell_0 rfl ?_
      refine E_tabIn 148 dX4_tell_1 (by decide) (by decide) rfl (by decide) ?_
      refine E_aload_n dX4_tell_148 rfl ?_
      refine E_getR dX4_tell_149 fl_X4_41 rfl r423 rfl ?_
      refine E_getI dX4_tell_152 fl_X4_118 rfl rfl ?_
      rw [e14]
      exact E_reti dX4_tell_155 rfl rfl (Nat.le_of_ble_eq_true rfl) (Nat.le_of_ble_eq_true rfl) ⟨rfl, rfl, rfl⟩
    | 11, _ =>
      refine E_iload_n dX4_tell_0 rfl ?_
      refine E_tabIn 156 dX4_tell_1 (by decide) (by decide) rfl (by decide) ?_
      refine E_aload_n dX4_tell_156 rfl ?_
      refine E_getR dX4_tell_157 fl_X4_41 rfl r423 rfl ?_
      refine E_getI dX4_tell_160 fl_X4_121 rfl rfl ?_
      rw [e15]
      exact E_reti dX4_tell_163 rfl rfl (Nat.le_of_ble_eq_true rfl) (Nat.le_of_ble_eq_true rfl) ⟨rfl, rfl, rfl⟩
    | 12, _ =>
      refine E_iload_n dX4_tell_0 rfl ?_
      refine E_tabIn 164 dX4_tell_1 (by decide) (by decide) rfl (by decide) ?_
      refine E_aload_n dX4_tell_164 rfl ?_
      refine E_getI dX4_tell_165 fl_X4_81 rfl rfl ?_
      rw [e7]
      exact E_reti dX4_tell_168 rfl rfl (Nat.le_of_ble_eq_true rfl) (Nat.le_of_ble_eq_true rfl) ⟨rfl, rfl, rfl⟩
    | 13, _ =>
      refine E_iload_n dX4_tell_0 rfl ?_
      refine E_tabIn 169 dX4_tell_1 (by decide) (by decide) rfl (by decide) ?_
      refine E_aload_n dX4_tell_169 rfl ?_
      refine E_getR dX4_tell_170 fl_X4_48 rfl r424 rfl ?_
      refine E_getR dX4_tell_173 fl_X4_124 rfl r533 rfl ?_
      refine cV0 (N := mX3_count) dX4_tell_176 cn_X3_count lk_X4_128 ⟨Nat.le_of_ble_eq_true rfl, Nat.le_of_ble_eq_true rfl⟩ rfl rfl (Nat.le_of_ble_eq_true rfl) ⟨rfl, rfl⟩ (c_Row_count rfl) (fun v2 h2 ⟨hv2, hh2⟩ => ?_)
      rw [hv2, hh2, c7.1.2.2.2.1]
      exact E_reti dX4_tell_179 rfl rfl (Nat.le_of_ble_eq_true rfl) (Nat.le_of_ble_eq_true rfl) ⟨rfl, rfl, rfl⟩
    | 14, _ =>
      refine E_iload_n dX4_tell_0 rfl ?_
      refine E_tabIn 180 dX4_tell_1 (by decide) (by decide) rfl (by decide) ?_
      refine E_aload_n dX4_tell_180 rfl ?_
      refine E_getI dX4_tell_181 fl_X4_22 rfl rfl ?_
      rw [e8]
      exact E_reti dX4_tell_184 rfl rfl (Nat.le_of_ble_eq_true rfl) (Nat.le_of_ble_eq_true rfl) ⟨rfl, rfl, rfl⟩
    | 15, _ =>
      refine E_iload_n dX4_tell_0 rfl ?_
      refine E_tabIn 185 dX4_tell_1 (by decide) (by decide) rfl (by decide) ?_
      refine E_aload_n dX4_tell_185 rfl ?_
      refine E_getR dX4_tell_186 fl_X4_48 rfl r424 rfl ?_
      refine E_getI dX4_tell_189 fl_X4_133 rfl rfl ?_
      rw [c4.1]
      exact E_reti dX4_tell_192 rfl rfl (Nat.le_of_ble_eq_true rfl) (Nat.le_of_ble_eq_true rfl) ⟨rfl, rfl, rfl⟩
    | j + 16, hj => omega
  · rw [tellA, if_neg hw]
    refine E_iload_n dX4_tell_0 rfl ?_
    refine E_tabOut 193 dX4_tell_1 (by omega) (by decide) ?_
    refine E_ic (-1) dX4_tell_193 (by decide) ?_
    exact E_reti dX4_tell_194 rfl rfl (Nat.le_of_ble_eq_true rfl) (Nat.le_of_ble_eq_true rfl) ⟨rfl, rfl, rfl⟩

