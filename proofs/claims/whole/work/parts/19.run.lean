/-! RollingSync$Run -/
def xN (a : Ab) (k : Nat) : Nat := (a.1 k).toNatClampNeg
theorem xN_of {a : Ab} {k n : Nat} (h : a.1 k = nI n) (hn : n < 2 ^ 31) : xN a k = n := by rw [xN, h, nI_clamp hn]
def mkA (a : Ab) : Ab := if a.1 9 = 0 then sNodeA a (xN a 11) else if a.1 9 = 2 ∨ a.1 9 = 4 ∨ a.1 9 = 5 then sNextA a (xN a 13) ((a.2.2.1 4).getD 0 0) ((a.2.2.1 4).getD 1 0) else if a.1 9 = 6 then aI (aI a 9 7) 10 1 else if 0 < (a.2.2.1 0).length then rAsk a else rSums a (xN a 16) ((rPick a).1 20).toNatClampNeg
def MkPre (a : Ab) : Prop := (a.1 9 = 0 ∧ ∃ x, 1 ≤ x ∧ x < 16 ∧ a.1 11 = nI x) ∨ ((a.1 9 = 2 ∨ a.1 9 = 4 ∨ a.1 9 = 5) ∧ ∃ p B K, a.2.2.1 4 = [B, K] ∧ B ≤ 64 ∧ K ≤ 100 ∧ a.1 13 = nI p ∧ p ≤ 600) ∨ a.1 9 = 6 ∨ ((a.1 9 = -2 ∨ a.1 9 = 1 ∨ a.1 9 = 3 ∨ a.1 9 = 7) ∧ ∃ B K, a.1 16 = nI B ∧ 0 < B ∧ B ≤ 64 ∧ (rPick a).1 20 = nI K ∧ K ≤ 100)
theorem c_makeMessage {a : Ab} {h : Hp} (C : CRep a h) (P : MkPre a) : Sp0 mX4_makeMessage [.ref 42] SH h (fun v h' => v = none ∧ CRep (mkA a) h' ∧ CF h h') := by
  obtain ⟨r00, r01, r02, r03, r420, r421, r422, r423, r424, r425, r430, r431, r490, r491, r530, r531, r532, r533, r534⟩ := id C.2.2.1
  have e9 : h.1 43 2 = a.1 9 := C.1 9 (by decide)
  refine Sp0.of (by decide) (Nat.le_of_ble_eq_true rfl) ?_
  show E mX4_makeMessage none _ 0 [some (.ref 42)] [] SH h 0 0
  rcases P with ⟨k0, x, x1, x2, hx⟩ | ⟨k2, p, B, K, hBK, hB2, hK2, hp, hp2⟩ | k6 | ⟨kd, B, K, hB, hB0, hB2, hK, hK2⟩
  · refine E_aload_n dX4_makeMessage_0 rfl ?_
    refine E_getR dX4_makeMessage_1 fl_X4_12 rfl r425 rfl ?_
    refine E_getI dX4_makeMessage_4 fl_X4_150 rfl rfl ?_
    rw [e9, k0]
    refine E_tabIn 48 dX4_makeMessage_7 (by decide) (by decide) rfl (by decide) ?_
    refine E_aload_n dX4_makeMessage_48 rfl ?_
    refine E_getR dX4_makeMessage_49 fl_X4_41 rfl r423 rfl ?_
    refine E_aload_n dX4_makeMessage_52 rfl ?_
    refine E_getR dX4_makeMessage_53 fl_X4_12 rfl r425 rfl ?_
    refine cV1 (N := mX5_makeNode) dX4_makeMessage_56 cn_X5_makeNode lk_X4_153 ⟨Nat.le_of_ble_eq_true rfl, Nat.le_of_ble_eq_true rfl⟩ rfl rfl (Nat.le_of_ble_eq_true rfl) ⟨rfl, rfl⟩ (c_sNode C x1 x2 hx) (fun v2 h2 ⟨hv2, C2, F2⟩ => ?_)
    rw [hv2]
    refine E_goto 100 dX4_makeMessage_59 (by decide) ?_
    exact E_retv dX4_makeMessage_100 rfl (Nat.le_of_ble_eq_true rfl) (Nat.le_of_ble_eq_true rfl) ⟨rfl, rfl, by rw [mkA, if_pos k0, xN_of hx (by omega)]; exact C2, F2⟩
  · have key : mkA a = sNextA a p B K := by
      have n0 : ¬ a.1 9 = 0 := by rcases k2 with q | q | q <;> rw [q] <;> decide
      rw [mkA, if_neg n0, if_pos k2, hBK, xN_of hp (by omega)]; rfl
    rw [key]
    rcases k2 with k2 | k2 | k2
    · refine E_aload_n dX4_makeMessage_0 rfl ?_
      refine E_getR dX4_makeMessage_1 fl_X4_12 rfl r425 rfl ?_
      refine E_getI dX4_makeMessage_4 fl_X4_150 rfl rfl ?_
      rw [e9, k2]
      refine E_tabIn 62 dX4_makeMessage_7 (by decide) (by decide) rfl (by decide) ?_
      refine E_aload_n dX4_makeMessage_62 rfl ?_
      refine E_getR dX4_makeMessage_63 fl_X4_41 rfl r423 rfl ?_
      refine E_aload_n dX4_makeMessage_66 rfl ?_
      refine E_getR dX4_makeMessage_67 fl_X4_12 rfl r425 rfl ?_
      refine cV1 (N := mX5_makeNext) dX4_makeMessage_70 cn_X5_makeNext lk_X4_157 ⟨Nat.le_of_ble_eq_true rfl, Nat.le_of_ble_eq_true rfl⟩ rfl rfl (Nat.le_of_ble_eq_true rfl) ⟨rfl, rfl⟩ (c_sNext C hBK hB2 hK2 hp hp2) (fun v2 h2 ⟨hv2, C2, F2⟩ => ?_)
      rw [hv2]
      refine E_goto 100 dX4_makeMessage_73 (by decide) ?_
      exact E_retv dX4_makeMessage_100 rfl (Nat.le_of_ble_eq_true rfl) (Nat.le_of_ble_eq_true rfl) ⟨rfl, rfl, C2, F2⟩
    · refine E_aload_n dX4_makeMessage_0 rfl ?_
      refine E_getR dX4_makeMessage_1 fl_X4_12 rfl r425 rfl ?_
      refine E_getI dX4_makeMessage_4 fl_X4_150 rfl rfl ?_
      rw [e9, k2]
      refine E_tabIn 62 dX4_makeMessage_7 (by decide) (by decide) rfl (by decide) ?_
      refine E_aload_n dX4_makeMessage_62 rfl ?_
      refine E_getR dX4_makeMessage_63 fl_X4_41 rfl r423 rfl ?_
      refine E_aload_n dX4_makeMessage_66 rfl ?_
      refine E_getR dX4_makeMessage_67 fl_X4_12 rfl r425 rfl ?_
      refine cV1 (N := mX5_makeNext) dX4_makeMessage_70 cn_X5_makeNext lk_X4_157 ⟨Nat.le_of_ble_eq_true rfl, Nat.le_of_ble_eq_true rfl⟩ rfl rfl (Nat.le_of_ble_eq_true rfl) ⟨rfl, rfl⟩ (c_sNext C hBK hB2 hK2 hp hp2) (fun v2 h2 ⟨hv2, C2, F2⟩ => ?_)
      rw [hv2]
      refine E_goto 100 dX4_makeMessage_73 (by decide) ?_
      exact E_retv dX4_makeMessage_100 rfl (Nat.le_of_ble_eq_true rfl) (Nat.le_of_ble_eq_true rfl) ⟨rfl, rfl, C2, F2⟩
    · refine E_aload_n dX4_makeMessage_0 rfl ?_
      refine E_getR dX4_makeMessage_1 fl_X4_12 rfl r425 rfl ?_
      refine E_getI dX4_makeMessage_4 fl_X4_150 rfl rfl ?_
      rw [e9, k2]
      refine E_tabIn 62 dX4_makeMessage_7 (by decide) (by decide) rfl (by decide) ?_
      refine E_aload_n dX4_makeMessage_62 rfl ?_
      refine E_getR dX4_makeMessage_63 fl_X4_41 rfl r423 rfl ?_
      refine E_aload_n dX4_makeMessage_66 rfl ?_
      refine E_getR dX4_makeMessage_67 fl_X4_12 rfl r425 rfl ?_
      refine cV1 (N := mX5_makeNext) dX4_makeMessage_70 cn_X5_makeNext lk_X4_157 ⟨Nat.le_of_ble_eq_true rfl, Nat.le_of_ble_eq_true rfl⟩ rfl rfl (Nat.le_of_ble_eq_true rfl) ⟨rfl, rfl⟩ (c_sNext C hBK hB2 hK2 hp hp2) (fun v2 h2 ⟨hv2, C2, F2⟩ => ?_)
      rw [hv2]
      refine E_goto 100 dX4_makeMessage_73 (by decide) ?_
      exact E_retv dX4_makeMessage_100 rfl (Nat.le_of_ble_eq_true rfl) (Nat.le_of_ble_eq_true rfl) ⟨rfl, rfl, C2, F2⟩
  · have key : mkA a = aI (aI a 9 7) 10 1 := by
      rw [mkA, if_neg (by rw [k6]; decide), if_neg (by rw [k6]; decide), if_pos k6]
    rw [key]
    refine E_aload_n dX4_makeMessage_0 rfl ?_
    refine E_getR dX4_makeMessage_1 fl_X4_12 rfl r425 rfl ?_
    refine E_getI dX4_makeMessage_4 fl_X4_150 rfl rfl ?_
    rw [e9, k6]
    refine E_tabIn 76 dX4_makeMessage_7 (by decide) (by decide) rfl (by decide) ?_
    refine E_aload_n dX4_makeMessage_76 rfl ?_
    refine E_getR dX4_makeMessage_77 fl_X4_12 rfl r425 rfl ?_
    refine E_bi 7 dX4_makeMessage_80 (by decide) ?_
    refine E_ic 1 dX4_makeMessage_82 (by decide) ?_
    refine cV2 (N := mX1_become) dX4_makeMessage_83 cn_X1_become lk_X4_61 ⟨Nat.le_of_ble_eq_true rfl, Nat.le_of_ble_eq_true rfl⟩ rfl rfl (Nat.le_of_ble_eq_true rfl) ⟨rfl, rfl⟩ (c_become rfl _ _) (fun v2 h2 ⟨hv2, hh2⟩ => ?_)
    rw [hv2, hh2]
    refine E_goto 100 dX4_makeMessage_86 (by decide) ?_
    have C2 := C.setI 9 7 (by decide) (by decide)
    have C3 := C2.setI 10 1 (by decide) (by decide)
    exact E_retv dX4_makeMessage_100 rfl (Nat.le_of_ble_eq_true rfl) (Nat.le_of_ble_eq_true rfl) ⟨rfl, rfl, C3, CF_sI (CF_sI CF.rf (by decide)) (by decide)⟩
  · have key : mkA a = if 0 < (a.2.2.1 0).length then rAsk a else rSums a B K := by
      rw [mkA, if_neg (by rcases kd with q | q | q | q <;> rw [q] <;> decide), if_neg (by rcases kd with q | q | q | q <;> rw [q] <;> decide), if_neg (by rcases kd with q | q | q | q <;> rw [q] <;> decide), xN_of hB (by omega), hK, nI_clamp (by omega)]
    rw [key]
    have go : E mX4_makeMessage none (fun v sh' h' => sh' = SH ∧ v = none ∧ CRep (if 0 < (a.2.2.1 0).length then rAsk a else rSums a B K) h' ∧ CF h h') 89 [some (.ref 42)] [] SH h 0 0 := by
      by_cases hw : 0 < (a.2.2.1 0).length
      · rw [if_pos hw]
        refine E_aload_n dX4_makeMessage_89 rfl ?_
        refine E_getR dX4_makeMessage_90 fl_X4_48 rfl r424 rfl ?_
        refine E_aload_n dX4_makeMessage_93 rfl ?_
        refine E_getR dX4_makeMessage_94 fl_X4_12 rfl r425 rfl ?_
        refine cV1 (N := mX2_makeNext) dX4_makeMessage_97 cn_X2_makeNext lk_X4_160 ⟨Nat.le_of_ble_eq_true rfl, Nat.le_of_ble_eq_true rfl⟩ rfl rfl (Nat.le_of_ble_eq_true rfl) ⟨rfl, rfl⟩ (c_rAsk C hw) (fun v2 h2 ⟨hv2, C2, F2⟩ => ?_)
        rw [hv2]
        exact E_retv dX4_makeMessage_100 rfl (Nat.le_of_ble_eq_true rfl) (Nat.le_of_ble_eq_true rfl) ⟨rfl, rfl, C2, F2⟩
      · rw [if_neg hw]
        refine E_aload_n dX4_makeMessage_89 rfl ?_
        refine E_getR dX4_makeMessage_90 fl_X4_48 rfl r424 rfl ?_
        refine E_aload_n dX4_makeMessage_93 rfl ?_
        refine E_getR dX4_makeMessage_94 fl_X4_12 rfl r425 rfl ?_
        refine cV1 (N := mX2_makeNext) dX4_makeMessage_97 cn_X2_makeNext lk_X4_160 ⟨Nat.le_of_ble_eq_true rfl, Nat.le_of_ble_eq_true rfl⟩ rfl rfl (Nat.le_of_ble_eq_true rfl) ⟨rfl, rfl⟩ (c_rSums C (by omega) hB hB0 hB2 hK hK2) (fun v2 h2 ⟨hv2, C2, F2⟩ => ?_)
        rw [hv2]
        exact E_retv dX4_makeMessage_100 rfl (Nat.le_of_ble_eq_true rfl) (Nat.le_of_ble_eq_true rfl) ⟨rfl, rfl, C2, F2⟩
    rcases kd with kd | kd | kd | kd
    · refine E_aload_n dX4_makeMessage_0 rfl ?_
      refine E_getR dX4_makeMessage_1 fl_X4_12 rfl r425 rfl ?_
      refine E_getI dX4_makeMessage_4 fl_X4_150 rfl rfl ?_
      rw [e9, kd]
      refine E_tabOut 89 dX4_makeMessage_7 (by decide) (by decide) ?_
      exact go
    · refine E_aload_n dX4_makeMessage_0 rfl ?_
      refine E_getR dX4_makeMessage_1 fl_X4_12 rfl r425 rfl ?_
      refine E_getI dX4_makeMessage_4 fl_X4_150 rfl rfl ?_
      rw [e9, kd]
      refine E_tabIn 89 dX4_makeMessage_7 (by decide) (by decide) rfl (by decide) ?_
      exact go
    · refine E_aload_n dX4_makeMessage_0 rfl ?_
      refine E_getR dX4_makeMessage_1 fl_X4_12 rfl r425 rfl ?_
      refine E_getI dX4_makeMessage_4 fl_X4_150 rfl rfl ?_
      rw [e9, kd]
      refine E_tabIn 89 dX4_makeMessage_7 (by decide) (by decide) rfl (by decide) ?_
      exact go
    · refine E_aload_n dX4_makeMessage_0 rfl ?_
      refine E_getR dX4_makeMessage_1 fl_X4_12 rfl r425 rfl ?_
      refine E_getI dX4_makeMessage_4 fl_X4_150 rfl rfl ?_
      rw [e9, kd]
      refine E_tabOut 89 dX4_makeMessage_7 (by decide) (by decide) ?_
      exact go
/-- a MESSAGE is sent: who, how many bytes, whether it comes -/
def emEnd (a : Ab) : Int32 := if a.1 9 = 0 ∨ a.1 9 = 2 ∨ a.1 9 = 7 then 1 - a.1 1 else a.1 1
def emK (a : Ab) : Ab := if a.1 9 = 2 then aI (aI (aI a 5 (a.1 5 + 1)) 8 (a.1 9)) 7 (nI ((a.2.2.1 3).getD 1 0)) else aI (aI a 5 (a.1 5 + 1)) 8 (a.1 9)
def emA (a : Ab) : Ab := aI (aL (if emEnd a = 0 then aL (emK a) 1 (a.2.1 1 + (a.1 10).toInt64) else aL (emK a) 2 (a.2.1 2 + (a.1 10).toInt64)) 0 (ushr1 (a.2.1 0))) 2 (if a.2.1 0 &&& 1 = 0 then 0 else 1)
theorem emK_i (a : Ab) {k : Nat} (h1 : k ≠ 5) (h2 : k ≠ 7) (h3 : k ≠ 8) : (emK a).1 k = a.1 k := by
  unfold emK
  split <;> simp [aI, va_up, h1, h2, h3]
theorem emK_2 (a : Ab) : (emK a).2 = a.2 := by unfold emK; split <;> rfl
theorem c_emit {a : Ab} {h : Hp} (C : CRep a h) : Sp0 mX4_emit [.ref 42] SH h (fun v h' => v = none ∧ CRep (emA a) h' ∧ CF h h') := by
  obtain ⟨r00, r01, r02, r03, r420, r421, r422, r423, r424, r425, r430, r431, r490, r491, r530, r531, r532, r533, r534⟩ := id C.2.2.1
  have e5 : h.1 42 11 = a.1 5 := C.1 5 (by decide)
  have e9 : h.1 43 2 = a.1 9 := C.1 9 (by decide)
  have C1 : CRep (aI a 5 (a.1 5 + 1)) (sI h 42 11 (a.1 5 + 1)) := C.setI 5 (a.1 5 + 1) (by decide) (by decide)
  have F1 : CF h (sI h 42 11 (a.1 5 + 1)) := CF_sI CF.rf (by decide)
  have C2 : CRep (aI (aI a 5 (a.1 5 + 1)) 8 (a.1 9)) (sI (sI h 42 11 (a.1 5 + 1)) 42 14 (a.1 9)) := C1.setI 8 (a.1 9) (by decide) (by decide)
  have F2 : CF h (sI (sI h 42 11 (a.1 5 + 1)) 42 14 (a.1 9)) := CF_sI F1 (by decide)
  have tail : ∀ h3 : Hp, CRep (emK a) h3 → CF h h3 → E mX4_emit none (fun v sh' h' => sh' = SH ∧ v = none ∧ CRep (emA a) h' ∧ CF h h') 46 [some (.ref 42)] [] SH h3 0 0 := by
    intro h3 C3 F3
    obtain ⟨q00, q01, q02, q03, q420, q421, q422, q423, q424, q425, q430, q431, q490, q491, q530, q531, q532, q533, q534⟩ := id C3.2.2.1
    have g9 : h3.1 43 2 = a.1 9 := (C3.1 9 (by decide)).trans (emK_i a (by decide) (by decide) (by decide))
    have g1 : h3.1 42 7 = a.1 1 := (C3.1 1 (by decide)).trans (emK_i a (by decide) (by decide) (by decide))
    have g10 : h3.1 43 3 = a.1 10 := (C3.1 10 (by decide)).trans (emK_i a (by decide) (by decide) (by decide))
    have m0 : h3.2.1 41 0 = a.2.1 0 := (C3.2.1 0 (by decide)).trans (by rw [emK_2])
    have m1 : h3.2.1 41 1 = a.2.1 1 := (C3.2.1 1 (by decide)).trans (by rw [emK_2])
    have m2 : h3.2.1 41 2 = a.2.1 2 := (C3.2.1 2 (by decide)).trans (by rw [emK_2])
    have fin : ∀ h4 : Hp, CRep (aL (if emEnd a = 0 then aL (emK a) 1 (a.2.1 1 + (a.1 10).toInt64) else aL (emK a) 2 (a.2.1 2 + (a.1 10).toInt64)) 0 (ushr1 (a.2.1 0))) h4 → CF h h4 → E mX4_emit none (fun v sh' h' => sh' = SH ∧ v = none ∧ CRep (emA a) h' ∧ CF h h') 84 [some (.ref 42)] [.int (if a.2.1 0 &&& 1 = 0 then 1 else 0), .ref 42] SH h4 0 0 := by
      intro h4 C4 F4
      unfold emA
      by_cases hc : a.2.1 0 &&& 1 = 0
      · rw [if_pos hc, if_pos hc]
        refine E_if_ne 91 dX4_emit_84 (by decide) (fun c_84 => ?_) (fun c_84 => absurd c_84 (by decide))
        refine E_ic 0 dX4_emit_91 (by decide) ?_
        refine E_putZ dX4_emit_92 fl_X4_65 rfl rfl (Or.inl rfl) ?_
        have C5 := C4.setI 2 0 (by decide) (by decide)
        exact E_retv dX4_emit_95 rfl (Nat.le_of_ble_eq_true rfl) (Nat.le_of_ble_eq_true rfl) ⟨rfl, rfl, C5, CF_sI F4 (by decide)⟩
      · rw [if_neg hc, if_neg hc]
        refine E_if_ne 91 dX4_emit_84 (by decide) (fun c_84 => absurd rfl c_84) (fun c_84 => ?_)
        refine E_ic 1 dX4_emit_87 (by decide) ?_
        refine E_goto 92 dX4_emit_88 (by decide) ?_
        refine E_putZ dX4_emit_92 fl_X4_65 rfl rfl (Or.inr rfl) ?_
        have C5 := C4.setI 2 1 (by decide) (by decide)
        exact E_retv dX4_emit_95 rfl (Nat.le_of_ble_eq_true rfl) (Nat.le_of_ble_eq_true rfl) ⟨rfl, rfl, C5, CF_sI F4 (by decide)⟩
    have car : ∀ e : Int32, e = emEnd a → E mX4_emit none (fun v sh' h' => sh' = SH ∧ v = none ∧ CRep (emA a) h' ∧ CF h h') 74 [some (.ref 42)] [.int e, .ref 41, .ref 42] SH h3 0 0 := by
      intro e he
      subst he
      refine E_aload_n dX4_emit_74 rfl ?_
      refine E_getR dX4_emit_75 fl_X4_12 rfl q425 rfl ?_
      refine E_getI dX4_emit_78 fl_X4_169 rfl rfl ?_
      rw [g10]
      refine cV2 (N := mX0_carry) dX4_emit_81 cn_X0_carry lk_X4_172 ⟨Nat.le_of_ble_eq_true rfl, Nat.le_of_ble_eq_true rfl⟩ rfl rfl (Nat.le_of_ble_eq_true rfl) ⟨rfl, rfl⟩ (c_carry rfl _ _) (fun v5 h5 ⟨hv5, hh5⟩ => ?_)
      rw [hv5, hh5, m0, m1, m2]
      by_cases hz : emEnd a = 0
      · have D1 := C3.setL 1 (a.2.1 1 + (a.1 10).toInt64) (by decide)
        have D2 := D1.setL 0 (ushr1 (a.2.1 0)) (by decide)
        rw [if_pos hz]
        refine fin _ ?_ (CF_sL (CF_sL F3 (by decide)) (by decide))
        rw [if_pos hz]
        exact D2
      · have D1 := C3.setL 2 (a.2.1 2 + (a.1 10).toInt64) (by decide)
        have D2 := D1.setL 0 (ushr1 (a.2.1 0)) (by decide)
        rw [if_neg hz]
        refine fin _ ?_ (CF_sL (CF_sL F3 (by decide)) (by decide))
        rw [if_neg hz]
        exact D2
    by_cases hT : a.1 9 = 0 ∨ a.1 9 = 2 ∨ a.1 9 = 7
    · refine E_aload_n dX4_emit_46 rfl ?_
      refine E_aload_n dX4_emit_47 rfl ?_
      refine E_getR dX4_emit_48 fl_X4_32 rfl q422 rfl ?_
      refine E_aload_n dX4_emit_51 rfl ?_
      refine E_getR dX4_emit_52 fl_X4_12 rfl q425 rfl ?_
      refine cV0 (N := mX1_isByTarget) dX4_emit_55 cn_X1_isByTarget lk_X4_165 ⟨Nat.le_of_ble_eq_true rfl, Nat.le_of_ble_eq_true rfl⟩ rfl rfl (Nat.le_of_ble_eq_true rfl) ⟨rfl, rfl⟩ (c_isByTarget rfl) (fun v4 h4 ⟨hv4, hh4⟩ => ?_)
      rw [hv4, hh4, g9, if_pos hT]
      refine E_if_eq 70 dX4_emit_58 (by decide) (fun c_58 => absurd c_58 (by decide)) (fun c_58 => ?_)
      refine E_ic 1 dX4_emit_61 (by decide) ?_
      refine E_aload_n dX4_emit_62 rfl ?_
      refine E_getI dX4_emit_63 fl_X4_52 rfl rfl ?_
      rw [g1]
      refine E_isub dX4_emit_66 ?_
      refine E_goto 74 dX4_emit_67 (by decide) ?_
      exact car _ (by rw [emEnd, if_pos hT])
    · refine E_aload_n dX4_emit_46 rfl ?_
      refine E_aload_n dX4_emit_47 rfl ?_
      refine E_getR dX4_emit_48 fl_X4_32 rfl q422 rfl ?_
      refine E_aload_n dX4_emit_51 rfl ?_
      refine E_getR dX4_emit_52 fl_X4_12 rfl q425 rfl ?_
      refine cV0 (N := mX1_isByTarget) dX4_emit_55 cn_X1_isByTarget lk_X4_165 ⟨Nat.le_of_ble_eq_true rfl, Nat.le_of_ble_eq_true rfl⟩ rfl rfl (Nat.le_of_ble_eq_true rfl) ⟨rfl, rfl⟩ (c_isByTarget rfl) (fun v4 h4 ⟨hv4, hh4⟩ => ?_)
      rw [hv4, hh4, g9, if_neg hT]
      refine E_if_eq 70 dX4_emit_58 (by decide) (fun c_58 => ?_) (fun c_58 => absurd rfl c_58)
      refine E_aload_n dX4_emit_70 rfl ?_
      refine E_getI dX4_emit_71 fl_X4_52 rfl rfl ?_
      rw [g1]
      exact car _ (by rw [emEnd, if_neg hT])
  refine Sp0.of (by decide) (Nat.le_of_ble_eq_true rfl) ?_
  show E mX4_emit none _ 0 [some (.ref 42)] [] SH h 0 0
  obtain ⟨B0, K0, hBK, S0⟩ := C2.2.2.2.2.2.2.2.2.2.2.1
  have hBK' : a.2.2.1 3 = [B0, K0] := hBK
  have g9 : (sI (sI h 42 11 (a.1 5 + 1)) 42 14 (a.1 9)).1 43 2 = a.1 9 := C2.1 9 (by decide)
  have g9' : (sI h 42 11 (a.1 5 + 1)).1 43 2 = a.1 9 := C1.1 9 (by decide)
  refine E_aload_n dX4_emit_0 rfl ?_
  refine E_dup rfl dX4_emit_1 ?_
  refine E_getI dX4_emit_2 fl_X4_75 rfl rfl ?_
  rw [e5]
  refine E_ic 1 dX4_emit_5 (by decide) ?_
  refine E_iadd dX4_emit_6 ?_
  refine E_putI dX4_emit_7 fl_X4_75 rfl rfl ?_
  refine E_aload_n dX4_emit_10 rfl ?_
  refine E_aload_n dX4_emit_11 rfl ?_
  refine E_getR dX4_emit_12 fl_X4_12 rfl r425 rfl ?_
  refine E_getI dX4_emit_15 fl_X4_150 rfl rfl ?_
  rw [g9']
  refine E_putI dX4_emit_18 fl_X4_22 rfl rfl ?_
  refine E_aload_n dX4_emit_21 rfl ?_
  refine E_getR dX4_emit_22 fl_X4_12 rfl r425 rfl ?_
  refine E_getI dX4_emit_25 fl_X4_150 rfl rfl ?_
  refine E_ic 2 dX4_emit_28 (by decide) ?_
  rw [g9]
  refine E_icmp_ne 46 dX4_emit_29 (by decide) (fun c_29 => ?_) (fun c_29 => ?_)
  · exact tail _ (by rw [emK, if_neg c_29]; exact C2) F2
  · refine E_aload_n dX4_emit_32 rfl ?_
    refine E_aload_n dX4_emit_33 rfl ?_
    refine E_getR dX4_emit_34 fl_X4_12 rfl r425 rfl ?_
    refine E_getR dX4_emit_37 fl_X4_161 rfl r431 rfl ?_
    refine cV0 (N := mX7_k) dX4_emit_40 cn_X7_k lk_X4_162 ⟨Nat.le_of_ble_eq_true rfl, Nat.le_of_ble_eq_true rfl⟩ rfl rfl (Nat.le_of_ble_eq_true rfl) ⟨rfl, rfl⟩ (c_Sums_k rfl) (fun v3 h3 ⟨hv3, hh3⟩ => ?_)
    rw [hv3, hh3, S0.2.2.2.2.2.2.2.2.1]
    refine E_putI dX4_emit_43 fl_X4_81 rfl rfl ?_
    have C3 := C2.setI 7 (nI K0) (by decide) (by decide)
    exact tail _ (by rw [emK, if_pos c_29, hBK']; exact C3) (CF_sI F2 (by decide))

