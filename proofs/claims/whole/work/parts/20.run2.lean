/-! Run: a STEP -/
def tkA (a : Ab) : Ab := if a.1 9 = 1 then takeNodeA a (xN a 11) (a.2.1 3) else if a.1 9 = 2 then sTakeA a else if a.1 9 = 3 then takeGoneA a (xN a 19) else if a.1 9 = 4 then takeBytesA a else if a.1 9 = 5 then takeBlockA a (xN a 11) (xN a 16) (xN a 19) else if a.1 9 = 6 then takeEndA a (a.2.1 3) (xN a 19) else a
def TkPre (a : Ab) : Prop := (a.1 9 = 1 ∧ ∃ x, 1 ≤ x ∧ x < 16 ∧ a.1 11 = nI x ∧ (a.2.2.1 0).length + 2 ≤ 16) ∨ a.1 9 = 2 ∨ (a.1 9 = 3 ∧ ∃ f, f < 8 ∧ a.1 19 = nI f) ∨ a.1 9 = 4 ∨ (a.1 9 = 5 ∧ ∃ j B f, j ≤ 500 ∧ a.1 11 = nI j ∧ a.1 16 = nI B ∧ B ≤ 64 ∧ f < 8 ∧ a.1 19 = nI f) ∨ (a.1 9 = 6 ∧ ∃ f, f < 8 ∧ a.1 19 = nI f) ∨ a.1 9 = 0 ∨ a.1 9 = 7
theorem c_takeMessage {a : Ab} {h : Hp} (C : CRep a h) (P : TkPre a) : Sp0 mX4_takeMessage [.ref 42] SH h (fun v h' => v = none ∧ CRep (tkA a) h' ∧ CF h h') := by
  obtain ⟨r00, r01, r02, r03, r420, r421, r422, r423, r424, r425, r430, r431, r490, r491, r530, r531, r532, r533, r534⟩ := id C.2.2.1
  have e9 : h.1 43 2 = a.1 9 := C.1 9 (by decide)
  have e11 : h.1 43 4 = a.1 11 := C.1 11 (by decide)
  have l3 : h.2.1 43 5 = a.2.1 3 := C.2.1 3 (by decide)
  refine Sp0.of (by decide) (Nat.le_of_ble_eq_true rfl) ?_
  show E mX4_takeMessage none _ 0 [some (.ref 42)] [] SH h 0 0
  rcases P with ⟨kd, x, x1, x2, hx, hw⟩ | kd | ⟨kd, f, hf, hF⟩ | kd | ⟨kd, j, B, f, hj, hJ, hB, hB2, hf, hF⟩ | ⟨kd, f, hf, hF⟩ | kd | kd
  · refine E_aload_n dX4_takeMessage_0 rfl ?_
    refine E_getR dX4_takeMessage_1 fl_X4_12 rfl r425 rfl ?_
    refine E_getI dX4_takeMessage_4 fl_X4_150 rfl rfl ?_
    rw [e9, kd]
    refine E_tabIn 44 dX4_takeMessage_7 (by decide) (by decide) rfl (by decide) ?_
    refine E_aload_n dX4_takeMessage_44 rfl ?_
    refine E_getR dX4_takeMessage_45 fl_X4_48 rfl r424 rfl ?_
    refine E_aload_n dX4_takeMessage_48 rfl ?_
    refine E_getR dX4_takeMessage_49 fl_X4_12 rfl r425 rfl ?_
    refine E_getI dX4_takeMessage_52 fl_X4_178 rfl rfl ?_
    refine E_aload_n dX4_takeMessage_55 rfl ?_
    refine E_getR dX4_takeMessage_56 fl_X4_12 rfl r425 rfl ?_
    refine E_getL dX4_takeMessage_59 fl_X4_181 rfl rfl ?_
    rw [e11, l3, hx]
    refine cV2 (N := mX2_takeNode) dX4_takeMessage_62 cn_X2_takeNode lk_X4_185 ⟨Nat.le_of_ble_eq_true rfl, Nat.le_of_ble_eq_true rfl⟩ rfl rfl (Nat.le_of_ble_eq_true rfl) ⟨rfl, rfl⟩ (c_takeNode C _ x1 x2 hw) (fun v2 h2 ⟨hv2, C2, F2⟩ => ?_)
    rw [hv2]
    refine E_goto 153 dX4_takeMessage_65 (by decide) ?_
    exact E_retv dX4_takeMessage_153 rfl (Nat.le_of_ble_eq_true rfl) (Nat.le_of_ble_eq_true rfl) ⟨rfl, rfl, by rw [tkA, if_pos kd, xN_of hx (by omega)]; exact C2, F2⟩
  · refine E_aload_n dX4_takeMessage_0 rfl ?_
    refine E_getR dX4_takeMessage_1 fl_X4_12 rfl r425 rfl ?_
    refine E_getI dX4_takeMessage_4 fl_X4_150 rfl rfl ?_
    rw [e9, kd]
    refine E_tabIn 68 dX4_takeMessage_7 (by decide) (by decide) rfl (by decide) ?_
    refine E_aload_n dX4_takeMessage_68 rfl ?_
    refine E_getR dX4_takeMessage_69 fl_X4_41 rfl r423 rfl ?_
    refine E_aload_n dX4_takeMessage_72 rfl ?_
    refine E_getR dX4_takeMessage_73 fl_X4_12 rfl r425 rfl ?_
    refine E_getI dX4_takeMessage_76 fl_X4_178 rfl rfl ?_
    refine E_aload_n dX4_takeMessage_79 rfl ?_
    refine E_getR dX4_takeMessage_80 fl_X4_12 rfl r425 rfl ?_
    refine E_getR dX4_takeMessage_83 fl_X4_161 rfl r431 rfl ?_
    rw [e11]
    refine cV2 (N := mX5_takeSums) dX4_takeMessage_86 cn_X5_takeSums lk_X4_189 ⟨Nat.le_of_ble_eq_true rfl, Nat.le_of_ble_eq_true rfl⟩ rfl rfl (Nat.le_of_ble_eq_true rfl) ⟨rfl, rfl⟩ (c_sTake C) (fun v2 h2 ⟨hv2, C2, F2⟩ => ?_)
    rw [hv2]
    refine E_goto 153 dX4_takeMessage_89 (by decide) ?_
    exact E_retv dX4_takeMessage_153 rfl (Nat.le_of_ble_eq_true rfl) (Nat.le_of_ble_eq_true rfl) ⟨rfl, rfl, by rw [tkA, if_neg (by rw [kd]; decide), if_pos kd]; exact C2, F2⟩
  · refine E_aload_n dX4_takeMessage_0 rfl ?_
    refine E_getR dX4_takeMessage_1 fl_X4_12 rfl r425 rfl ?_
    refine E_getI dX4_takeMessage_4 fl_X4_150 rfl rfl ?_
    rw [e9, kd]
    refine E_tabIn 92 dX4_takeMessage_7 (by decide) (by decide) rfl (by decide) ?_
    refine E_aload_n dX4_takeMessage_92 rfl ?_
    refine E_getR dX4_takeMessage_93 fl_X4_48 rfl r424 rfl ?_
    refine cV0 (N := mX2_takeGone) dX4_takeMessage_96 cn_X2_takeGone lk_X4_193 ⟨Nat.le_of_ble_eq_true rfl, Nat.le_of_ble_eq_true rfl⟩ rfl rfl (Nat.le_of_ble_eq_true rfl) ⟨rfl, rfl⟩ (c_takeGone C hf hF) (fun v2 h2 ⟨hv2, C2, F2⟩ => ?_)
    rw [hv2]
    refine E_goto 153 dX4_takeMessage_99 (by decide) ?_
    exact E_retv dX4_takeMessage_153 rfl (Nat.le_of_ble_eq_true rfl) (Nat.le_of_ble_eq_true rfl) ⟨rfl, rfl, by rw [tkA, if_neg (by rw [kd]; decide), if_neg (by rw [kd]; decide), if_pos kd, xN_of hF (by omega)]; exact C2, F2⟩
  · refine E_aload_n dX4_takeMessage_0 rfl ?_
    refine E_getR dX4_takeMessage_1 fl_X4_12 rfl r425 rfl ?_
    refine E_getI dX4_takeMessage_4 fl_X4_150 rfl rfl ?_
    rw [e9, kd]
    refine E_tabIn 102 dX4_takeMessage_7 (by decide) (by decide) rfl (by decide) ?_
    refine E_aload_n dX4_takeMessage_102 rfl ?_
    refine E_getR dX4_takeMessage_103 fl_X4_48 rfl r424 rfl ?_
    refine E_aload_n dX4_takeMessage_106 rfl ?_
    refine E_getR dX4_takeMessage_107 fl_X4_12 rfl r425 rfl ?_
    refine E_getR dX4_takeMessage_110 fl_X4_196 rfl r430 rfl ?_
    refine cV1 (N := mX2_takeBytes) dX4_takeMessage_113 cn_X2_takeBytes lk_X4_199 ⟨Nat.le_of_ble_eq_true rfl, Nat.le_of_ble_eq_true rfl⟩ rfl rfl (Nat.le_of_ble_eq_true rfl) ⟨rfl, rfl⟩ (c_takeBytes C) (fun v2 h2 ⟨hv2, C2, F2⟩ => ?_)
    rw [hv2]
    refine E_goto 153 dX4_takeMessage_116 (by decide) ?_
    exact E_retv dX4_takeMessage_153 rfl (Nat.le_of_ble_eq_true rfl) (Nat.le_of_ble_eq_true rfl) ⟨rfl, rfl, by rw [tkA, if_neg (by rw [kd]; decide), if_neg (by rw [kd]; decide), if_neg (by rw [kd]; decide), if_pos kd]; exact C2, F2⟩
  · refine E_aload_n dX4_takeMessage_0 rfl ?_
    refine E_getR dX4_takeMessage_1 fl_X4_12 rfl r425 rfl ?_
    refine E_getI dX4_takeMessage_4 fl_X4_150 rfl rfl ?_
    rw [e9, kd]
    refine E_tabIn 119 dX4_takeMessage_7 (by decide) (by decide) rfl (by decide) ?_
    refine E_aload_n dX4_takeMessage_119 rfl ?_
    refine E_getR dX4_takeMessage_120 fl_X4_48 rfl r424 rfl ?_
    refine E_aload_n dX4_takeMessage_123 rfl ?_
    refine E_getR dX4_takeMessage_124 fl_X4_12 rfl r425 rfl ?_
    refine E_getI dX4_takeMessage_127 fl_X4_178 rfl rfl ?_
    rw [e11, hJ]
    refine cV1 (N := mX2_takeBlock) dX4_takeMessage_130 cn_X2_takeBlock lk_X4_203 ⟨Nat.le_of_ble_eq_true rfl, Nat.le_of_ble_eq_true rfl⟩ rfl rfl (Nat.le_of_ble_eq_true rfl) ⟨rfl, rfl⟩ (c_takeBlock C hj hB hB2 hf hF) (fun v2 h2 ⟨hv2, C2, F2⟩ => ?_)
    rw [hv2]
    refine E_goto 153 dX4_takeMessage_133 (by decide) ?_
    exact E_retv dX4_takeMessage_153 rfl (Nat.le_of_ble_eq_true rfl) (Nat.le_of_ble_eq_true rfl) ⟨rfl, rfl, by rw [tkA, if_neg (by rw [kd]; decide), if_neg (by rw [kd]; decide), if_neg (by rw [kd]; decide), if_neg (by rw [kd]; decide), if_pos kd, xN_of hF (by omega), xN_of hB (by omega), xN_of hJ (by omega)]; exact C2, F2⟩
  · refine E_aload_n dX4_takeMessage_0 rfl ?_
    refine E_getR dX4_takeMessage_1 fl_X4_12 rfl r425 rfl ?_
    refine E_getI dX4_takeMessage_4 fl_X4_150 rfl rfl ?_
    rw [e9, kd]
    refine E_tabIn 136 dX4_takeMessage_7 (by decide) (by decide) rfl (by decide) ?_
    refine E_aload_n dX4_takeMessage_136 rfl ?_
    refine E_getR dX4_takeMessage_137 fl_X4_48 rfl r424 rfl ?_
    refine E_aload_n dX4_takeMessage_140 rfl ?_
    refine E_getR dX4_takeMessage_141 fl_X4_12 rfl r425 rfl ?_
    refine E_getL dX4_takeMessage_144 fl_X4_181 rfl rfl ?_
    rw [l3]
    refine cV1 (N := mX2_takeEnd) dX4_takeMessage_147 cn_X2_takeEnd lk_X4_207 ⟨Nat.le_of_ble_eq_true rfl, Nat.le_of_ble_eq_true rfl⟩ rfl rfl (Nat.le_of_ble_eq_true rfl) ⟨rfl, rfl⟩ (c_takeEnd C _ hf hF) (fun v2 h2 ⟨hv2, C2, F2⟩ => ?_)
    rw [hv2]
    refine E_goto 153 dX4_takeMessage_150 (by decide) ?_
    exact E_retv dX4_takeMessage_153 rfl (Nat.le_of_ble_eq_true rfl) (Nat.le_of_ble_eq_true rfl) ⟨rfl, rfl, by rw [tkA, if_neg (by rw [kd]; decide), if_neg (by rw [kd]; decide), if_neg (by rw [kd]; decide), if_neg (by rw [kd]; decide), if_neg (by rw [kd]; decide), if_pos kd, xN_of hF (by omega)]; exact C2, F2⟩
  · refine E_aload_n dX4_takeMessage_0 rfl ?_
    refine E_getR dX4_takeMessage_1 fl_X4_12 rfl r425 rfl ?_
    refine E_getI dX4_takeMessage_4 fl_X4_150 rfl rfl ?_
    rw [e9, kd]
    refine E_tabOut 153 dX4_takeMessage_7 (by decide) (by decide) ?_
    exact E_retv dX4_takeMessage_153 rfl (Nat.le_of_ble_eq_true rfl) (Nat.le_of_ble_eq_true rfl) ⟨rfl, rfl, by rw [tkA, if_neg (by rw [kd]; decide), if_neg (by rw [kd]; decide), if_neg (by rw [kd]; decide), if_neg (by rw [kd]; decide), if_neg (by rw [kd]; decide), if_neg (by rw [kd]; decide)]; exact C, CF.rf⟩
  · refine E_aload_n dX4_takeMessage_0 rfl ?_
    refine E_getR dX4_takeMessage_1 fl_X4_12 rfl r425 rfl ?_
    refine E_getI dX4_takeMessage_4 fl_X4_150 rfl rfl ?_
    rw [e9, kd]
    refine E_tabOut 153 dX4_takeMessage_7 (by decide) (by decide) ?_
    exact E_retv dX4_takeMessage_153 rfl (Nat.le_of_ble_eq_true rfl) (Nat.le_of_ble_eq_true rfl) ⟨rfl, rfl, by rw [tkA, if_neg (by rw [kd]; decide), if_neg (by rw [kd]; decide), if_neg (by rw [kd]; decide), if_neg (by rw [kd]; decide), if_neg (by rw [kd]; decide), if_neg (by rw [kd]; decide)]; exact C, CF.rf⟩
def overA (a : Ab) : Ab := aN (aF (aI a 0 2) (tg a) (dropF (a.2.2.2.2.1 1) (tF a) 8)) 1 []
def ends (a : Ab) : Prop := (a.1 9 = 1 ∨ a.1 9 = 3 ∨ a.1 9 = 7) ∧ ¬ wants a
theorem fin_tail {a : Ab} {h : Hp} (C : CRep a h) (he : ends a) : E mX4_finishIfNothingFollows none (fun v sh' h' => sh' = SH ∧ v = none ∧ ((ends a ∧ CRep (overA a) h') ∨ (¬ ends a ∧ CRep a h')) ∧ CF h h') 51 [some (.ref 42), some (.int 1)] [.int 0] SH h 0 0 := by
  obtain ⟨r00, r01, r02, r03, r420, r421, r422, r423, r424, r425, r430, r431, r490, r491, r530, r531, r532, r533, r534⟩ := id C.2.2.1
  have C1 : CRep (aI a 0 2) (sI h 42 6 2) := C.setI 0 2 (by decide) (by decide)
  have F1 : CF h (sI h 42 6 2) := CF_sI CF.rf (by decide)
  refine E_if_ne 73 dX4_finishIfNothingFollows_51 (by decide) (fun c_51 => absurd rfl c_51) (fun c_51 => ?_)
  refine E_aload_n dX4_finishIfNothingFollows_54 rfl ?_
  refine E_ic 2 dX4_finishIfNothingFollows_55 (by decide) ?_
  refine E_putI dX4_finishIfNothingFollows_56 fl_X4_18 rfl rfl ?_
  refine E_aload_n dX4_finishIfNothingFollows_59 rfl ?_
  refine E_getR dX4_finishIfNothingFollows_60 fl_X4_48 rfl r424 rfl ?_
  refine cV0 (N := mX2_dropTold) dX4_finishIfNothingFollows_63 cn_X2_dropTold lk_X4_214 ⟨Nat.le_of_ble_eq_true rfl, Nat.le_of_ble_eq_true rfl⟩ rfl rfl (Nat.le_of_ble_eq_true rfl) ⟨rfl, rfl⟩ (c_dropTold C1) (fun v2 h2 ⟨hv2, C2, F2⟩ => ?_)
  rw [hv2]
  have q424 : h2.2.2 42 4 = some 53 := C2.2.2.1.2.2.2.2.2.2.2.2.1
  refine E_aload_n dX4_finishIfNothingFollows_66 rfl ?_
  refine E_getR dX4_finishIfNothingFollows_67 fl_X4_48 rfl q424 rfl ?_
  refine cV0 (N := mX2_forgetBuilt) dX4_finishIfNothingFollows_70 cn_X2_forgetBuilt lk_X4_84 ⟨Nat.le_of_ble_eq_true rfl, Nat.le_of_ble_eq_true rfl⟩ rfl rfl (Nat.le_of_ble_eq_true rfl) ⟨rfl, rfl⟩ (c_forgetBuilt C2) (fun v3 h3 ⟨hv3, C3, F3⟩ => ?_)
  rw [hv3]
  exact E_retv dX4_finishIfNothingFollows_73 rfl (Nat.le_of_ble_eq_true rfl) (Nat.le_of_ble_eq_true rfl) ⟨rfl, rfl, Or.inl ⟨he, C3⟩, (F1.tr F2).tr F3⟩
theorem c_finish {a : Ab} {h : Hp} (C : CRep a h) : Sp0 mX4_finishIfNothingFollows [.ref 42] SH h (fun v h' => v = none ∧ ((ends a ∧ CRep (overA a) h') ∨ (¬ ends a ∧ CRep a h')) ∧ CF h h') := by
  obtain ⟨r00, r01, r02, r03, r420, r421, r422, r423, r424, r425, r430, r431, r490, r491, r530, r531, r532, r533, r534⟩ := id C.2.2.1
  have e9 : h.1 43 2 = a.1 9 := C.1 9 (by decide)
  have go : a.1 9 = 1 ∨ a.1 9 = 3 ∨ a.1 9 = 7 → E mX4_finishIfNothingFollows none (fun v sh' h' => sh' = SH ∧ v = none ∧ ((ends a ∧ CRep (overA a) h') ∨ (¬ ends a ∧ CRep a h')) ∧ CF h h') 34 [some (.ref 42), none] [] SH h 0 0 := by
    intro hk
    refine E_ic 1 dX4_finishIfNothingFollows_34 (by decide) ?_
    refine E_goto 39 dX4_finishIfNothingFollows_35 (by decide) ?_
    refine E_istore_n dX4_finishIfNothingFollows_39 (by decide) ?_
    refine E_iload_n dX4_finishIfNothingFollows_40 rfl ?_
    refine E_if_eq 73 dX4_finishIfNothingFollows_41 (by decide) (fun c_41 => absurd c_41 (by decide)) (fun c_41 => ?_)
    refine E_aload_n dX4_finishIfNothingFollows_44 rfl ?_
    refine E_getR dX4_finishIfNothingFollows_45 fl_X4_48 rfl r424 rfl ?_
    refine cV0 (N := mX2_wantsMore) dX4_finishIfNothingFollows_48 cn_X2_wantsMore lk_X4_211 ⟨Nat.le_of_ble_eq_true rfl, Nat.le_of_ble_eq_true rfl⟩ rfl rfl (Nat.le_of_ble_eq_true rfl) ⟨rfl, rfl⟩ (c_wantsMore C) (fun v2 h2 ⟨hv2, hh2⟩ => ?_)
    rw [hh2]
    rcases hv2 with ⟨hv2, hw⟩ | ⟨hv2, hw⟩
    · rw [hv2]
      refine E_if_ne 73 dX4_finishIfNothingFollows_51 (by decide) (fun c_51 => ?_) (fun c_51 => absurd c_51 (by decide))
      exact E_retv dX4_finishIfNothingFollows_73 rfl (Nat.le_of_ble_eq_true rfl) (Nat.le_of_ble_eq_true rfl) ⟨rfl, rfl, Or.inr ⟨fun q => q.2 hw, C⟩, CF.rf⟩
    · rw [hv2]
      exact fin_tail C ⟨hk, hw⟩
  refine Sp0.of (by decide) (Nat.le_of_ble_eq_true rfl) ?_
  show E mX4_finishIfNothingFollows none _ 0 [some (.ref 42), none] [] SH h 0 0
  refine E_aload_n dX4_finishIfNothingFollows_0 rfl ?_
  refine E_getR dX4_finishIfNothingFollows_1 fl_X4_12 rfl r425 rfl ?_
  refine E_getI dX4_finishIfNothingFollows_4 fl_X4_150 rfl rfl ?_
  refine E_ic 1 dX4_finishIfNothingFollows_7 (by decide) ?_
  rw [e9]
  refine E_icmp_eq 34 dX4_finishIfNothingFollows_8 (by decide) (fun c_8 => ?_) (fun c_8 => ?_)
  · exact go (Or.inl c_8)
  · refine E_aload_n dX4_finishIfNothingFollows_11 rfl ?_
    refine E_getR dX4_finishIfNothingFollows_12 fl_X4_12 rfl r425 rfl ?_
    refine E_getI dX4_finishIfNothingFollows_15 fl_X4_150 rfl rfl ?_
    refine E_ic 3 dX4_finishIfNothingFollows_18 (by decide) ?_
    rw [e9]
    refine E_icmp_eq 34 dX4_finishIfNothingFollows_19 (by decide) (fun c_19 => ?_) (fun c_19 => ?_)
    · exact go (Or.inr (Or.inl c_19))
    · refine E_aload_n dX4_finishIfNothingFollows_22 rfl ?_
      refine E_getR dX4_finishIfNothingFollows_23 fl_X4_12 rfl r425 rfl ?_
      refine E_getI dX4_finishIfNothingFollows_26 fl_X4_150 rfl rfl ?_
      refine E_bi 7 dX4_finishIfNothingFollows_29 (by decide) ?_
      rw [e9]
      refine E_icmp_ne 38 dX4_finishIfNothingFollows_31 (by decide) (fun c_31 => ?_) (fun c_31 => ?_)
      · refine E_ic 0 dX4_finishIfNothingFollows_38 (by decide) ?_
        refine E_istore_n dX4_finishIfNothingFollows_39 (by decide) ?_
        refine E_iload_n dX4_finishIfNothingFollows_40 rfl ?_
        refine E_if_eq 73 dX4_finishIfNothingFollows_41 (by decide) (fun c_41 => ?_) (fun c_41 => absurd rfl c_41)
        exact E_retv dX4_finishIfNothingFollows_73 rfl (Nat.le_of_ble_eq_true rfl) (Nat.le_of_ble_eq_true rfl) ⟨rfl, rfl, Or.inr ⟨fun q => by rcases q.1 with z | z | z; exact c_8 z; exact c_19 z; exact c_31 z, C⟩, CF.rf⟩
      · exact go (Or.inr (Or.inr c_31))

