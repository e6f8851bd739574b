/-! the model: makes, comes -/
def mAsk (b : Ab) : Ab := msgA (aI (aN b 0 (b.2.2.1 0).dropLast) 11 (nI ((b.2.2.1 0).getD ((b.2.2.1 0).length - 1) 0))) (nI (tg b)) 0 2
def mMk (b : Ab) : Ab := if b.1 12 = 1 then aL (msgA b (b.1 1) 1 10) 3 (nodeF (sF b) (xN b 11)) else if b.1 12 = 2 then mFileA b (xN b 19) (xN b 13) (xN b 16) (xN b 30) else if b.1 12 = 3 then msgA b (nI (tg b)) 7 1 else if 0 < (b.2.2.1 0).length then mAsk b else mSumT (mPick b) (xN (mPick b) 19) (xN b 16) (xN (mPick b) 20)
def MMkPre (b : Ab) : Prop := (b.1 12 = 1 ∧ ∃ x, 1 ≤ x ∧ x < 16 ∧ b.1 11 = nI x) ∨ (b.1 12 = 2 ∧ ∃ f p B K, f < 8 ∧ b.1 19 = nI f ∧ b.1 16 = nI B ∧ B ≤ 64 ∧ b.1 30 = nI K ∧ K ≤ 8 ∧ b.1 13 = nI p ∧ p ≤ 600) ∨ b.1 12 = 3 ∨ (b.1 12 = 0 ∧ (0 < (b.2.2.1 0).length ∨ ((b.2.2.1 0).length = 0 ∧ ∃ f B K, f < 8 ∧ (mPick b).1 19 = nI f ∧ b.1 16 = nI B ∧ 0 < B ∧ B ≤ 64 ∧ (mPick b).1 20 = nI K ∧ K ≤ 8)))
theorem mk_wait {b : Ab} {h : Hp} (M : MRep b h) (hw : 0 < (b.2.2.1 0).length) : MRep (aN b 0 (b.2.2.1 0).dropLast) (sI h 59 12 (nI ((b.2.2.1 0).length - 1))) := by
  have hW := M.2.2.2.1
  have hlt := hW.2.1
  refine M.wait ⟨by simp [sI, u2], by simp; omega, fun j hj => ?_⟩ rfl (fun y q1 q2 => by funext j; simp [sI, u2, q1]) (fun k hk => by simp [sI, u2, hk])
  simp at hj
  have q := hW.2.2 j (by omega)
  have hj2 : j < (b.2.2.1 0).length := by omega
  simp [sI, u2, q, List.getD, List.getElem?_dropLast, hj, hj2]
theorem m_makes {b : Ab} {h : Hp} (M : MRep b h) (hs : eOk (b.1 1)) (P : MMkPre b) : Sp0 mX9_makes [.ref 59] SH h (fun v h' => v = none ∧ MRep (mMk b) h' ∧ MF h h') := by
  obtain ⟨q0, q1, q2, q3, q9, q10, q11, q13, q14, q22, q29, q33, q34, q36, q37, q40⟩ := id M.2.2.1
  have g1 : h.1 59 5 = b.1 1 := M.1 1 (by decide)
  have g12 : h.1 59 15 = b.1 12 := M.1 12 (by decide)
  refine Sp0.of (by decide) (Nat.le_of_ble_eq_true rfl) ?_
  show E mX9_makes none _ 0 [some (.ref 59)] [] SH h 0 0
  rcases P with ⟨d, x, hx1, hx2, hx⟩ | ⟨d, f, p, B, K, hf, hF, hB, hB2, hK, hK2, hp, hp2⟩ | d | ⟨d, hw | ⟨hw, f, B, K, hf, hF, hB, hB0, hB2, hK, hK2⟩⟩
  · rw [mMk, if_pos d, xN_of hx (by omega)]
    rw [d] at g12
    have sl := sr_lt b
    have hsrc := src_n hs
    have hnd : ndR (msgA b (b.1 1) 1 10) (nI (sr b)) (nI x) = nodeF (sF b) x := by rw [ndR, if_pos ⟨eOk_nI sl, by rw [nI_toInt (by omega)]; omega, by rw [nI_toInt (by omega)]; omega⟩, nI_clamp (by omega), nI_clamp (by omega)]; rfl
    refine E_aload_n dX9_makes_0 rfl ?_
    refine E_getI dX9_makes_1 fl_X9_109 rfl rfl ?_
    refine E_ic 1 dX9_makes_4 (by decide) ?_
    rw [g12]
    refine E_icmp_ne 38 dX9_makes_5 (by decide) (fun c_5 => absurd rfl c_5) (fun c_5 => ?_)
    refine E_aload_n dX9_makes_8 rfl ?_
    refine E_aload_n dX9_makes_9 rfl ?_
    refine E_getI dX9_makes_10 fl_X9_90 rfl rfl ?_
    rw [g1]
    refine E_ic 1 dX9_makes_13 (by decide) ?_
    refine E_bi 10 dX9_makes_14 (by decide) ?_
    refine cV3 (N := mX9_message) dX9_makes_16 cn_X9_message lk_X9_163 ⟨Nat.le_of_ble_eq_true rfl, Nat.le_of_ble_eq_true rfl⟩ rfl rfl (Nat.le_of_ble_eq_true rfl) ⟨rfl, rfl⟩ (m_message M _ _ _) (fun v2 h2 ⟨hv2, M2, F2⟩ => ?_)
    rw [hv2]
    have k1 : h2.1 59 5 = nI (sr b) := (M2.1 1 (by decide)).trans hsrc
    have k11 : h2.1 59 27 = nI x := (M2.1 11 (by decide)).trans hx
    refine E_aload_n dX9_makes_19 rfl ?_
    refine E_aload_n dX9_makes_20 rfl ?_
    refine E_aload_n dX9_makes_21 rfl ?_
    refine E_getI dX9_makes_22 fl_X9_90 rfl rfl ?_
    refine E_aload_n dX9_makes_25 rfl ?_
    refine E_getI dX9_makes_26 fl_X9_134 rfl rfl ?_
    rw [k1, k11]
    refine cV2 (N := mX9_node) dX9_makes_29 cn_X9_node lk_X9_167 ⟨Nat.le_of_ble_eq_true rfl, Nat.le_of_ble_eq_true rfl⟩ rfl rfl (Nat.le_of_ble_eq_true rfl) ⟨rfl, rfl⟩ (m_node M2 _ _) (fun v3 h3 ⟨hv3, F3⟩ => ?_)
    rw [hv3, hnd]
    have M3 := M2.scr F3
    refine E_putL dX9_makes_32 fl_X9_171 rfl rfl ?_
    refine E_goto 122 dX9_makes_35 (by decide) ?_
    have M4 := M3.setL 3 (nodeF (sF b) x) (by decide) (by decide)
    exact E_retv dX9_makes_122 rfl (Nat.le_of_ble_eq_true rfl) (Nat.le_of_ble_eq_true rfl) ⟨rfl, rfl, M4, MF_sL (F2.tr F3.mf) (by decide)⟩
  · rw [mMk, if_neg (by rw [d]; decide), if_pos d, xN_of hF (by omega), xN_of hB (by omega), xN_of hK (by omega), xN_of hp (by omega)]
    rw [d] at g12
    refine E_aload_n dX9_makes_0 rfl ?_
    refine E_getI dX9_makes_1 fl_X9_109 rfl rfl ?_
    refine E_ic 1 dX9_makes_4 (by decide) ?_
    rw [g12]
    refine E_icmp_ne 38 dX9_makes_5 (by decide) (fun c_5 => ?_) (fun c_5 => absurd c_5 (by decide))
    refine E_aload_n dX9_makes_38 rfl ?_
    refine E_getI dX9_makes_39 fl_X9_109 rfl rfl ?_
    refine E_ic 2 dX9_makes_42 (by decide) ?_
    rw [g12]
    refine E_icmp_ne 53 dX9_makes_43 (by decide) (fun c_43 => absurd rfl c_43) (fun c_43 => ?_)
    refine E_aload_n dX9_makes_46 rfl ?_
    refine cV0 (N := mX9_makesOfFile) dX9_makes_47 cn_X9_makesOfFile lk_X9_175 ⟨Nat.le_of_ble_eq_true rfl, Nat.le_of_ble_eq_true rfl⟩ rfl rfl (Nat.le_of_ble_eq_true rfl) ⟨rfl, rfl⟩ (m_makesOfFile M hs hf hF hB hB2 hK hK2 hp hp2) (fun v2 h2 ⟨hv2, M2, F2⟩ => ?_)
    rw [hv2]
    refine E_goto 122 dX9_makes_50 (by decide) ?_
    exact E_retv dX9_makes_122 rfl (Nat.le_of_ble_eq_true rfl) (Nat.le_of_ble_eq_true rfl) ⟨rfl, rfl, M2, F2⟩
  · rw [mMk, if_neg (by rw [d]; decide), if_neg (by rw [d]; decide), if_pos d]
    rw [d] at g12
    refine E_aload_n dX9_makes_0 rfl ?_
    refine E_getI dX9_makes_1 fl_X9_109 rfl rfl ?_
    refine E_ic 1 dX9_makes_4 (by decide) ?_
    rw [g12]
    refine E_icmp_ne 38 dX9_makes_5 (by decide) (fun c_5 => ?_) (fun c_5 => absurd c_5 (by decide))
    refine E_aload_n dX9_makes_38 rfl ?_
    refine E_getI dX9_makes_39 fl_X9_109 rfl rfl ?_
    refine E_ic 2 dX9_makes_42 (by decide) ?_
    rw [g12]
    refine E_icmp_ne 53 dX9_makes_43 (by decide) (fun c_43 => ?_) (fun c_43 => absurd c_43 (by decide))
    refine E_aload_n dX9_makes_53 rfl ?_
    refine E_getI dX9_makes_54 fl_X9_109 rfl rfl ?_
    refine E_ic 3 dX9_makes_57 (by decide) ?_
    rw [g12]
    refine E_icmp_ne 75 dX9_makes_58 (by decide) (fun c_58 => absurd rfl c_58) (fun c_58 => ?_)
    refine E_aload_n dX9_makes_61 rfl ?_
    refine E_aload_n dX9_makes_62 rfl ?_
    refine cV0 (N := mX9_target) dX9_makes_63 cn_X9_target lk_X9_157 ⟨Nat.le_of_ble_eq_true rfl, Nat.le_of_ble_eq_true rfl⟩ rfl rfl (Nat.le_of_ble_eq_true rfl) ⟨rfl, rfl⟩ (m_target M hs) (fun v2 h2 ⟨hv2, hh2⟩ => ?_)
    rw [hv2, hh2]
    refine E_bi 7 dX9_makes_66 (by decide) ?_
    refine E_ic 1 dX9_makes_68 (by decide) ?_
    refine cV3 (N := mX9_message) dX9_makes_69 cn_X9_message lk_X9_163 ⟨Nat.le_of_ble_eq_true rfl, Nat.le_of_ble_eq_true rfl⟩ rfl rfl (Nat.le_of_ble_eq_true rfl) ⟨rfl, rfl⟩ (m_message M _ _ _) (fun v3 h3 ⟨hv3, M3, F3⟩ => ?_)
    rw [hv3]
    refine E_goto 122 dX9_makes_72 (by decide) ?_
    exact E_retv dX9_makes_122 rfl (Nat.le_of_ble_eq_true rfl) (Nat.le_of_ble_eq_true rfl) ⟨rfl, rfl, M3, F3⟩
  · rw [mMk, if_neg (by rw [d]; decide), if_neg (by rw [d]; decide), if_neg (by rw [d]; decide), if_pos hw, mAsk]
    rw [d] at g12
    have hW := M.2.2.2.1
    have hlt := hW.2.1
    have hlen : (nI (b.2.2.1 0).length : Int32) - 1 = nI ((b.2.2.1 0).length - 1) := by rw [show (1 : Int32) = nI 1 by decide, pk_sub hw]
    have M1 := mk_wait M hw
    have F1 : MF h (sI h 59 12 (nI ((b.2.2.1 0).length - 1))) := MF_sI MF.rf (by decide)
    have w0 : (sI h 59 12 (nI ((b.2.2.1 0).length - 1))).1 59 12 = nI ((b.2.2.1 0).length - 1) := by simp [sI, u2]
    have w1 : (sI h 59 12 (nI ((b.2.2.1 0).length - 1))).1 66 ((b.2.2.1 0).length - 1) = nI ((b.2.2.1 0).getD ((b.2.2.1 0).length - 1) 0) := by rw [← hW.2.2 _ (by omega)]; simp [sI, u2]
    have M2 := M1.setI 11 (nI ((b.2.2.1 0).getD ((b.2.2.1 0).length - 1) 0)) (by decide)
    have F2 : MF h (sI (sI h 59 12 (nI ((b.2.2.1 0).length - 1))) 59 27 (nI ((b.2.2.1 0).getD ((b.2.2.1 0).length - 1) 0))) := MF_sI F1 (by decide)
    refine E_aload_n dX9_makes_0 rfl ?_
    refine E_getI dX9_makes_1 fl_X9_109 rfl rfl ?_
    refine E_ic 1 dX9_makes_4 (by decide) ?_
    rw [g12]
    refine E_icmp_ne 38 dX9_makes_5 (by decide) (fun c_5 => ?_) (fun c_5 => absurd c_5 (by decide))
    refine E_aload_n dX9_makes_38 rfl ?_
    refine E_getI dX9_makes_39 fl_X9_109 rfl rfl ?_
    refine E_ic 2 dX9_makes_42 (by decide) ?_
    rw [g12]
    refine E_icmp_ne 53 dX9_makes_43 (by decide) (fun c_43 => ?_) (fun c_43 => absurd c_43 (by decide))
    refine E_aload_n dX9_makes_53 rfl ?_
    refine E_getI dX9_makes_54 fl_X9_109 rfl rfl ?_
    refine E_ic 3 dX9_makes_57 (by decide) ?_
    rw [g12]
    refine E_icmp_ne 75 dX9_makes_58 (by decide) (fun c_58 => ?_) (fun c_58 => absurd c_58 (by decide))
    refine E_aload_n dX9_makes_75 rfl ?_
    refine E_getI dX9_makes_76 fl_X9_106 rfl rfl ?_
    rw [hW.1]
    refine E_if_le 118 dX9_makes_79 (by decide) (fun c_79 => absurd c_79 (nI_nle hw (by omega))) (fun c_79 => ?_)
    refine E_aload_n dX9_makes_82 rfl ?_
    refine E_dup rfl dX9_makes_83 ?_
    refine E_getI dX9_makes_84 fl_X9_106 rfl rfl ?_
    rw [hW.1]
    refine E_ic 1 dX9_makes_87 (by decide) ?_
    refine E_isub dX9_makes_88 ?_
    rw [hlen]
    refine E_putI dX9_makes_89 fl_X9_106 rfl rfl ?_
    refine E_aload_n dX9_makes_92 rfl ?_
    refine E_aload_n dX9_makes_93 rfl ?_
    refine E_getR dX9_makes_94 fl_X9_30 rfl (by assumption) rfl ?_
    refine E_aload_n dX9_makes_97 rfl ?_
    refine E_getI dX9_makes_98 fl_X9_106 rfl rfl ?_
    rw [w0]
    refine E_iald dX9_makes_101 rfl (vp_in_nI (by omega) (by omega)) ?_
    rw [nI_clamp (by omega), w1]
    refine E_putI dX9_makes_102 fl_X9_134 rfl rfl ?_
    refine E_aload_n dX9_makes_105 rfl ?_
    refine E_aload_n dX9_makes_106 rfl ?_
    refine cV0 (N := mX9_target) dX9_makes_107 cn_X9_target lk_X9_157 ⟨Nat.le_of_ble_eq_true rfl, Nat.le_of_ble_eq_true rfl⟩ rfl rfl (Nat.le_of_ble_eq_true rfl) ⟨rfl, rfl⟩ (m_target M2 hs) (fun v3 h3 ⟨hv3, hh3⟩ => ?_)
    rw [hv3, hh3]
    refine E_ic 0 dX9_makes_110 (by decide) ?_
    refine E_ic 2 dX9_makes_111 (by decide) ?_
    refine cV3 (N := mX9_message) dX9_makes_112 cn_X9_message lk_X9_163 ⟨Nat.le_of_ble_eq_true rfl, Nat.le_of_ble_eq_true rfl⟩ rfl rfl (Nat.le_of_ble_eq_true rfl) ⟨rfl, rfl⟩ (m_message M2 _ _ _) (fun v4 h4 ⟨hv4, M4, F4⟩ => ?_)
    rw [hv4]
    refine E_goto 122 dX9_makes_115 (by decide) ?_
    exact E_retv dX9_makes_122 rfl (Nat.le_of_ble_eq_true rfl) (Nat.le_of_ble_eq_true rfl) ⟨rfl, rfl, M4, F2.tr F4⟩
  · rw [mMk, if_neg (by rw [d]; decide), if_neg (by rw [d]; decide), if_neg (by rw [d]; decide), if_neg (by omega), xN_of hF (by omega), xN_of hB (by omega), xN_of hK (by omega)]
    rw [d] at g12
    have hW := M.2.2.2.1
    refine E_aload_n dX9_makes_0 rfl ?_
    refine E_getI dX9_makes_1 fl_X9_109 rfl rfl ?_
    refine E_ic 1 dX9_makes_4 (by decide) ?_
    rw [g12]
    refine E_icmp_ne 38 dX9_makes_5 (by decide) (fun c_5 => ?_) (fun c_5 => absurd c_5 (by decide))
    refine E_aload_n dX9_makes_38 rfl ?_
    refine E_getI dX9_makes_39 fl_X9_109 rfl rfl ?_
    refine E_ic 2 dX9_makes_42 (by decide) ?_
    rw [g12]
    refine E_icmp_ne 53 dX9_makes_43 (by decide) (fun c_43 => ?_) (fun c_43 => absurd c_43 (by decide))
    refine E_aload_n dX9_makes_53 rfl ?_
    refine E_getI dX9_makes_54 fl_X9_109 rfl rfl ?_
    refine E_ic 3 dX9_makes_57 (by decide) ?_
    rw [g12]
    refine E_icmp_ne 75 dX9_makes_58 (by decide) (fun c_58 => ?_) (fun c_58 => absurd c_58 (by decide))
    refine E_aload_n dX9_makes_75 rfl ?_
    refine E_getI dX9_makes_76 fl_X9_106 rfl rfl ?_
    rw [hW.1, hw]
    refine E_if_le 118 dX9_makes_79 (by decide) (fun c_79 => ?_) (fun c_79 => absurd (by decide) c_79)
    refine E_aload_n dX9_makes_118 rfl ?_
    refine cV0 (N := mX9_makesSums) dX9_makes_119 cn_X9_makesSums lk_X9_178 ⟨Nat.le_of_ble_eq_true rfl, Nat.le_of_ble_eq_true rfl⟩ rfl rfl (Nat.le_of_ble_eq_true rfl) ⟨rfl, rfl⟩ (m_makesSums M hs hf hF hB hB0 hB2 hK hK2) (fun v2 h2 ⟨hv2, M2, F2⟩ => ?_)
    rw [hv2]
    exact E_retv dX9_makes_122 rfl (Nat.le_of_ble_eq_true rfl) (Nat.le_of_ble_eq_true rfl) ⟨rfl, rfl, M2, F2⟩
def mGoneA (b : Ab) (f : Nat) : Ab := aI (aI (aF (aB (aB b 0 (va_up (b.2.2.2.2.1 0) f false)) 1 (va_up (b.2.2.2.2.1 1) f (b.2.2.2.2.1 1 f || decide (b.1 18 = 2)))) (tg b) (setF (tF b) f (if b.1 18 = 1 then none else tF b f))) 19 (-2)) 12 0
def mBlkA (b : Ab) (j B f : Nat) : Ab := aN (aI b 25 (b.1 25 + 1)) 1 ((b.2.2.1 1 ++ (((tF b f).getD []).drop (B * j)).take B).take 500)
def mAnsA (b : Ab) : Ab := aI (aI b 12 0) 19 (if ¬ b.1 28 = 0 ∨ b.1 21 = 3 then -2 else b.1 19)
def mTk (b : Ab) : Ab := if b.1 9 = 0 then aI b 12 1 else if b.1 9 = 1 then takeNodeA (aI b 12 0) (xN b 11) (b.2.1 3) else if b.1 9 = 2 then mSumC b else if b.1 9 = 3 then mGoneA b (xN b 19) else if b.1 9 = 4 then takeBytesA b else if b.1 9 = 5 then mBlkA b (xN b 11) (xN b 16) (xN b 19) else if b.1 9 = 6 then mEndA b (xN b 19) else mAnsA b
def MTkPre (b : Ab) : Prop := b.1 9 = 0 ∨ (b.1 9 = 1 ∧ ∃ x, 1 ≤ x ∧ x < 16 ∧ b.1 11 = nI x ∧ (b.2.2.1 0).length + 2 ≤ 16) ∨ b.1 9 = 2 ∨ (b.1 9 = 3 ∧ ∃ f, f < 8 ∧ b.1 19 = nI f) ∨ b.1 9 = 4 ∨ (b.1 9 = 5 ∧ ∃ j B f, j ≤ 500 ∧ b.1 11 = nI j ∧ b.1 16 = nI B ∧ B ≤ 64 ∧ f < 8 ∧ b.1 19 = nI f) ∨ (b.1 9 = 6 ∧ ∃ f, f < 8 ∧ b.1 19 = nI f) ∨ b.1 9 = 7
theorem cm_end {b b' : Ab} {h h3 : Hp} {x1 : Option Value} (M3 : MRep b' h3) (F3 : MF h h3) (e : b' = mTk b) : E mX9_comes none (fun v sh' h' => sh' = SH ∧ v = none ∧ MRep (mTk b) h' ∧ MF h h') 349 [some (.ref 59), x1] [] SH h3 0 0 := by
  subst e
  exact E_retv dX9_comes_349 rfl (Nat.le_of_ble_eq_true rfl) (Nat.le_of_ble_eq_true rfl) ⟨rfl, rfl, M3, F3⟩
theorem cm_gone {b : Ab} {h : Hp} {x1 : Option Value} (M : MRep b h) (hs : eOk (b.1 1)) {f : Nat} (hf : f < 8) (hF : b.1 19 = nI f) (he : mGoneA b f = mTk b) : E mX9_comes none (fun v sh' h' => sh' = SH ∧ v = none ∧ MRep (mTk b) h' ∧ MF h h') 75 [some (.ref 59), x1] [] SH h 0 0 := by
  have tl := tg_lt b
  have M1 : MRep (aB b 0 (va_up (b.2.2.2.2.1 0) f false)) (sI h 67 f 0) := M.flag (j := 0) (by decide) hf false
  have F1 : MF h (sI h 67 f 0) := MF_sI MF.rf (by decide)
  obtain ⟨q0, q1, q2, q3, q9, q10, q11, q13, q14, q22, q29, q33, q34, q36, q37, q40⟩ := id M1.2.2.1
  have g19 : h.1 59 16 = nI f := (M.1 19 (by decide)).trans hF
  have k19 : (sI h 67 f 0).1 59 16 = nI f := (M1.1 19 (by decide)).trans hF
  have k18 : (sI h 67 f 0).1 59 8 = b.1 18 := M1.1 18 (by decide)
  have kG : (sI h 67 f 0).1 68 f = if b.2.2.2.2.1 1 f then 1 else 0 := M1.2.2.2.2.2.1 f hf
  have q13' : h.2.2 59 13 = some 67 := q13
  have hor : ∀ c : Bool, vp_nar .boolean ((if b.2.2.2.2.1 1 f then (1 : Int32) else 0) ||| (if c then 1 else 0)) = if (b.2.2.2.2.1 1 f || c) then 1 else 0 := by
    intro c
    cases b.2.2.2.2.1 1 f <;> cases c <;> decide
  have next : ∀ (c : Bool), c = decide (b.1 18 = 2) → E mX9_comes none (fun v sh' h' => sh' = SH ∧ v = none ∧ MRep (mTk b) h' ∧ MF h h') 108 [some (.ref 59), x1] [.int (if c then 1 else 0), .int (if b.2.2.2.2.1 1 f then 1 else 0), .int (nI f), .ref 68] SH (sI h 67 f 0) 0 0 := by
    intro c hc
    have M2 := M1.flag (j := 1) (by decide) hf (b.2.2.2.2.1 1 f || c)
    have F2 : MF h (sI (sI h 67 f 0) 68 f (if (b.2.2.2.2.1 1 f || c) then 1 else 0)) := MF_sI F1 (by decide)
    have M2 : MRep (aB (aB b 0 (va_up (b.2.2.2.2.1 0) f false)) 1 (va_up (b.2.2.2.2.1 1) f (b.2.2.2.2.1 1 f || c))) (sI (sI h 67 f 0) 68 f (if (b.2.2.2.2.1 1 f || c) then 1 else 0)) := M2
    rw [hc] at M2 F2 ⊢
    rw [← he, mGoneA]
    generalize hh2 : sI (sI h 67 f 0) 68 f (if (b.2.2.2.2.1 1 f || decide (b.1 18 = 2)) then 1 else 0) = h2 at M2 F2
    have r1 : h2.2.2 59 1 = some 61 := M2.2.2.1.2.1
    have r19 : h2.1 59 16 = nI f := (M2.1 19 (by decide)).trans hF
    have r18 : h2.1 59 8 = b.1 18 := M2.1 18 (by decide)
    have fm := M2.fm tl hf
    have fm : h2.1 61 (8 * tg b + f) = szI (tF b f) ∧ ((tF b f).getD []).length ≤ 500 ∧ BSeg h2 60 (500 * (8 * tg b + f)) ((tF b f).getD []) := fm
    have hix : (8 : Int32) * nI (tg b) + nI f = nI (8 * tg b + f) := by rw [show (8 : Int32) = nI 8 by decide, pk_mul, nI_add]
    have fin : ∀ (o : Option (List Nat)), o = (if b.1 18 = 1 then none else tF b f) → MRep (aF (aB (aB b 0 (va_up (b.2.2.2.2.1 0) f false)) 1 (va_up (b.2.2.2.2.1 1) f (b.2.2.2.2.1 1 f || decide (b.1 18 = 2)))) (tg b) (setF (tF b) f o)) (sI h2 61 (8 * tg b + f) (szI o)) → E mX9_comes none (fun v sh' h' => sh' = SH ∧ v = none ∧ MRep (aI (aI (aF (aB (aB b 0 (va_up (b.2.2.2.2.1 0) f false)) 1 (va_up (b.2.2.2.2.1 1) f (b.2.2.2.2.1 1 f || decide (b.1 18 = 2)))) (tg b) (setF (tF b) f (if b.1 18 = 1 then none else tF b f))) 19 (-2)) 12 0) h' ∧ MF h h') 157 [some (.ref 59), x1] [] SH (sI h2 61 (8 * tg b + f) (szI o)) 0 0 := by
      intro o ho M3
      rw [← ho]
      have F3 : MF h (sI h2 61 (8 * tg b + f) (szI o)) := F2.tr (FilF.rf.sz _).mf
      generalize sI h2 61 (8 * tg b + f) (szI o) = h3 at M3 F3
      refine E_aload_n dX9_comes_157 rfl ?_
      refine E_bi (-2) dX9_comes_158 (by decide) ?_
      refine E_putI dX9_comes_160 fl_X9_112 rfl rfl ?_
      have M4 := M3.setI 19 (-2) (by decide)
      have F4 := MF_sI (b := 59) (k := 16) (x := -2) F3 (by decide)
      refine E_aload_n dX9_comes_163 rfl ?_
      refine E_ic 0 dX9_comes_164 (by decide) ?_
      refine E_putI dX9_comes_165 fl_X9_109 rfl rfl ?_
      have M5 := M4.setI 12 0 (by decide)
      have F5 := MF_sI (b := 59) (k := 15) (x := 0) F4 (by decide)
      refine E_goto 349 dX9_comes_168 (by decide) ?_
      exact E_retv dX9_comes_349 rfl (Nat.le_of_ble_eq_true rfl) (Nat.le_of_ble_eq_true rfl) ⟨rfl, rfl, M5, F5⟩
    refine E_ior dX9_comes_108 ?_
    rw [← hc]
    refine E_zast dX9_comes_109 rfl (vp_in_nI hf (by omega)) ?_
    rw [nI_clamp (by omega), hor, hc, hh2]
    refine E_aload_n dX9_comes_110 rfl ?_
    refine E_getR dX9_comes_111 fl_X9_13 rfl (by assumption) rfl ?_
    refine E_bi 8 dX9_comes_114 (by decide) ?_
    refine E_aload_n dX9_comes_116 rfl ?_
    refine cV0 (N := mX9_target) dX9_comes_117 cn_X9_target lk_X9_157 ⟨Nat.le_of_ble_eq_true rfl, Nat.le_of_ble_eq_true rfl⟩ rfl rfl (Nat.le_of_ble_eq_true rfl) ⟨rfl, rfl⟩ (m_target M2 hs) (fun v3 h3 ⟨hv3, hh3⟩ => ?_)
    rw [hv3, hh3]
    refine E_imul dX9_comes_120 ?_
    refine E_aload_n dX9_comes_121 rfl ?_
    refine E_getI dX9_comes_122 fl_X9_112 rfl rfl ?_
    rw [r19]
    refine E_iadd dX9_comes_125 ?_
    rw [show (8 : Int32) * nI (tg (aB (aB b 0 (va_up (b.2.2.2.2.1 0) f false)) 1 (va_up (b.2.2.2.2.1 1) f (b.2.2.2.2.1 1 f || decide (b.1 18 = 2))))) + nI f = nI (8 * tg b + f) from hix]
    refine E_aload_n dX9_comes_126 rfl ?_
    refine E_getI dX9_comes_127 fl_X9_100 rfl rfl ?_
    refine E_ic 1 dX9_comes_130 (by decide) ?_
    rw [r18]
    refine E_icmp_ne 139 dX9_comes_131 (by decide) (fun c_131 => ?_) (fun c_131 => ?_)
    · refine E_aload_n dX9_comes_139 rfl ?_
      refine E_getR dX9_comes_140 fl_X9_13 rfl (by assumption) rfl ?_
      refine E_bi 8 dX9_comes_143 (by decide) ?_
      refine E_aload_n dX9_comes_145 rfl ?_
      refine cV0 (N := mX9_target) dX9_comes_146 cn_X9_target lk_X9_157 ⟨Nat.le_of_ble_eq_true rfl, Nat.le_of_ble_eq_true rfl⟩ rfl rfl (Nat.le_of_ble_eq_true rfl) ⟨rfl, rfl⟩ (m_target M2 hs) (fun v4 h4 ⟨hv4, hh4⟩ => ?_)
      rw [hv4, hh4]
      refine E_imul dX9_comes_149 ?_
      refine E_aload_n dX9_comes_150 rfl ?_
      refine E_getI dX9_comes_151 fl_X9_112 rfl rfl ?_
      rw [r19]
      refine E_iadd dX9_comes_154 ?_
      rw [show (8 : Int32) * nI (tg (aB (aB b 0 (va_up (b.2.2.2.2.1 0) f false)) 1 (va_up (b.2.2.2.2.1 1) f (b.2.2.2.2.1 1 f || decide (b.1 18 = 2))))) + nI f = nI (8 * tg b + f) from hix]
      refine E_iald dX9_comes_155 rfl (vp_in_nI (by omega) (by omega)) ?_
      rw [nI_clamp (by omega), fm.1]
      refine E_iast dX9_comes_156 rfl (vp_in_nI (by omega) (by omega)) ?_
      rw [nI_clamp (by omega)]
      exact fin (tF b f) (by rw [if_neg c_131]) (M2.file (o := tF b f) tl hf (FilF.rf.sz (szI (tF b f))) (by simp [sI, u2]) fm.2.1 (BSeg.off fm.2.2 (by funext y; simp [sI, u2])))
    · refine E_bi (-2) dX9_comes_134 (by decide) ?_
      refine E_goto 156 dX9_comes_136 (by decide) ?_
      refine E_iast dX9_comes_156 rfl (vp_in_nI (by omega) (by omega)) ?_
      rw [nI_clamp (by omega)]
      exact fin none (by rw [if_pos c_131]) (M2.file (o := none) tl hf (FilF.rf.sz (-2)) (by simp [sI, u2, szI]) (by simp) ⟨fun x hx => (by cases hx), fun j hj => (by simp at hj)⟩)
  refine E_aload_n dX9_comes_75 rfl ?_
  refine E_getR dX9_comes_76 fl_X9_33 rfl q13' rfl ?_
  refine E_aload_n dX9_comes_79 rfl ?_
  refine E_getI dX9_comes_80 fl_X9_112 rfl rfl ?_
  rw [g19]
  refine E_ic 0 dX9_comes_83 (by decide) ?_
  refine E_zast dX9_comes_84 rfl (vp_in_nI hf (by omega)) ?_
  rw [nI_clamp (by omega)]
  refine (show E mX9_comes none _ 85 [some (.ref 59), x1] [] SH (sI h 67 f 0) 0 0 from ?_)
  refine E_aload_n dX9_comes_85 rfl ?_
  refine E_getR dX9_comes_86 fl_X9_37 rfl (by assumption) rfl ?_
  refine E_aload_n dX9_comes_89 rfl ?_
  refine E_getI dX9_comes_90 fl_X9_112 rfl rfl ?_
  rw [k19]
  refine E_dup2 rfl rfl dX9_comes_93 ?_
  refine E_zald dX9_comes_94 rfl (vp_in_nI hf (by omega)) ?_
  rw [nI_clamp (by omega), kG]
  refine E_aload_n dX9_comes_95 rfl ?_
  refine E_getI dX9_comes_96 fl_X9_100 rfl rfl ?_
  rw [k18]
  refine E_ic 2 dX9_comes_99 (by decide) ?_
  refine E_icmp_ne 107 dX9_comes_100 (by decide) (fun c_100 => ?_) (fun c_100 => ?_)
  · refine E_ic 0 dX9_comes_107 (by decide) ?_
    exact next false (by simp [c_100])
  · refine E_ic 1 dX9_comes_103 (by decide) ?_
    refine E_goto 108 dX9_comes_104 (by decide) ?_
    exact next true (by simp [c_100])

