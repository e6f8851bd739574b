/-! the model: endComes, makesSums, makesOfFile -/
def mKT (k : Int32) : Int32 := if 2 * k ≤ 8 then 2 * k else 8
def mEndA (b : Ab) (f : Nat) : Ab := if dig (b.2.2.1 1) = b.2.1 3 then aB (aI (aF (aI (aI b 12 3) 28 1) (tg b) (setF (tF b) f (some (b.2.2.1 1)))) 22 (b.1 22 + 1)) 0 (va_up (b.2.2.2.2.1 0) f false) else if b.1 21 + 1 = 3 then aB (aI (aI (aI (aI (aI (aI b 12 3) 28 0) 24 (b.1 24 + 1)) 21 (b.1 21 + 1)) 20 (mKT (b.1 20))) 23 (b.1 23 + 1)) 0 (va_up (b.2.2.2.2.1 0) f false) else aI (aI (aI (aI (aI b 12 3) 28 0) 24 (b.1 24 + 1)) 21 (b.1 21 + 1)) 20 (mKT (b.1 20))
theorem ec_yes {b : Ab} {h : Hp} {f : Nat} {x2 : Option Value} (hf : f < 8) (hF : b.1 19 = nI f) {h3 : Hp} (M3 : MRep (aF b (tg b) (setF (tF b) f (some (b.2.2.1 1)))) h3) (F3 : MF h h3) : E mX9_endComes none (fun v sh' h' => sh' = SH ∧ v = none ∧ MRep (aB (aI (aF b (tg b) (setF (tF b) f (some (b.2.2.1 1)))) 22 (b.1 22 + 1)) 0 (va_up (b.2.2.2.2.1 0) f false)) h' ∧ MF h h') 98 [some (.ref 59), some (.int (nI (8 * tg b + f))), x2] [] SH h3 0 0 := by
  obtain ⟨q0, q1, q2, q3, q9, q10, q11, q13, q14, q22, q29, q33, q34, q36, q37, q40⟩ := id M3.2.2.1
  have g22 : h3.1 64 5 = b.1 22 := M3.1 22 (by decide)
  have M4 := M3.setI 22 (b.1 22 + 1) (by decide)
  have F4 : MF h (sI h3 64 5 (b.1 22 + 1)) := MF_sI F3 (by decide)
  have g19 : (sI h3 64 5 (b.1 22 + 1)).1 59 16 = nI f := (M4.1 19 (by decide)).trans hF
  refine E_aload_n dX9_endComes_98 rfl ?_
  refine E_getR dX9_endComes_99 fl_X9_24 rfl (by assumption) rfl ?_
  refine E_ic 5 dX9_endComes_102 (by decide) ?_
  refine E_dup2 rfl rfl dX9_endComes_103 ?_
  refine E_iald dX9_endComes_104 rfl (vp_in_nI (n := 5) (by decide) (by decide)) ?_
  rw [show h3.1 64 (5 : Int32).toNatClampNeg = b.1 22 from g22]
  refine E_ic 1 dX9_endComes_105 (by decide) ?_
  refine E_iadd dX9_endComes_106 ?_
  refine E_iast dX9_endComes_107 rfl (vp_in_nI (n := 5) (by decide) (by decide)) ?_
  refine E_aload_n dX9_endComes_108 rfl ?_
  refine E_getR dX9_endComes_109 fl_X9_33 rfl (by assumption) rfl ?_
  refine E_aload_n dX9_endComes_112 rfl ?_
  refine E_getI dX9_endComes_113 fl_X9_112 rfl rfl ?_
  rw [show (sI h3 64 (5 : Int32).toNatClampNeg (b.1 22 + 1)).1 59 16 = nI f from g19]
  refine E_ic 0 dX9_endComes_116 (by decide) ?_
  refine E_zast dX9_endComes_117 rfl (vp_in_nI hf (by omega)) ?_
  rw [nI_clamp (by omega)]
  exact E_retv dX9_endComes_118 rfl (Nat.le_of_ble_eq_true rfl) (Nat.le_of_ble_eq_true rfl) ⟨rfl, rfl, M4.flag (j := 0) (by decide) hf false, MF_sI F4 (by decide)⟩
theorem ec_loop {b : Ab} {h hz : Hp} (M : MRep b hz) (Fz : MF h hz) {f : Nat} (hf : f < 8) (hF : b.1 19 = nI f) : ∀ (n i : Nat) (h3 : Hp), (b.2.2.1 1).length - i ≤ n → i ≤ (b.2.2.1 1).length → FilF hz h3 (8 * tg b + f) → h3.1 61 (8 * tg b + f) = nI (b.2.2.1 1).length → BSeg h3 60 (500 * (8 * tg b + f)) ((b.2.2.1 1).take i) → E mX9_endComes none (fun v sh' h' => sh' = SH ∧ v = none ∧ MRep (aB (aI (aF b (tg b) (setF (tF b) f (some (b.2.2.1 1)))) 22 (b.1 22 + 1)) 0 (va_up (b.2.2.2.2.1 0) f false)) h' ∧ MF h h') 66 [some (.ref 59), some (.int (nI (8 * tg b + f))), some (.int (nI i))] [] SH h3 0 0 := by
  obtain ⟨f1, hl, fB⟩ := id M.2.2.2.2.2.2.1
  obtain ⟨q0, q1, q2, q3, q9, q10, q11, q13, q14, q22, q29, q33, q34, q36, q37, q40⟩ := id M.2.2.1
  have tl := tg_lt b
  intro n
  have fin : ∀ (h3 : Hp), FilF hz h3 (8 * tg b + f) → h3.1 61 (8 * tg b + f) = nI (b.2.2.1 1).length → BSeg h3 60 (500 * (8 * tg b + f)) ((b.2.2.1 1).take (b.2.2.1 1).length) → E mX9_endComes none (fun v sh' h' => sh' = SH ∧ v = none ∧ MRep (aB (aI (aF b (tg b) (setF (tF b) f (some (b.2.2.1 1)))) 22 (b.1 22 + 1)) 0 (va_up (b.2.2.2.2.1 0) f false)) h' ∧ MF h h') 66 [some (.ref 59), some (.int (nI (8 * tg b + f))), some (.int (nI (b.2.2.1 1).length))] [] SH h3 0 0 := by
    intro h3 F3 h61 B3
    rw [List.take_length] at B3
    have f1' : h3.1 59 23 = nI (b.2.2.1 1).length := by rw [F3.2.1 59 (by decide) (by decide)]; exact f1
    refine E_iload_n dX9_endComes_66 rfl ?_
    refine E_aload_n dX9_endComes_67 rfl ?_
    refine E_getI dX9_endComes_68 fl_X9_119 rfl rfl ?_
    rw [f1']
    refine E_icmp_ge 98 dX9_endComes_71 (by decide) (fun c_71 => ?_) (fun c_71 => absurd (nI_le (by omega) (by omega)) c_71)
    exact ec_yes hf hF (M.file (o := some (b.2.2.1 1)) tl hf F3 h61 hl B3) (Fz.tr F3.mf)
  induction n with
  | zero =>
    intro i h3 r1 r2 F3 h61 B3
    have e : i = (b.2.2.1 1).length := by omega
    subst e
    exact fin h3 F3 h61 B3
  | succ n ih =>
    intro i h3 r1 r2 F3 h61 B3
    by_cases e : i = (b.2.2.1 1).length
    · subst e
      exact fin h3 F3 h61 B3
    · have hi : i < (b.2.2.1 1).length := by omega
      have q0' : h3.2.2 59 0 = some 60 := by rw [F3.1]; exact q0
      have q22' : h3.2.2 59 22 = some 69 := by rw [F3.1]; exact q22
      have f1' : h3.1 59 23 = nI (b.2.2.1 1).length := by rw [F3.2.1 59 (by decide) (by decide)]; exact f1
      have hread : h3.1 69 i = sb ((b.2.2.1 1).getD i 0) := by
        have z := fB.at hi
        rw [Nat.zero_add] at z
        rw [F3.2.1 69 (by decide) (by decide)]
        exact z
      have tl2 : ((b.2.2.1 1).take i).length = i := by rw [List.length_take]; omega
      have B4 := B3.rset (q := i) (m := 500) (v := (b.2.2.1 1).getD i 0) (by omega) (by omega) (fB.lt _)
      rw [rset, if_neg (by omega), if_pos (by omega), ← take_s hi] at B4
      refine E_iload_n dX9_endComes_66 rfl ?_
      refine E_aload_n dX9_endComes_67 rfl ?_
      refine E_getI dX9_endComes_68 fl_X9_119 rfl rfl ?_
      rw [f1']
      refine E_icmp_ge 98 dX9_endComes_71 (by decide) (fun c_71 => absurd c_71 (nI_ge hi (by omega))) (fun c_71 => ?_)
      refine E_aload_n dX9_endComes_74 rfl ?_
      refine E_getR dX9_endComes_75 fl_X9_7 rfl (by assumption) rfl ?_
      refine E_si 500 dX9_endComes_78 (by decide) ?_
      refine E_iload_n dX9_endComes_81 rfl ?_
      refine E_imul dX9_endComes_82 ?_
      refine E_iload_n dX9_endComes_83 rfl ?_
      refine E_iadd dX9_endComes_84 ?_
      refine E_aload_n dX9_endComes_85 rfl ?_
      refine E_getR dX9_endComes_86 fl_X9_40 rfl (by assumption) rfl ?_
      refine E_iload_n dX9_endComes_89 rfl ?_
      refine E_bald dX9_endComes_90 rfl (vp_in_nI (by omega) (by omega)) ?_
      rw [nI_clamp (by omega), hread, show (500 : Int32) = nI 500 by decide, pk_mul, nI_add]
      refine E_bast dX9_endComes_91 rfl (vp_in_nI (by omega) (by omega)) ?_
      rw [nI_clamp (by omega), sb_n _ (fB.lt _)]
      refine E_iinc dX9_endComes_92 rfl (by decide) ?_
      refine E_goto 66 dX9_endComes_95 (by decide) ?_
      rw [nI_inc]
      exact ih (i + 1) _ (by omega) (by omega) (F3.by _ (by omega)) (by rw [← h61]; simp [sI, u2]) B4
theorem ec_no {b : Ab} {h h3 : Hp} {f : Nat} {x1 x2 : Option Value} (M3 : MRep b h3) (F3 : MF h h3) (hf : f < 8) (hF : b.1 19 = nI f) : E mX9_endComes none (fun v sh' h' => sh' = SH ∧ v = none ∧ MRep (if b.1 21 + 1 = 3 then aB (aI (aI (aI (aI b 24 (b.1 24 + 1)) 21 (b.1 21 + 1)) 20 (mKT (b.1 20))) 23 (b.1 23 + 1)) 0 (va_up (b.2.2.2.2.1 0) f false) else aI (aI (aI b 24 (b.1 24 + 1)) 21 (b.1 21 + 1)) 20 (mKT (b.1 20))) h' ∧ MF h h') 119 [some (.ref 59), x1, x2] [] SH h3 0 0 := by
  obtain ⟨q0, q1, q2, q3, q9, q10, q11, q13, q14, q22, q29, q33, q34, q36, q37, q40⟩ := id M3.2.2.1
  have g24 : h3.1 64 7 = b.1 24 := M3.1 24 (by decide)
  have M4 := M3.setI 24 (b.1 24 + 1) (by decide)
  have F4 : MF h (sI h3 64 7 (b.1 24 + 1)) := MF_sI F3 (by decide)
  have g21 : (sI h3 64 7 (b.1 24 + 1)).1 59 17 = b.1 21 := M4.1 21 (by decide)
  have M5 := M4.setI 21 (b.1 21 + 1) (by decide)
  have F5 : MF h (sI (sI h3 64 7 (b.1 24 + 1)) 59 17 (b.1 21 + 1)) := MF_sI F4 (by decide)
  have g20 : (sI (sI h3 64 7 (b.1 24 + 1)) 59 17 (b.1 21 + 1)).1 59 18 = b.1 20 := M5.1 20 (by decide)
  have M6 := M5.setI 20 (mKT (b.1 20)) (by decide)
  have F6 : MF h (sI (sI (sI h3 64 7 (b.1 24 + 1)) 59 17 (b.1 21 + 1)) 59 18 (mKT (b.1 20))) := MF_sI F5 (by decide)
  have g21' : (sI (sI (sI h3 64 7 (b.1 24 + 1)) 59 17 (b.1 21 + 1)) 59 18 (mKT (b.1 20))).1 59 17 = b.1 21 + 1 := M6.1 21 (by decide)
  have g23 : (sI (sI (sI h3 64 7 (b.1 24 + 1)) 59 17 (b.1 21 + 1)) 59 18 (mKT (b.1 20))).1 64 6 = b.1 23 := M6.1 23 (by decide)
  have M7 := M6.setI 23 (b.1 23 + 1) (by decide)
  have F7 : MF h (sI (sI (sI (sI h3 64 7 (b.1 24 + 1)) 59 17 (b.1 21 + 1)) 59 18 (mKT (b.1 20))) 64 6 (b.1 23 + 1)) := MF_sI F6 (by decide)
  have g19 : (sI (sI (sI (sI h3 64 7 (b.1 24 + 1)) 59 17 (b.1 21 + 1)) 59 18 (mKT (b.1 20))) 64 6 (b.1 23 + 1)).1 59 16 = nI f := (M7.1 19 (by decide)).trans hF
  refine E_aload_n dX9_endComes_119 rfl ?_
  refine E_getR dX9_endComes_120 fl_X9_24 rfl (by assumption) rfl ?_
  refine E_bi 7 dX9_endComes_123 (by decide) ?_
  refine E_dup2 rfl rfl dX9_endComes_125 ?_
  refine E_iald dX9_endComes_126 rfl (vp_in_nI (n := 7) (by decide) (by decide)) ?_
  rw [show h3.1 64 (7 : Int32).toNatClampNeg = b.1 24 from g24]
  refine E_ic 1 dX9_endComes_127 (by decide) ?_
  refine E_iadd dX9_endComes_128 ?_
  refine E_iast dX9_endComes_129 rfl (vp_in_nI (n := 7) (by decide) (by decide)) ?_
  rw [show (7 : Int32).toNatClampNeg = 7 by decide]
  refine E_aload_n dX9_endComes_130 rfl ?_
  refine E_dup rfl dX9_endComes_131 ?_
  refine E_getI dX9_endComes_132 fl_X9_181 rfl rfl ?_
  rw [g21]
  refine E_ic 1 dX9_endComes_135 (by decide) ?_
  refine E_iadd dX9_endComes_136 ?_
  refine E_putI dX9_endComes_137 fl_X9_181 rfl rfl ?_
  refine E_aload_n dX9_endComes_140 rfl ?_
  refine E_bi 8 dX9_endComes_141 (by decide) ?_
  refine E_ic 2 dX9_endComes_143 (by decide) ?_
  refine E_aload_n dX9_endComes_144 rfl ?_
  refine E_getI dX9_endComes_145 fl_X9_184 rfl rfl ?_
  rw [g20]
  refine E_imul dX9_endComes_148 ?_
  refine cS2 (N := mX9_lesser) dX9_endComes_149 cn_X9_lesser lk_X9_228 ⟨Nat.le_of_ble_eq_true rfl, Nat.le_of_ble_eq_true rfl⟩ (Nat.le_of_ble_eq_true rfl) ⟨rfl, rfl⟩ (m_lesser _ _) (fun v6 h6 ⟨hv6, hh6⟩ => ?_)
  rw [hv6, hh6, show (if 2 * b.1 20 ≤ 8 then 2 * b.1 20 else 8) = mKT (b.1 20) from rfl]
  refine E_putI dX9_endComes_152 fl_X9_184 rfl rfl ?_
  refine E_aload_n dX9_endComes_155 rfl ?_
  refine E_getI dX9_endComes_156 fl_X9_181 rfl rfl ?_
  rw [g21']
  refine E_ic 3 dX9_endComes_159 (by decide) ?_
  refine E_icmp_ne 184 dX9_endComes_160 (by decide) (fun c_160 => ?_) (fun c_160 => ?_)
  · exact E_retv dX9_endComes_184 rfl (Nat.le_of_ble_eq_true rfl) (Nat.le_of_ble_eq_true rfl) ⟨rfl, rfl, by rw [if_neg c_160]; exact M6, F6⟩
  · refine E_aload_n dX9_endComes_163 rfl ?_
    refine E_getR dX9_endComes_164 fl_X9_24 rfl (by assumption) rfl ?_
    refine E_bi 6 dX9_endComes_167 (by decide) ?_
    refine E_dup2 rfl rfl dX9_endComes_169 ?_
    refine E_iald dX9_endComes_170 rfl (vp_in_nI (n := 6) (by decide) (by decide)) ?_
    rw [show (6 : Int32).toNatClampNeg = 6 by decide, g23]
    refine E_ic 1 dX9_endComes_171 (by decide) ?_
    refine E_iadd dX9_endComes_172 ?_
    refine E_iast dX9_endComes_173 rfl (vp_in_nI (n := 6) (by decide) (by decide)) ?_
    rw [show (6 : Int32).toNatClampNeg = 6 by decide]
    refine E_aload_n dX9_endComes_174 rfl ?_
    refine E_getR dX9_endComes_175 fl_X9_33 rfl (by assumption) rfl ?_
    refine E_aload_n dX9_endComes_178 rfl ?_
    refine E_getI dX9_endComes_179 fl_X9_112 rfl rfl ?_
    rw [g19]
    refine E_ic 0 dX9_endComes_182 (by decide) ?_
    refine E_zast dX9_endComes_183 rfl (vp_in_nI hf (by omega)) ?_
    rw [nI_clamp (by omega)]
    exact E_retv dX9_endComes_184 rfl (Nat.le_of_ble_eq_true rfl) (Nat.le_of_ble_eq_true rfl) ⟨rfl, rfl, by rw [if_pos c_160]; exact M7.flag (j := 0) (by decide) hf false, MF_sI F7 (by decide)⟩
theorem m_endComes {b : Ab} {h : Hp} (M : MRep b h) (hs : eOk (b.1 1)) {f : Nat} (hf : f < 8) (hF : b.1 19 = nI f) : Sp0 mX9_endComes [.ref 59] SH h (fun v h' => v = none ∧ MRep (mEndA b f) h' ∧ MF h h') := by
  have M1 : MRep (aI b 12 3) (sI h 59 15 3) := M.setI 12 3 (by decide)
  have F1 : MF h (sI h 59 15 3) := MF_sI MF.rf (by decide)
  refine Sp0.of (by decide) (Nat.le_of_ble_eq_true rfl) ?_
  show E mX9_endComes none _ 0 [some (.ref 59), none, none] [] SH h 0 0
  generalize hh1 : sI h 59 15 3 = h1 at M1 F1
  obtain ⟨q0, q1, q2, q3, q9, q10, q11, q13, q14, q22, q29, q33, q34, q36, q37, q40⟩ := id M1.2.2.1
  have l3 : h1.2.1 59 28 = b.2.1 3 := M1.2.1 3 (by decide) (by decide)
  obtain ⟨f1, hl, fB⟩ := id M1.2.2.2.2.2.2.1
  have f1 : h1.1 59 23 = nI (b.2.2.1 1).length := f1
  have fB : BSeg h1 69 0 (b.2.2.1 1) := fB
  have hl : (b.2.2.1 1).length ≤ 500 := hl
  have tl := tg_lt b
  refine E_aload_n dX9_endComes_0 rfl ?_
  refine E_ic 3 dX9_endComes_1 (by decide) ?_
  refine E_putI dX9_endComes_2 fl_X9_109 rfl rfl ?_
  rw [hh1]
  refine E_aload_n dX9_endComes_5 rfl ?_
  refine E_aload_n dX9_endComes_6 rfl ?_
  refine E_getR dX9_endComes_7 fl_X9_40 rfl (by assumption) rfl ?_
  refine E_ic 0 dX9_endComes_10 (by decide) ?_
  refine E_aload_n dX9_endComes_11 rfl ?_
  refine E_getI dX9_endComes_12 fl_X9_119 rfl rfl ?_
  rw [f1, show (0 : Int32) = nI 0 by decide]
  refine cS3 (N := mX9_digest) dX9_endComes_15 cn_X9_digest lk_X9_79 ⟨Nat.le_of_ble_eq_true rfl, Nat.le_of_ble_eq_true rfl⟩ (Nat.le_of_ble_eq_true rfl) ⟨rfl, rfl⟩ (m_digest (m := 500) rfl (by decide) fB (by omega)) (fun v2 h2 ⟨hv2, hh2⟩ => ?_)
  rw [hv2, hh2]
  refine E_aload_n dX9_endComes_18 rfl ?_
  refine E_getL dX9_endComes_19 fl_X9_171 rfl rfl ?_
  rw [l3]
  refine E_lcmp dX9_endComes_22 ?_
  refine E_if_ne 30 dX9_endComes_23 (by decide) (fun c_23 => ?_) (fun c_23 => ?_)
  · refine E_ic 0 dX9_endComes_30 (by decide) ?_
    refine E_putZ dX9_endComes_31 fl_X9_225 rfl rfl (by decide) ?_
    have hne : ¬ dig (b.2.2.1 1) = b.2.1 3 := fun q => c_23 ((lg_cmp_eq _ _).mpr q)
    have M2 := M1.setI 28 0 (by decide)
    have F2 : MF h (sI h1 59 21 0) := MF_sI F1 (by decide)
    refine E_aload_n dX9_endComes_34 rfl ?_
    refine E_getI dX9_endComes_35 fl_X9_225 rfl rfl ?_
    rw [show (sI h1 59 21 0).1 59 21 = 0 by simp [sI, u2]]
    refine E_if_eq 119 dX9_endComes_38 (by decide) (fun c_38 => ?_) (fun c_38 => absurd rfl c_38)
    rw [mEndA, if_neg hne]
    exact ec_no M2 F2 hf hF
  · refine E_ic 1 dX9_endComes_26 (by decide) ?_
    refine E_goto 31 dX9_endComes_27 (by decide) ?_
    refine E_putZ dX9_endComes_31 fl_X9_225 rfl rfl (by decide) ?_
    have heq : dig (b.2.2.1 1) = b.2.1 3 := (lg_cmp_eq _ _).mp c_23
    have M2 := M1.setI 28 1 (by decide)
    have F2 : MF h (sI h1 59 21 1) := MF_sI F1 (by decide)
    refine E_aload_n dX9_endComes_34 rfl ?_
    refine E_getI dX9_endComes_35 fl_X9_225 rfl rfl ?_
    rw [show (sI h1 59 21 1).1 59 21 = 1 by simp [sI, u2]]
    refine E_if_eq 119 dX9_endComes_38 (by decide) (fun c_38 => absurd c_38 (by decide)) (fun c_38 => ?_)
    refine E_bi 8 dX9_endComes_41 (by decide) ?_
    refine E_aload_n dX9_endComes_43 rfl ?_
    refine cV0 (N := mX9_target) dX9_endComes_44 cn_X9_target lk_X9_157 ⟨Nat.le_of_ble_eq_true rfl, Nat.le_of_ble_eq_true rfl⟩ rfl rfl (Nat.le_of_ble_eq_true rfl) ⟨rfl, rfl⟩ (m_target M2 hs) (fun v3 h3 ⟨hv3, hh3⟩ => ?_)
    rw [hv3, hh3, show tg (aI (aI b 12 3) 28 1) = tg b from rfl]
    refine E_imul dX9_endComes_47 ?_
    refine E_aload_n dX9_endComes_48 rfl ?_
    refine E_getI dX9_endComes_49 fl_X9_112 rfl rfl ?_
    rw [show (sI h1 59 21 1).1 59 16 = nI f from (M2.1 19 (by decide)).trans hF, show (8 : Int32) = nI 8 by decide, pk_mul]
    refine E_iadd dX9_endComes_52 ?_
    rw [nI_add]
    refine E_istore_n dX9_endComes_53 (by decide) ?_
    refine E_aload_n dX9_endComes_54 rfl ?_
    refine E_getR dX9_endComes_55 fl_X9_13 rfl (by assumption) rfl ?_
    refine E_iload_n dX9_endComes_58 rfl ?_
    refine E_aload_n dX9_endComes_59 rfl ?_
    refine E_getI dX9_endComes_60 fl_X9_119 rfl rfl ?_
    rw [show (sI h1 59 21 1).1 59 23 = nI (b.2.2.1 1).length by rw [← f1]; simp [sI, u2]]
    refine E_iast dX9_endComes_63 rfl (vp_in_nI (by omega) (by omega)) ?_
    rw [nI_clamp (by omega)]
    refine E_ic 0 dX9_endComes_64 (by decide) ?_
    refine E_istore_n dX9_endComes_65 (by decide) ?_
    rw [mEndA, if_pos heq]
    exact ec_loop M2 F2 hf hF _ 0 _ (Nat.le_refl _) (by omega) (FilF.rf.sz _) (by show (sI (sI h1 59 21 1) 61 (8 * tg b + f) (nI (b.2.2.1 1).length)).1 61 (8 * tg b + f) = nI (b.2.2.1 1).length; simp [sI, u2]) ⟨fun x hx => (by simp at hx), fun j hj => (by simp at hj)⟩

