/-! the model: what comes -/
def mSumC (b : Ab) : Ab := aI (aI (aI (aS (aI b 30 (b.1 11)) 1 (b.2.2.2.2.2 0)) 13 0) 27 1) 12 2
theorem sc_fin {b : Ab} {h hk h3 : Hp} (Mk : MRep (aI b 30 (b.1 11)) hk) (Fk : MF h hk) {x1 : Option Value} (h2 : h3.2.2 = hk.2.2) (h1 : ∀ x, x ≠ 59 → h3.1 x = hk.1 x) (h0 : ∀ s, s ≠ 38 → h3.1 59 s = hk.1 59 s) (h4 : ∀ x, x ≠ 73 → x ≠ 74 → h3.2.1 x = hk.2.1 x) (hL : (b.2.2.2.2.2 0).length ≤ 500) (h38 : h3.1 59 38 = nI (b.2.2.2.2.2 0).length) (hr : ∀ j, j < (b.2.2.2.2.2 0).length → h3.2.1 73 j = ((b.2.2.2.2.2 0).getD j (0, 0)).1 ∧ h3.2.1 74 j = ((b.2.2.2.2.2 0).getD j (0, 0)).2) : E mX9_sumsCome none (fun v sh' h' => sh' = SH ∧ v = none ∧ MRep (mSumC b) h' ∧ MF h h') 56 [some (.ref 59), x1] [] SH h3 0 0 := by
  have M3 : MRep (aS (aI b 30 (b.1 11)) 1 (b.2.2.2.2.2 0)) h3 := Mk.sums (j := 1) (by decide) ⟨h38, hL, hr⟩ h2 h1 h0 h4
  have F3 : MF h h3 := Fk.tr ⟨h2, fun x q => ⟨h1 x (by omega), h4 x (by omega) (by omega)⟩⟩
  refine E_aload_n dX9_sumsCome_56 rfl ?_
  refine E_ic 0 dX9_sumsCome_57 (by decide) ?_
  refine E_putI dX9_sumsCome_58 fl_X9_197 rfl rfl ?_
  have M4 := M3.setI 13 0 (by decide)
  have F4 := MF_sI (b := 59) (k := 19) (x := 0) F3 (by decide)
  refine E_aload_n dX9_sumsCome_61 rfl ?_
  refine E_ic 1 dX9_sumsCome_62 (by decide) ?_
  refine E_putZ dX9_sumsCome_63 fl_X9_194 rfl rfl (by decide) ?_
  have M5 := M4.setI 27 1 (by decide)
  have F5 := MF_sI (b := 59) (k := 20) (x := 1) F4 (by decide)
  refine E_aload_n dX9_sumsCome_66 rfl ?_
  refine E_ic 2 dX9_sumsCome_67 (by decide) ?_
  refine E_putI dX9_sumsCome_68 fl_X9_109 rfl rfl ?_
  have M6 := M5.setI 12 2 (by decide)
  have F6 := MF_sI (b := 59) (k := 15) (x := 2) F5 (by decide)
  exact E_retv dX9_sumsCome_71 rfl (Nat.le_of_ble_eq_true rfl) (Nat.le_of_ble_eq_true rfl) ⟨rfl, rfl, M6, F6⟩
theorem m_sumsCome {b : Ab} {h : Hp} (M : MRep b h) : Sp0 mX9_sumsCome [.ref 59] SH h (fun v h' => v = none ∧ MRep (mSumC b) h' ∧ MF h h') := by
  obtain ⟨q0, q1, q2, q3, q9, q10, q11, q13, q14, q22, q29, q33, q34, q36, q37, q40⟩ := id M.2.2.1
  have g11 : h.1 59 27 = b.1 11 := M.1 11 (by decide)
  obtain ⟨f1, hl, fB⟩ := id M.2.2.2.2.2.2.2.2.2.2.1
  have Mk : MRep (aI b 30 (b.1 11)) (sI h 59 39 (b.1 11)) := M.setI 30 (b.1 11) (by decide)
  have Fk : MF h (sI h 59 39 (b.1 11)) := MF_sI MF.rf (by decide)
  refine Sp0.of (by decide) (Nat.le_of_ble_eq_true rfl) ?_
  show E mX9_sumsCome none _ 0 [some (.ref 59), none] [] SH h 0 0
  have loop : ∀ (n i : Nat) (h3 : Hp), (b.2.2.2.2.2 0).length - i ≤ n → i ≤ (b.2.2.2.2.2 0).length → h3.2.2 = h.2.2 → (∀ x, x ≠ 59 → h3.1 x = h.1 x) → (∀ s, s ≠ 38 → h3.1 59 s = (sI h 59 39 (b.1 11)).1 59 s) → (∀ x, x ≠ 73 → x ≠ 74 → h3.2.1 x = h.2.1 x) → h3.1 59 38 = nI (b.2.2.2.2.2 0).length → (∀ j, j < i → h3.2.1 73 j = ((b.2.2.2.2.2 0).getD j (0, 0)).1 ∧ h3.2.1 74 j = ((b.2.2.2.2.2 0).getD j (0, 0)).2) → E mX9_sumsCome none (fun v sh' h' => sh' = SH ∧ v = none ∧ MRep (mSumC b) h' ∧ MF h h') 18 [some (.ref 59), some (.int (nI i))] [] SH h3 0 0 := by
    intro n
    have fin : ∀ (h3 : Hp), h3.2.2 = h.2.2 → (∀ x, x ≠ 59 → h3.1 x = h.1 x) → (∀ s, s ≠ 38 → h3.1 59 s = (sI h 59 39 (b.1 11)).1 59 s) → (∀ x, x ≠ 73 → x ≠ 74 → h3.2.1 x = h.2.1 x) → h3.1 59 38 = nI (b.2.2.2.2.2 0).length → (∀ j, j < (b.2.2.2.2.2 0).length → h3.2.1 73 j = ((b.2.2.2.2.2 0).getD j (0, 0)).1 ∧ h3.2.1 74 j = ((b.2.2.2.2.2 0).getD j (0, 0)).2) → E mX9_sumsCome none (fun v sh' h' => sh' = SH ∧ v = none ∧ MRep (mSumC b) h' ∧ MF h h') 18 [some (.ref 59), some (.int (nI (b.2.2.2.2.2 0).length))] [] SH h3 0 0 := by
      intro h3 e2 e1 e0 e4 e38 er
      have f1' : h3.1 59 35 = nI (b.2.2.2.2.2 0).length := by rw [e0 35 (by decide), ← f1]; simp [sI, u2]
      refine E_iload_n dX9_sumsCome_18 rfl ?_
      refine E_aload_n dX9_sumsCome_19 rfl ?_
      refine E_getI dX9_sumsCome_20 fl_X9_187 rfl rfl ?_
      rw [f1']
      refine E_icmp_ge 56 dX9_sumsCome_23 (by decide) (fun c_23 => ?_) (fun c_23 => absurd (nI_le (by omega) (by omega)) c_23)
      exact sc_fin Mk Fk e2 (fun x q => by rw [e1 x q]; funext j; simp [sI, u2, q]) e0 e4 hl e38 er
    induction n with
    | zero =>
      intro i h3 r1 r2 e2 e1 e0 e4 e38 er
      have e : i = (b.2.2.2.2.2 0).length := by omega
      subst e
      exact fin h3 e2 e1 e0 e4 e38 er
    | succ n ih =>
      intro i h3 r1 r2 e2 e1 e0 e4 e38 er
      by_cases e : i = (b.2.2.2.2.2 0).length
      · subst e
        exact fin h3 e2 e1 e0 e4 e38 er
      · have hi : i < (b.2.2.2.2.2 0).length := by omega
        have f1' : h3.1 59 35 = nI (b.2.2.2.2.2 0).length := by rw [e0 35 (by decide), ← f1]; simp [sI, u2]
        have q33' : h3.2.2 59 33 = some 71 := by rw [e2]; exact q33
        have q34' : h3.2.2 59 34 = some 72 := by rw [e2]; exact q34
        have q36' : h3.2.2 59 36 = some 73 := by rw [e2]; exact q36
        have q37' : h3.2.2 59 37 = some 74 := by rw [e2]; exact q37
        have c1 : h3.2.1 71 i = ((b.2.2.2.2.2 0).getD i (0, 0)).1 := by rw [e4 71 (by decide) (by decide)]; exact (fB i hi).1
        have c2 : h3.2.1 72 i = ((b.2.2.2.2.2 0).getD i (0, 0)).2 := by rw [e4 72 (by decide) (by decide)]; exact (fB i hi).2
        refine E_iload_n dX9_sumsCome_18 rfl ?_
        refine E_aload_n dX9_sumsCome_19 rfl ?_
        refine E_getI dX9_sumsCome_20 fl_X9_187 rfl rfl ?_
        rw [f1']
        refine E_icmp_ge 56 dX9_sumsCome_23 (by decide) (fun c_23 => absurd c_23 (nI_ge hi (by omega))) (fun c_23 => ?_)
        refine E_aload_n dX9_sumsCome_26 rfl ?_
        refine E_getR dX9_sumsCome_27 fl_X9_52 rfl (by assumption) rfl ?_
        refine E_iload_n dX9_sumsCome_30 rfl ?_
        refine E_aload_n dX9_sumsCome_31 rfl ?_
        refine E_getR dX9_sumsCome_32 fl_X9_46 rfl (by assumption) rfl ?_
        refine E_iload_n dX9_sumsCome_35 rfl ?_
        refine E_lald dX9_sumsCome_36 rfl (vp_in_nI (by omega) (by omega)) ?_
        rw [nI_clamp (by omega), c1]
        refine E_last dX9_sumsCome_37 rfl (vp_in_nI (by omega) (by omega)) ?_
        rw [nI_clamp (by omega)]
        refine E_aload_n dX9_sumsCome_38 rfl ?_
        refine E_getR dX9_sumsCome_39 fl_X9_55 rfl (by assumption) rfl ?_
        refine E_iload_n dX9_sumsCome_42 rfl ?_
        refine E_aload_n dX9_sumsCome_43 rfl ?_
        refine E_getR dX9_sumsCome_44 fl_X9_49 rfl (by assumption) rfl ?_
        refine E_iload_n dX9_sumsCome_47 rfl ?_
        refine E_lald dX9_sumsCome_48 rfl (vp_in_nI (by omega) (by omega)) ?_
        rw [nI_clamp (by omega), show (sL h3 73 i ((b.2.2.2.2.2 0).getD i (0, 0)).1).2.1 72 i = ((b.2.2.2.2.2 0).getD i (0, 0)).2 by rw [← c2]; simp [sL, u2]]
        refine E_last dX9_sumsCome_49 rfl (vp_in_nI (by omega) (by omega)) ?_
        rw [nI_clamp (by omega)]
        refine E_iinc dX9_sumsCome_50 rfl (by decide) ?_
        refine E_goto 18 dX9_sumsCome_53 (by decide) ?_
        rw [nI_inc]
        refine ih (i + 1) _ (by omega) (by omega) e2 e1 e0 (fun x z1 z2 => by rw [← e4 x z1 z2]; funext j; simp [sL, u2, z1, z2]) e38 (fun j hj => ?_)
        by_cases z : j = i
        · subst z; simp [sL, u2]
        · have := er j (by omega)
          simp [sL, u2, z, this]
  refine E_aload_n dX9_sumsCome_0 rfl ?_
  refine E_aload_n dX9_sumsCome_1 rfl ?_
  refine E_getI dX9_sumsCome_2 fl_X9_187 rfl rfl ?_
  rw [f1]
  refine E_putI dX9_sumsCome_5 fl_X9_209 rfl rfl ?_
  refine E_aload_n dX9_sumsCome_8 rfl ?_
  refine E_aload_n dX9_sumsCome_9 rfl ?_
  refine E_getI dX9_sumsCome_10 fl_X9_134 rfl rfl ?_
  rw [show (sI h 59 38 (nI (b.2.2.2.2.2 0).length)).1 59 27 = b.1 11 by rw [← g11]; simp [sI, u2]]
  refine E_putI dX9_sumsCome_13 fl_X9_206 rfl rfl ?_
  refine E_ic 0 dX9_sumsCome_16 (by decide) ?_
  refine E_istore_n dX9_sumsCome_17 (by decide) ?_
  exact loop _ 0 _ (Nat.le_refl _) (by omega) rfl (fun x q => by funext j; simp [sI, u2, q]) (fun s q => by simp [sI, u2, q]) (fun _ _ _ => rfl) (by simp [sI, u2]) (fun j hj => absurd hj (by omega))
theorem nc_put {b : Ab} {h : Hp} {x : Nat} (M : MRep b h) (hw : (b.2.2.1 0).length + 2 ≤ 16) : MRep (aN b 0 (b.2.2.1 0 ++ [2 * x + 1, 2 * x])) (sI (sI (sI h 66 (b.2.2.1 0).length (nI (2 * x + 1))) 66 ((b.2.2.1 0).length + 1) (nI (2 * x))) 59 12 (nI ((b.2.2.1 0).length + 2))) := by
  have hW := M.2.2.2.1
  refine M.wait ⟨by simp [sI, u2], by simp; omega, fun j hj => ?_⟩ rfl (fun y r1 r2 => by funext j; simp [sI, u2, r1, r2]) (fun s r => by simp [sI, u2, r])
  rw [List.length_append] at hj
  have hj : j < (b.2.2.1 0).length + 2 := hj
  by_cases z : j < (b.2.2.1 0).length
  · have z1 : j ≠ (b.2.2.1 0).length := by omega
    have z2 : j ≠ (b.2.2.1 0).length + 1 := by omega
    have z3 := hW.2.2 j z
    simp [sI, u2, z1, z2, List.getD, List.getElem?_append_left z] at z3 ⊢
    exact z3
  · rcases (show j = (b.2.2.1 0).length ∨ j = (b.2.2.1 0).length + 1 by omega) with rfl | rfl
    · simp [sI, u2, List.getD]
    · simp [sI, u2, List.getD]
theorem m_nodeComes {b : Ab} {h : Hp} (M : MRep b h) (hs : eOk (b.1 1)) {x : Nat} (hx1 : 1 ≤ x) (hx2 : x < 16) (hx : b.1 11 = nI x) (hw : (b.2.2.1 0).length + 2 ≤ 16) : Sp0 mX9_nodeComes [.ref 59] SH h (fun v h' => v = none ∧ MRep (takeNodeA b x (b.2.1 3)) h' ∧ MF h h') := by
  have g11 : h.1 59 27 = b.1 11 := M.1 11 (by decide)
  rw [hx] at g11
  have tl := tg_lt b
  have hnd : ndR b (nI (tg b)) (nI x) = nodeF (tF b) x := by rw [ndR, if_pos ⟨eOk_nI tl, by rw [nI_toInt (by omega)]; omega, by rw [nI_toInt (by omega)]; omega⟩, nI_clamp (by omega), nI_clamp (by omega)]; rfl
  refine Sp0.of (by decide) (Nat.le_of_ble_eq_true rfl) ?_
  show E mX9_nodeComes none _ 0 [some (.ref 59)] [] SH h 0 0
  refine E_aload_n dX9_nodeComes_0 rfl ?_
  refine E_aload_n dX9_nodeComes_1 rfl ?_
  refine cV0 (N := mX9_target) dX9_nodeComes_2 cn_X9_target lk_X9_157 ⟨Nat.le_of_ble_eq_true rfl, Nat.le_of_ble_eq_true rfl⟩ rfl rfl (Nat.le_of_ble_eq_true rfl) ⟨rfl, rfl⟩ (m_target M hs) (fun v2 h2 ⟨hv2, hh2⟩ => ?_)
  rw [hv2, hh2]
  refine E_aload_n dX9_nodeComes_5 rfl ?_
  refine E_getI dX9_nodeComes_6 fl_X9_134 rfl rfl ?_
  rw [g11]
  refine cV2 (N := mX9_node) dX9_nodeComes_9 cn_X9_node lk_X9_167 ⟨Nat.le_of_ble_eq_true rfl, Nat.le_of_ble_eq_true rfl⟩ rfl rfl (Nat.le_of_ble_eq_true rfl) ⟨rfl, rfl⟩ (m_node M _ _) (fun v3 h3 ⟨hv3, F3⟩ => ?_)
  rw [hv3, hnd]
  have M3 := M.scr F3
  have F3' := F3.mf
  have l3 : h3.2.1 59 28 = b.2.1 3 := M3.2.1 3 (by decide) (by decide)
  have k11 : h3.1 59 27 = nI x := (M3.1 11 (by decide)).trans hx
  have q11 : h3.2.2 59 11 = some 66 := M3.2.2.1.2.2.2.2.2.2.1
  have q13 : h3.2.2 59 13 = some 67 := M3.2.2.1.2.2.2.2.2.2.2.1
  have hW := M3.2.2.2.1
  refine E_aload_n dX9_nodeComes_12 rfl ?_
  refine E_getL dX9_nodeComes_13 fl_X9_171 rfl rfl ?_
  rw [l3]
  refine E_lcmp dX9_nodeComes_16 ?_
  refine E_if_ne 21 dX9_nodeComes_17 (by decide) (fun c_17 => ?_) (fun c_17 => ?_)
  · have hne : ¬ nodeF (tF b) x = b.2.1 3 := fun q => c_17 ((lg_cmp_eq _ _).mpr q)
    refine E_aload_n dX9_nodeComes_21 rfl ?_
    refine E_getI dX9_nodeComes_22 fl_X9_134 rfl rfl ?_
    refine E_bi 8 dX9_nodeComes_25 (by decide) ?_
    rw [k11, show (8 : Int32) = nI 8 by decide]
    refine E_icmp_ge 77 dX9_nodeComes_27 (by decide) (fun c_27 => ?_) (fun c_27 => ?_)
    · refine E_aload_n dX9_nodeComes_77 rfl ?_
      refine E_getR dX9_nodeComes_78 fl_X9_33 rfl q13 rfl ?_
      refine E_aload_n dX9_nodeComes_81 rfl ?_
      refine E_getI dX9_nodeComes_82 fl_X9_134 rfl rfl ?_
      refine E_bi 8 dX9_nodeComes_85 (by decide) ?_
      refine E_isub dX9_nodeComes_87 ?_
      rw [k11, show (8 : Int32) = nI 8 by decide, pk_sub ((nI_leI (by omega) (by omega)).mp c_27)]
      refine E_ic 1 dX9_nodeComes_88 (by decide) ?_
      refine E_zast dX9_nodeComes_89 rfl (vp_in_nI (by omega) (by omega)) ?_
      have hx8 := (nI_leI (by omega) (by omega)).mp c_27
      rw [nI_clamp (by omega)]
      exact E_retv dX9_nodeComes_90 rfl (Nat.le_of_ble_eq_true rfl) (Nat.le_of_ble_eq_true rfl) ⟨rfl, rfl, by rw [takeNodeA, if_neg hne, if_neg (by omega)]; exact M3.flag (j := 0) (by decide) (by omega) true, MF_sI F3' (by decide)⟩
    · have hx8 : x < 8 := Nat.lt_of_not_le fun q => c_27 (nI_le q (by omega))
      refine E_aload_n dX9_nodeComes_30 rfl ?_
      refine E_getR dX9_nodeComes_31 fl_X9_30 rfl q11 rfl ?_
      refine E_aload_n dX9_nodeComes_34 rfl ?_
      refine E_getI dX9_nodeComes_35 fl_X9_106 rfl rfl ?_
      refine E_ic 2 dX9_nodeComes_38 (by decide) ?_
      refine E_aload_n dX9_nodeComes_39 rfl ?_
      refine E_getI dX9_nodeComes_40 fl_X9_134 rfl rfl ?_
      refine E_imul dX9_nodeComes_43 ?_
      refine E_ic 1 dX9_nodeComes_44 (by decide) ?_
      refine E_iadd dX9_nodeComes_45 ?_
      rw [hW.1, k11, show (2 : Int32) = nI 2 by decide, pk_mul, nI_1]
      refine E_iast dX9_nodeComes_46 rfl (vp_in_nI (by omega) (by omega)) ?_
      rw [nI_clamp (by omega)]
      refine E_aload_n dX9_nodeComes_47 rfl ?_
      refine E_getR dX9_nodeComes_48 fl_X9_30 rfl q11 rfl ?_
      refine E_aload_n dX9_nodeComes_51 rfl ?_
      refine E_getI dX9_nodeComes_52 fl_X9_106 rfl rfl ?_
      refine E_ic 1 dX9_nodeComes_55 (by decide) ?_
      refine E_iadd dX9_nodeComes_56 ?_
      refine E_ic 2 dX9_nodeComes_57 (by decide) ?_
      refine E_aload_n dX9_nodeComes_58 rfl ?_
      refine E_getI dX9_nodeComes_59 fl_X9_134 rfl rfl ?_
      refine E_imul dX9_nodeComes_62 ?_
      rw [show (sI h3 66 (b.2.2.1 0).length (nI (2 * x + 1))).1 59 12 = nI (b.2.2.1 0).length by rw [← hW.1]; simp [sI, u2], show (sI h3 66 (b.2.2.1 0).length (nI (2 * x + 1))).1 59 27 = nI x by rw [← k11]; simp [sI, u2], show (2 : Int32) = nI 2 by decide, pk_mul, nI_1]
      refine E_iast dX9_nodeComes_63 rfl (vp_in_nI (by omega) (by omega)) ?_
      rw [nI_clamp (by omega)]
      refine E_aload_n dX9_nodeComes_64 rfl ?_
      refine E_dup rfl dX9_nodeComes_65 ?_
      refine E_getI dX9_nodeComes_66 fl_X9_106 rfl rfl ?_
      rw [show (sI (sI h3 66 (b.2.2.1 0).length (nI (2 * x + 1))) 66 ((b.2.2.1 0).length + 1) (nI (2 * x))).1 59 12 = nI (b.2.2.1 0).length by rw [← hW.1]; simp [sI, u2]]
      refine E_ic 2 dX9_nodeComes_69 (by decide) ?_
      refine E_iadd dX9_nodeComes_70 ?_
      rw [show (2 : Int32) = nI 2 by decide, nI_add]
      refine E_putI dX9_nodeComes_71 fl_X9_106 rfl rfl ?_
      refine E_goto 90 dX9_nodeComes_74 (by decide) ?_
      exact E_retv dX9_nodeComes_90 rfl (Nat.le_of_ble_eq_true rfl) (Nat.le_of_ble_eq_true rfl) ⟨rfl, rfl, by rw [takeNodeA, if_neg hne, if_pos hx8]; exact nc_put M3 hw, MF_sI (MF_sI (MF_sI F3' (by decide)) (by decide)) (by decide)⟩
  · exact E_retv dX9_nodeComes_20 rfl (Nat.le_of_ble_eq_true rfl) (Nat.le_of_ble_eq_true rfl) ⟨rfl, rfl, by rw [takeNodeA, if_pos ((lg_cmp_eq _ _).mp c_17)]; exact M3, F3'⟩

