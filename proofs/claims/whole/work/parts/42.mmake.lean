/-! the model: what is made -/
theorem blks_at {B K j : Nat} {xs : List Nat} (h : j < xs.length / B) : (blks B K xs).getD j (0, 0) = blk B K xs j := by simp [blks, List.getD, h]
def mSumT (b : Ab) (f B K : Nat) : Ab := msgA (aI (aS b 0 (blks B K ((tF b f).getD []))) 11 (nI K)) (nI (tg b)) 2 (6 + (4 + nI K) * nI (blks B K ((tF b f).getD [])).length)
theorem ms_fin {b : Ab} {h0 h h3 : Hp} {f B K : Nat} {x1 x2 : Option Value} (M : MRep b h) (F0 : MF h0 h) (hs : eOk (b.1 1)) (hK : b.1 20 = nI K) (h2 : h3.2.2 = h.2.2) (h1 : ∀ x, x ≠ 59 → h3.1 x = h.1 x) (hz : ∀ s, s ≠ 35 → h3.1 59 s = h.1 59 s) (h4 : ∀ x, x ≠ 71 → x ≠ 72 → h3.2.1 x = h.2.1 x) (hL : (blks B K ((tF b f).getD [])).length ≤ 500) (h35 : h3.1 59 35 = nI (blks B K ((tF b f).getD [])).length) (hr : ∀ j, j < (blks B K ((tF b f).getD [])).length → h3.2.1 71 j = ((blks B K ((tF b f).getD [])).getD j (0, 0)).1 ∧ h3.2.1 72 j = ((blks B K ((tF b f).getD [])).getD j (0, 0)).2) : E mX9_makesSums none (fun v sh' h' => sh' = SH ∧ v = none ∧ MRep (mSumT b f B K) h' ∧ MF h0 h') 135 [some (.ref 59), x1, x2] [] SH h3 0 0 := by
  rw [mSumT]
  generalize blks B K ((tF b f).getD []) = L at hL h35 hr
  have M3 : MRep (aS b 0 L) h3 := M.sums (j := 0) (by decide) ⟨h35, hL, hr⟩ h2 h1 hz h4
  have F3 : MF h0 h3 := F0.tr ⟨h2, fun x q => ⟨h1 x (by omega), h4 x (by omega) (by omega)⟩⟩
  have g20 : h3.1 59 18 = nI K := (M3.1 20 (by decide)).trans hK
  have M4 := M3.setI 11 (nI K) (by decide)
  have F4 : MF h0 (sI h3 59 27 (nI K)) := MF_sI F3 (by decide)
  have g20' : (sI h3 59 27 (nI K)).1 59 18 = nI K := (M4.1 20 (by decide)).trans hK
  have g35 : (sI h3 59 27 (nI K)).1 59 35 = nI L.length := by rw [← h35]; simp [sI, u2]
  refine E_aload_n dX9_makesSums_135 rfl ?_
  refine E_aload_n dX9_makesSums_136 rfl ?_
  refine E_getI dX9_makesSums_137 fl_X9_184 rfl rfl ?_
  rw [g20]
  refine E_putI dX9_makesSums_140 fl_X9_134 rfl rfl ?_
  refine E_aload_n dX9_makesSums_143 rfl ?_
  refine E_aload_n dX9_makesSums_144 rfl ?_
  refine cV0 (N := mX9_target) dX9_makesSums_145 cn_X9_target lk_X9_157 ⟨Nat.le_of_ble_eq_true rfl, Nat.le_of_ble_eq_true rfl⟩ rfl rfl (Nat.le_of_ble_eq_true rfl) ⟨rfl, rfl⟩ (m_target M4 hs) (fun v5 h5 ⟨hv5, hh5⟩ => ?_)
  rw [hv5, hh5]
  refine E_ic 2 dX9_makesSums_148 (by decide) ?_
  refine E_bi 6 dX9_makesSums_149 (by decide) ?_
  refine E_ic 4 dX9_makesSums_151 (by decide) ?_
  refine E_aload_n dX9_makesSums_152 rfl ?_
  refine E_getI dX9_makesSums_153 fl_X9_184 rfl rfl ?_
  rw [g20']
  refine E_iadd dX9_makesSums_156 ?_
  refine E_aload_n dX9_makesSums_157 rfl ?_
  refine E_getI dX9_makesSums_158 fl_X9_187 rfl rfl ?_
  rw [g35]
  refine E_imul dX9_makesSums_161 ?_
  refine E_iadd dX9_makesSums_162 ?_
  refine cV3 (N := mX9_message) dX9_makesSums_163 cn_X9_message lk_X9_163 ⟨Nat.le_of_ble_eq_true rfl, Nat.le_of_ble_eq_true rfl⟩ rfl rfl (Nat.le_of_ble_eq_true rfl) ⟨rfl, rfl⟩ (m_message M4 _ _ _) (fun v6 h6 ⟨hv6, M6, F6⟩ => ?_)
  rw [hv6]
  exact E_retv dX9_makesSums_166 rfl (Nat.le_of_ble_eq_true rfl) (Nat.le_of_ble_eq_true rfl) ⟨rfl, rfl, M6, F4.tr F6⟩
theorem ms_tail {b : Ab} {h0 h : Hp} {f B K : Nat} {x1 x2 : Option Value} (M : MRep b h) (F0 : MF h0 h) (hs : eOk (b.1 1)) (hf : f < 8) (hF : b.1 19 = nI f) (hB : b.1 16 = nI B) (hB0 : 0 < B) (hB2 : B ≤ 64) (hK : b.1 20 = nI K) (hK2 : K ≤ 8) : E mX9_makesSums none (fun v sh' h' => sh' = SH ∧ v = none ∧ MRep (mSumT b f B K) h' ∧ MF h0 h') 30 [some (.ref 59), x1, x2] [] SH h 0 0 := by
  obtain ⟨q0, q1, q2, q3, q9, q10, q11, q13, q14, q22, q29, q33, q34, q36, q37, q40⟩ := id M.2.2.1
  have tl := tg_lt b
  have fm := M.fm tl hf
  have g16 : h.1 59 6 = b.1 16 := M.1 16 (by decide)
  have g19 : h.1 59 16 = b.1 19 := M.1 19 (by decide)
  have g20 : h.1 59 18 = b.1 20 := M.1 20 (by decide)
  rw [hF] at g19
  rw [hB] at g16
  rw [hK] at g20
  generalize hxs : (tF b f).getD [] = xs
  have hxs' : (b.2.2.2.1 (tg b) f).getD [] = xs := hxs
  rw [hxs'] at fm
  obtain ⟨fm1, hl, fB⟩ := fm
  have bl : (blks B K xs).length = xs.length / B := blks_len B K xs
  have hdl : xs.length / B ≤ xs.length := Nat.div_le_self _ _
  have loop : ∀ (n i : Nat) (h3 : Hp), xs.length / B - i ≤ n → i ≤ xs.length / B → h3.2.2 = h.2.2 → (∀ x, x ≠ 59 → h3.1 x = h.1 x) → (∀ s, s ≠ 35 → h3.1 59 s = h.1 59 s) → (∀ x, x ≠ 71 → x ≠ 72 → h3.2.1 x = h.2.1 x) → h3.1 59 35 = nI (xs.length / B) → (∀ j, j < i → h3.2.1 71 j = (blk B K xs j).1 ∧ h3.2.1 72 j = (blk B K xs j).2) → E mX9_makesSums none (fun v sh' h' => sh' = SH ∧ v = none ∧ MRep (mSumT b f B K) h' ∧ MF h0 h') 59 [some (.ref 59), some (.int (nI (8 * tg b + f))), some (.int (nI i))] [] SH h3 0 0 := by
    intro n
    have fin : ∀ (h3 : Hp), h3.2.2 = h.2.2 → (∀ x, x ≠ 59 → h3.1 x = h.1 x) → (∀ s, s ≠ 35 → h3.1 59 s = h.1 59 s) → (∀ x, x ≠ 71 → x ≠ 72 → h3.2.1 x = h.2.1 x) → h3.1 59 35 = nI (xs.length / B) → (∀ j, j < xs.length / B → h3.2.1 71 j = (blk B K xs j).1 ∧ h3.2.1 72 j = (blk B K xs j).2) → E mX9_makesSums none (fun v sh' h' => sh' = SH ∧ v = none ∧ MRep (mSumT b f B K) h' ∧ MF h0 h') 59 [some (.ref 59), some (.int (nI (8 * tg b + f))), some (.int (nI (xs.length / B)))] [] SH h3 0 0 := by
      intro h3 e2 e1 e0 e4 e35 er
      refine E_iload_n dX9_makesSums_59 rfl ?_
      refine E_aload_n dX9_makesSums_60 rfl ?_
      refine E_getI dX9_makesSums_61 fl_X9_187 rfl rfl ?_
      rw [e35]
      refine E_icmp_ge 135 dX9_makesSums_64 (by decide) (fun c_64 => ?_) (fun c_64 => absurd (nI_le (by omega) (by omega)) c_64)
      exact ms_fin M F0 hs hK e2 e1 e0 e4 (by rw [hxs, bl]; omega) (by rw [hxs, bl]; exact e35) (fun j hj => by rw [hxs, bl] at hj; rw [hxs, blks_at hj]; exact er j hj)
    induction n with
    | zero =>
      intro i h3 r1 r2 e2 e1 e0 e4 e35 er
      have e : i = xs.length / B := by omega
      subst e
      exact fin h3 e2 e1 e0 e4 e35 er
    | succ n ih =>
      intro i h3 r1 r2 e2 e1 e0 e4 e35 er
      by_cases e : i = xs.length / B
      · subst e
        exact fin h3 e2 e1 e0 e4 e35 er
      · have hi : i < xs.length / B := by omega
        have hiB : (i + 1) * B ≤ xs.length := (Nat.le_div_iff_mul_le hB0).mp hi
        have hBi : B * i + B ≤ xs.length := by rw [Nat.mul_comm B i, ← Nat.succ_mul]; exact hiB
        have pl := part_len (xs := xs) (p := B * i) (n := B) hBi
        have q0' : h3.2.2 59 0 = some 60 := by rw [e2]; exact q0
        have q33' : h3.2.2 59 33 = some 71 := by rw [e2]; exact q33
        have q34' : h3.2.2 59 34 = some 72 := by rw [e2]; exact q34
        have k16 : h3.1 59 6 = nI B := by rw [e0 6 (by decide)]; exact g16
        have k20 : h3.1 59 18 = nI K := by rw [e0 18 (by decide)]; exact g20
        have seg : BSeg h3 60 (500 * (8 * tg b + f) + B * i) ((xs.drop (B * i)).take B) := ((fB.off (e1 60 (by decide))).drop (B * i)).take B
        have hW : lN (wk ((xs.drop (B * i)).take B).length (fun j => ((xs.drop (B * i)).take B).getD j 0)) = (blk B K xs i).1 := by rw [pl, blk, wk_congr (fun i hi => getD_part hi)]
        have hS : strongF (dig ((xs.drop (B * i)).take B)) K = (blk B K xs i).2 := rfl
        have seg2 : ∀ v, BSeg (sL h3 71 i v) 60 (500 * (8 * tg b + f) + B * i) ((xs.drop (B * i)).take B) := fun v => seg
        refine E_iload_n dX9_makesSums_59 rfl ?_
        refine E_aload_n dX9_makesSums_60 rfl ?_
        refine E_getI dX9_makesSums_61 fl_X9_187 rfl rfl ?_
        rw [e35]
        refine E_icmp_ge 135 dX9_makesSums_64 (by decide) (fun c_64 => absurd c_64 (nI_ge hi (by omega))) (fun c_64 => ?_)
        refine E_aload_n dX9_makesSums_67 rfl ?_
        refine E_getR dX9_makesSums_68 fl_X9_46 rfl (by assumption) rfl ?_
        refine E_iload_n dX9_makesSums_71 rfl ?_
        refine E_aload_n dX9_makesSums_72 rfl ?_
        refine E_getR dX9_makesSums_73 fl_X9_7 rfl (by assumption) rfl ?_
        refine E_si 500 dX9_makesSums_76 (by decide) ?_
        refine E_iload_n dX9_makesSums_79 rfl ?_
        refine E_imul dX9_makesSums_80 ?_
        refine E_aload_n dX9_makesSums_81 rfl ?_
        refine E_getI dX9_makesSums_82 fl_X9_97 rfl rfl ?_
        refine E_iload_n dX9_makesSums_85 rfl ?_
        refine E_imul dX9_makesSums_86 ?_
        refine E_iadd dX9_makesSums_87 ?_
        refine E_aload_n dX9_makesSums_88 rfl ?_
        refine E_getI dX9_makesSums_89 fl_X9_97 rfl rfl ?_
        rw [k16, show (500 : Int32) = nI 500 by decide, pk_mul, pk_mul, nI_add, show nI B = nI ((xs.drop (B * i)).take B).length by rw [pl]]
        refine cS3 (N := mX9_weakOf) dX9_makesSums_92 cn_X9_weakOf lk_X9_87 ⟨Nat.le_of_ble_eq_true rfl, Nat.le_of_ble_eq_true rfl⟩ (Nat.le_of_ble_eq_true rfl) ⟨rfl, rfl⟩ (m_weakOf (m := 8000) rfl (by decide) seg (by rw [pl]; omega) (by rw [pl]; omega)) (fun v4 h4 ⟨hv4, hh4⟩ => ?_)
        rw [hv4, hh4, hW]
        refine E_last dX9_makesSums_95 rfl (vp_in_nI (by omega) (by omega)) ?_
        rw [nI_clamp (by omega)]
        refine E_aload_n dX9_makesSums_96 rfl ?_
        refine E_getR dX9_makesSums_97 fl_X9_49 rfl (by assumption) rfl ?_
        refine E_iload_n dX9_makesSums_100 rfl ?_
        refine E_aload_n dX9_makesSums_101 rfl ?_
        refine E_getR dX9_makesSums_102 fl_X9_7 rfl (by assumption) rfl ?_
        refine E_si 500 dX9_makesSums_105 (by decide) ?_
        refine E_iload_n dX9_makesSums_108 rfl ?_
        refine E_imul dX9_makesSums_109 ?_
        refine E_aload_n dX9_makesSums_110 rfl ?_
        refine E_getI dX9_makesSums_111 fl_X9_97 rfl rfl ?_
        refine E_iload_n dX9_makesSums_114 rfl ?_
        refine E_imul dX9_makesSums_115 ?_
        refine E_iadd dX9_makesSums_116 ?_
        refine E_aload_n dX9_makesSums_117 rfl ?_
        refine E_getI dX9_makesSums_118 fl_X9_97 rfl rfl ?_
        refine E_aload_n dX9_makesSums_121 rfl ?_
        refine E_getI dX9_makesSums_122 fl_X9_184 rfl rfl ?_
        rw [show (sL h3 71 i (blk B K xs i).1).1 59 6 = nI B from k16, show (sL h3 71 i (blk B K xs i).1).1 59 18 = nI K from k20, show (500 : Int32) = nI 500 by decide, pk_mul, pk_mul, nI_add, show nI B = nI ((xs.drop (B * i)).take B).length by rw [pl]]
        refine cS4 (N := mX9_strong) dX9_makesSums_125 cn_X9_strong lk_X9_190 ⟨Nat.le_of_ble_eq_true rfl, Nat.le_of_ble_eq_true rfl⟩ (Nat.le_of_ble_eq_true rfl) ⟨rfl, rfl⟩ (m_strong (m := 8000) rfl (by decide) (seg2 _) (by rw [pl]; omega) hK2) (fun v5 h5 ⟨hv5, hh5⟩ => ?_)
        rw [hv5, hh5, hS]
        refine E_last dX9_makesSums_128 rfl (vp_in_nI (by omega) (by omega)) ?_
        rw [nI_clamp (by omega)]
        refine E_iinc dX9_makesSums_129 rfl (by decide) ?_
        refine E_goto 59 dX9_makesSums_132 (by decide) ?_
        rw [nI_inc]
        refine ih (i + 1) _ (by omega) (by omega) e2 e1 e0 (fun x z1 z2 => by rw [← e4 x z1 z2]; funext j; simp [sL, u2, z1, z2]) e35 (fun j hj => ?_)
        by_cases z : j = i
        · subst z; simp [sL, u2]
        · have := er j (by omega)
          simp [sL, u2, z, this]
  refine E_bi 8 dX9_makesSums_30 (by decide) ?_
  refine E_aload_n dX9_makesSums_32 rfl ?_
  refine cV0 (N := mX9_target) dX9_makesSums_33 cn_X9_target lk_X9_157 ⟨Nat.le_of_ble_eq_true rfl, Nat.le_of_ble_eq_true rfl⟩ rfl rfl (Nat.le_of_ble_eq_true rfl) ⟨rfl, rfl⟩ (m_target M hs) (fun v2 h2 ⟨hv2, hh2⟩ => ?_)
  rw [hv2, hh2]
  refine E_imul dX9_makesSums_36 ?_
  refine E_aload_n dX9_makesSums_37 rfl ?_
  refine E_getI dX9_makesSums_38 fl_X9_112 rfl rfl ?_
  rw [g19, show (8 : Int32) = nI 8 by decide, pk_mul]
  refine E_iadd dX9_makesSums_41 ?_
  rw [nI_add]
  refine E_istore_n dX9_makesSums_42 (by decide) ?_
  refine E_aload_n dX9_makesSums_43 rfl ?_
  refine E_aload_n dX9_makesSums_44 rfl ?_
  refine E_iload_n dX9_makesSums_45 rfl ?_
  refine cV1 (N := mX9_sizeOf) dX9_makesSums_46 cn_X9_sizeOf lk_X9_69 ⟨Nat.le_of_ble_eq_true rfl, Nat.le_of_ble_eq_true rfl⟩ rfl rfl (Nat.le_of_ble_eq_true rfl) ⟨rfl, rfl⟩ (m_sizeOf q1 (by omega) fm1 (by rw [hxs']; exact hl)) (fun v3 h3 ⟨hv3, hh3⟩ => ?_)
  rw [hv3, hh3, hxs']
  refine E_aload_n dX9_makesSums_49 rfl ?_
  refine E_getI dX9_makesSums_50 fl_X9_97 rfl rfl ?_
  rw [g16]
  refine E_idiv (nI_ne0 hB0 (by omega)) dX9_makesSums_53 ?_
  rw [pk_div (by omega) hB0 (by omega)]
  refine E_putI dX9_makesSums_54 fl_X9_187 rfl rfl ?_
  refine E_ic 0 dX9_makesSums_57 (by decide) ?_
  refine E_istore_n dX9_makesSums_58 (by decide) ?_
  exact loop _ 0 _ (Nat.le_refl _) (by omega) rfl (fun x q => by funext j; simp [sI, u2, q]) (fun s q => by simp [sI, u2, q]) (fun _ _ _ => rfl) (by simp [sI, u2]) (fun j hj => absurd hj (by omega))
def mPick (b : Ab) : Ab := if b.1 19 = -2 then aI (aI (aI b 19 (ltd (b.2.2.2.2.1 0))) 21 0) 20 (b.1 17) else b
theorem m_makesSums {b : Ab} {h : Hp} (M : MRep b h) (hs : eOk (b.1 1)) {f B K : Nat} (hf : f < 8) (hF : (mPick b).1 19 = nI f) (hB : b.1 16 = nI B) (hB0 : 0 < B) (hB2 : B ≤ 64) (hK : (mPick b).1 20 = nI K) (hK2 : K ≤ 8) : Sp0 mX9_makesSums [.ref 59] SH h (fun v h' => v = none ∧ MRep (mSumT (mPick b) f B K) h' ∧ MF h h') := by
  have g17 : h.1 59 7 = b.1 17 := M.1 17 (by decide)
  have g19 : h.1 59 16 = b.1 19 := M.1 19 (by decide)
  refine Sp0.of (by decide) (Nat.le_of_ble_eq_true rfl) ?_
  show E mX9_makesSums none _ 0 [some (.ref 59), none, none] [] SH h 0 0
  by_cases h2 : b.1 19 = -2
  · rw [mPick, if_pos h2] at hF hK ⊢
    have M1 := M.setI 19 (ltd (b.2.2.2.2.1 0)) (by decide)
    have F1 : MF h (sI h 59 16 (ltd (b.2.2.2.2.1 0))) := MF_sI MF.rf (by decide)
    have M2 := M1.setI 21 0 (by decide)
    have F2 : MF h (sI (sI h 59 16 (ltd (b.2.2.2.2.1 0))) 59 17 0) := MF_sI F1 (by decide)
    have g17' : (sI (sI h 59 16 (ltd (b.2.2.2.2.1 0))) 59 17 0).1 59 7 = b.1 17 := M2.1 17 (by decide)
    have M3 := M2.setI 20 (b.1 17) (by decide)
    have F3 : MF h (sI (sI (sI h 59 16 (ltd (b.2.2.2.2.1 0))) 59 17 0) 59 18 (b.1 17)) := MF_sI F2 (by decide)
    refine E_aload_n dX9_makesSums_0 rfl ?_
    refine E_getI dX9_makesSums_1 fl_X9_112 rfl rfl ?_
    refine E_bi (-2) dX9_makesSums_4 (by decide) ?_
    rw [g19, h2]
    refine E_icmp_ne 30 dX9_makesSums_6 (by decide) (fun c_6 => absurd rfl c_6) (fun c_6 => ?_)
    refine E_aload_n dX9_makesSums_9 rfl ?_
    refine E_aload_n dX9_makesSums_10 rfl ?_
    refine cV0 (N := mX9_leastToDo) dX9_makesSums_11 cn_X9_leastToDo lk_X9_150 ⟨Nat.le_of_ble_eq_true rfl, Nat.le_of_ble_eq_true rfl⟩ rfl rfl (Nat.le_of_ble_eq_true rfl) ⟨rfl, rfl⟩ (m_leastToDo M) (fun v2 h2 ⟨hv2, hh2⟩ => ?_)
    rw [hv2, hh2]
    refine E_putI dX9_makesSums_14 fl_X9_112 rfl rfl ?_
    refine E_aload_n dX9_makesSums_17 rfl ?_
    refine E_ic 0 dX9_makesSums_18 (by decide) ?_
    refine E_putI dX9_makesSums_19 fl_X9_181 rfl rfl ?_
    refine E_aload_n dX9_makesSums_22 rfl ?_
    refine E_aload_n dX9_makesSums_23 rfl ?_
    refine E_getI dX9_makesSums_24 fl_X9_103 rfl rfl ?_
    rw [g17']
    refine E_putI dX9_makesSums_27 fl_X9_184 rfl rfl ?_
    exact ms_tail M3 F3 hs hf hF hB hB0 hB2 hK hK2
  · rw [mPick, if_neg h2] at hF hK ⊢
    refine E_aload_n dX9_makesSums_0 rfl ?_
    refine E_getI dX9_makesSums_1 fl_X9_112 rfl rfl ?_
    refine E_bi (-2) dX9_makesSums_4 (by decide) ?_
    rw [g19]
    refine E_icmp_ne 30 dX9_makesSums_6 (by decide) (fun c_6 => ?_) (fun c_6 => absurd c_6 h2)
    exact ms_tail M MF.rf hs hf hF hB hB0 hB2 hK hK2

