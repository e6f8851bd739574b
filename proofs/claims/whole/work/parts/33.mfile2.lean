/-! the model: trim, weak, node -/
theorem BSeg.take {h : Hp} {arr off : Nat} {xs : List Nat} (B : BSeg h arr off xs) (n : Nat) : BSeg h arr off (xs.take n) := by
  refine ⟨fun x hx => B.1 x (List.mem_of_mem_take hx), fun j hj => ?_⟩
  rw [List.length_take] at hj
  have hj1 : j < n := by omega
  rw [B.2 j (by omega)]
  simp [List.getD, List.getElem?_take, hj1]
theorem BSeg.drop {h : Hp} {arr off : Nat} {xs : List Nat} (B : BSeg h arr off xs) (p : Nat) : BSeg h arr (off + p) (xs.drop p) := by
  refine ⟨fun x hx => B.1 x (List.mem_of_mem_drop hx), fun j hj => ?_⟩
  simp at hj
  rw [Nat.add_assoc, B.2 (p + j) (by omega)]
  simp [List.getD, List.getElem?_drop]
theorem getD_part {xs : List Nat} {p n j : Nat} (h : j < n) : ((xs.drop p).take n).getD j 0 = xs.getD (p + j) 0 := by
  simp [List.getD, List.getElem?_take, List.getElem?_drop, h]
theorem part_len {xs : List Nat} {p n : Nat} (h : p + n ≤ xs.length) : ((xs.drop p).take n).length = n := by simp; omega
theorem wk_congr {k : Nat} {f g : Nat → Nat} (h : ∀ j, j < k → f j = g j) : wk k f = wk k g := by
  have e1 : ∀ t, t ≤ k → pS f t = pS g t := by
    intro t
    induction t with
    | zero => intro _; rfl
    | succ t ih => intro ht; simp only [pS]; rw [ih (by omega), h t (by omega)]
  have e2 : ∀ t, t ≤ k → wS k f t = wS k g t := by
    intro t
    induction t with
    | zero => intro _; rfl
    | succ t ih => intro ht; simp only [wS]; rw [ih (by omega), h t (by omega)]
  rw [wk, wk, e1 k (Nat.le_refl _), e2 k (Nat.le_refl _)]
theorem m_trim {b : Ab} {h : Hp} (M : MRep b h) (e f n : Int32) : Sp0 mX9_trim [.ref 59, .int e, .int f, .int n] SH h (fun v h' => v = some (.int (trR b e f n)) ∧ MRep (trS b e f n) h' ∧ MF h h') := by
  obtain ⟨q0, q1, q2, q3, q9, q10, q11, q13, q14, q22, q29, q33, q34, q36, q37, q40⟩ := id M.2.2.1
  refine Sp0.of (by decide) (Nat.le_of_ble_eq_true rfl) ?_
  show E mX9_trim none _ 0 [some (.ref 59), some (.int e), some (.int f), some (.int n), none] [] SH h 0 0
  by_cases hok : eOk e ∧ fOk f
  · obtain ⟨k, g, hk, hg, rfl, rfl⟩ := ok_of hok
    have fm := M.fm hk hg
    rw [trR, trS, Fo_nI b hk hg]
    cases hx : b.2.2.2.1 k g with
    | none =>
      rw [hx] at fm
      refine E_iload_n dX9_trim_0 rfl ?_
      refine E_iload_n dX9_trim_1 rfl ?_
      refine cS2 (N := mX9_isFile) dX9_trim_2 cn_X9_isFile lk_X9_65 ⟨Nat.le_of_ble_eq_true rfl, Nat.le_of_ble_eq_true rfl⟩ (Nat.le_of_ble_eq_true rfl) ⟨rfl, rfl⟩ (m_isFile _ _) (fun v2 h2 ⟨hv2, hh2⟩ => ?_)
      rw [hv2, hh2, if_pos hok]
      refine E_if_eq 43 dX9_trim_5 (by decide) (fun c_5 => absurd c_5 (by decide)) (fun c_5 => ?_)
      refine E_aload_n dX9_trim_8 rfl ?_
      refine E_getR dX9_trim_9 fl_X9_13 rfl (by assumption) rfl ?_
      refine E_bi 8 dX9_trim_12 (by decide) ?_
      refine E_iload_n dX9_trim_14 rfl ?_
      refine E_imul dX9_trim_15 ?_
      refine E_iload_n dX9_trim_16 rfl ?_
      refine E_iadd dX9_trim_17 ?_
      rw [show (8 : Int32) = nI 8 by decide, pk_mul, nI_add]
      refine E_iald dX9_trim_18 rfl (vp_in_nI (by omega) (by omega)) ?_
      rw [nI_clamp (by omega), fm.1]
      refine E_bi (-2) dX9_trim_19 (by decide) ?_
      refine E_icmp_eq 43 dX9_trim_21 (by decide) (fun c_21 => ?_) (fun c_21 => absurd rfl c_21)
      refine E_ic (-1) dX9_trim_43 (by decide) ?_
      exact E_reti dX9_trim_44 rfl rfl (Nat.le_of_ble_eq_true rfl) (Nat.le_of_ble_eq_true rfl) ⟨rfl, rfl, M, MF.rf⟩
    | some xs =>
      rw [hx] at fm
      have hl : xs.length ≤ 500 := fm.2.1
      have f1 : h.1 61 (8 * k + g) = nI xs.length := fm.1
      have fB : BSeg h 60 (500 * (8 * k + g)) xs := fm.2.2
      show E mX9_trim none (fun v sh' h' => sh' = SH ∧ v = some (.int (if 0 ≤ n.toInt ∧ n.toInt ≤ xs.length then nI xs.length else -1)) ∧ MRep (if 0 ≤ n.toInt ∧ n.toInt ≤ xs.length then setFo b (nI k) (nI g) (some (xs.take n.toNatClampNeg)) else b) h' ∧ MF h h') 0 _ [] SH h 0 0
      refine E_iload_n dX9_trim_0 rfl ?_
      refine E_iload_n dX9_trim_1 rfl ?_
      refine cS2 (N := mX9_isFile) dX9_trim_2 cn_X9_isFile lk_X9_65 ⟨Nat.le_of_ble_eq_true rfl, Nat.le_of_ble_eq_true rfl⟩ (Nat.le_of_ble_eq_true rfl) ⟨rfl, rfl⟩ (m_isFile _ _) (fun v2 h2 ⟨hv2, hh2⟩ => ?_)
      rw [hv2, hh2, if_pos hok]
      refine E_if_eq 43 dX9_trim_5 (by decide) (fun c_5 => absurd c_5 (by decide)) (fun c_5 => ?_)
      refine E_aload_n dX9_trim_8 rfl ?_
      refine E_getR dX9_trim_9 fl_X9_13 rfl (by assumption) rfl ?_
      refine E_bi 8 dX9_trim_12 (by decide) ?_
      refine E_iload_n dX9_trim_14 rfl ?_
      refine E_imul dX9_trim_15 ?_
      refine E_iload_n dX9_trim_16 rfl ?_
      refine E_iadd dX9_trim_17 ?_
      rw [show (8 : Int32) = nI 8 by decide, pk_mul, nI_add]
      refine E_iald dX9_trim_18 rfl (vp_in_nI (by omega) (by omega)) ?_
      rw [nI_clamp (by omega), f1]
      refine E_bi (-2) dX9_trim_19 (by decide) ?_
      refine E_icmp_eq 43 dX9_trim_21 (by decide) (fun c_21 => absurd (nI_pos (n := xs.length) (by omega)) (fun z => z (by rw [c_21]; decide))) (fun c_21 => ?_)
      refine E_iload_n dX9_trim_24 rfl ?_
      refine E_if_lt 43 dX9_trim_25 (by decide) (fun c_25 => ?_) (fun c_25 => ?_)
      · refine E_ic (-1) dX9_trim_43 (by decide) ?_
        exact E_reti dX9_trim_44 rfl rfl (Nat.le_of_ble_eq_true rfl) (Nat.le_of_ble_eq_true rfl) ⟨rfl, by rw [if_neg (fun z => by rw [i_lt, i_0] at c_25; omega)], by rw [if_neg (fun z => by rw [i_lt, i_0] at c_25; omega)]; exact M, MF.rf⟩
      · refine E_iload_n dX9_trim_28 rfl ?_
        refine E_aload_n dX9_trim_29 rfl ?_
        refine E_getR dX9_trim_30 fl_X9_13 rfl (by assumption) rfl ?_
        refine E_bi 8 dX9_trim_33 (by decide) ?_
        refine E_iload_n dX9_trim_35 rfl ?_
        refine E_imul dX9_trim_36 ?_
        refine E_iload_n dX9_trim_37 rfl ?_
        refine E_iadd dX9_trim_38 ?_
        rw [show (8 : Int32) = nI 8 by decide, pk_mul, nI_add]
        refine E_iald dX9_trim_39 rfl (vp_in_nI (by omega) (by omega)) ?_
        rw [nI_clamp (by omega), f1]
        refine E_icmp_le 45 dX9_trim_40 (by decide) (fun c_40 => ?_) (fun c_40 => ?_)
        · obtain ⟨j, hj, rfl⟩ := nI_of c_25
          have hj2 : j ≤ xs.length := (nI_leI hj (by omega)).mp c_40
          rw [nI_clamp hj]
          refine E_aload_n dX9_trim_45 rfl ?_
          refine E_getR dX9_trim_46 fl_X9_13 rfl (by assumption) rfl ?_
          refine E_bi 8 dX9_trim_49 (by decide) ?_
          refine E_iload_n dX9_trim_51 rfl ?_
          refine E_imul dX9_trim_52 ?_
          refine E_iload_n dX9_trim_53 rfl ?_
          refine E_iadd dX9_trim_54 ?_
          rw [show (8 : Int32) = nI 8 by decide, pk_mul, nI_add]
          refine E_iald dX9_trim_55 rfl (vp_in_nI (by omega) (by omega)) ?_
          rw [nI_clamp (by omega), f1]
          refine E_istore dX9_trim_56 (by decide) ?_
          refine E_aload_n dX9_trim_58 rfl ?_
          refine E_getR dX9_trim_59 fl_X9_13 rfl (by assumption) rfl ?_
          refine E_bi 8 dX9_trim_62 (by decide) ?_
          refine E_iload_n dX9_trim_64 rfl ?_
          refine E_imul dX9_trim_65 ?_
          refine E_iload_n dX9_trim_66 rfl ?_
          refine E_iadd dX9_trim_67 ?_
          refine E_iload_n dX9_trim_68 rfl ?_
          rw [show (8 : Int32) = nI 8 by decide, pk_mul, nI_add]
          refine E_iast dX9_trim_69 rfl (vp_in_nI (by omega) (by omega)) ?_
          rw [nI_clamp (by omega)]
          refine E_iload dX9_trim_70 rfl ?_
          exact E_reti dX9_trim_72 rfl rfl (Nat.le_of_ble_eq_true rfl) (Nat.le_of_ble_eq_true rfl) ⟨rfl, by rw [if_pos (by rw [nI_toInt hj]; omega)], by rw [if_pos (by rw [nI_toInt hj]; omega), setFo_nI b hk hg]; exact M.file (o := some (xs.take j)) hk hg (FilF.rf.sz _) (by simp [sI, u2, szI]; rw [Nat.min_eq_left hj2]) (by simp; omega) (BSeg.off (BSeg.take fB j) (by funext y; simp [sI, u2])), (FilF.rf.sz _).mf⟩
        · refine E_ic (-1) dX9_trim_43 (by decide) ?_
          exact E_reti dX9_trim_44 rfl rfl (Nat.le_of_ble_eq_true rfl) (Nat.le_of_ble_eq_true rfl) ⟨rfl, by rw [if_neg (fun z => c_40 (by rw [i_le, nI_toInt (by omega)]; exact z.2))], by rw [if_neg (fun z => c_40 (by rw [i_le, nI_toInt (by omega)]; exact z.2))]; exact M, MF.rf⟩
  · rw [trR, trS, Fo_bad hok]
    refine E_iload_n dX9_trim_0 rfl ?_
    refine E_iload_n dX9_trim_1 rfl ?_
    refine cS2 (N := mX9_isFile) dX9_trim_2 cn_X9_isFile lk_X9_65 ⟨Nat.le_of_ble_eq_true rfl, Nat.le_of_ble_eq_true rfl⟩ (Nat.le_of_ble_eq_true rfl) ⟨rfl, rfl⟩ (m_isFile _ _) (fun v2 h2 ⟨hv2, hh2⟩ => ?_)
    rw [hv2, hh2, if_neg hok]
    refine E_if_eq 43 dX9_trim_5 (by decide) (fun c_5 => ?_) (fun c_5 => absurd rfl c_5)
    refine E_ic (-1) dX9_trim_43 (by decide) ?_
    exact E_reti dX9_trim_44 rfl rfl (Nat.le_of_ble_eq_true rfl) (Nat.le_of_ble_eq_true rfl) ⟨rfl, rfl, M, MF.rf⟩
theorem neg2 : ∀ j, j ≤ 64 → (-2 - nI j : Int32) < 0 := by
  have : ∀ j, j < 65 → (-2 - nI j : Int32) < 0 := by decide
  exact fun j h => this j (by omega)
theorem m_weak {b : Ab} {h : Hp} (M : MRep b h) (e f p n : Int32) : Sp0 mX9_weak [.ref 59, .int e, .int f, .int p, .int n] SH h (fun v h' => v = some (.long (wkR b e f p n)) ∧ h' = h) := by
  obtain ⟨q0, q1, q2, q3, q9, q10, q11, q13, q14, q22, q29, q33, q34, q36, q37, q40⟩ := id M.2.2.1
  have h1 : (1 : Int32).toInt = 1 := by decide
  have h64 : (64 : Int32).toInt = 64 := by decide
  refine Sp0.of (by decide) (Nat.le_of_ble_eq_true rfl) ?_
  show E mX9_weak none _ 0 [some (.ref 59), some (.int e), some (.int f), some (.int p), some (.int n)] [] SH h 0 0
  by_cases hok : eOk e ∧ fOk f
  · obtain ⟨k, g, hk, hg, rfl, rfl⟩ := ok_of hok
    have fm := M.fm hk hg
    rw [wkR, Fo_nI b hk hg]
    cases hx : b.2.2.2.1 k g with
    | none =>
      rw [hx] at fm
      have f1 : h.1 61 (8 * k + g) = -2 := fm.1
      refine E_iload_n dX9_weak_0 rfl ?_
      refine E_iload_n dX9_weak_1 rfl ?_
      refine cS2 (N := mX9_isFile) dX9_weak_2 cn_X9_isFile lk_X9_65 ⟨Nat.le_of_ble_eq_true rfl, Nat.le_of_ble_eq_true rfl⟩ (Nat.le_of_ble_eq_true rfl) ⟨rfl, rfl⟩ (m_isFile _ _) (fun v2 h2 ⟨hv2, hh2⟩ => ?_)
      rw [hv2, hh2, if_pos hok]
      refine E_if_eq 43 dX9_weak_5 (by decide) (fun c_5 => absurd c_5 (by decide)) (fun c_5 => ?_)
      refine E_iload dX9_weak_8 rfl ?_
      refine E_ic 1 dX9_weak_10 (by decide) ?_
      refine E_icmp_lt 43 dX9_weak_11 (by decide) (fun c_11 => ?_) (fun c_11 => ?_)
      · refine E_ldc2 dX9_weak_43 kl_X9_85 ?_
        exact E_retl dX9_weak_46 rfl (Nat.le_of_ble_eq_true rfl) (Nat.le_of_ble_eq_true rfl) ⟨rfl, rfl, rfl⟩
      · refine E_iload dX9_weak_14 rfl ?_
        refine E_bi 64 dX9_weak_16 (by decide) ?_
        refine E_icmp_gt 43 dX9_weak_18 (by decide) (fun c_18 => ?_) (fun c_18 => ?_)
        · refine E_ldc2 dX9_weak_43 kl_X9_85 ?_
          exact E_retl dX9_weak_46 rfl (Nat.le_of_ble_eq_true rfl) (Nat.le_of_ble_eq_true rfl) ⟨rfl, rfl, rfl⟩
        · refine E_iload_n dX9_weak_21 rfl ?_
          refine E_if_lt 43 dX9_weak_22 (by decide) (fun c_22 => ?_) (fun c_22 => ?_)
          · refine E_ldc2 dX9_weak_43 kl_X9_85 ?_
            exact E_retl dX9_weak_46 rfl (Nat.le_of_ble_eq_true rfl) (Nat.le_of_ble_eq_true rfl) ⟨rfl, rfl, rfl⟩
          · refine E_iload_n dX9_weak_25 rfl ?_
            refine E_aload_n dX9_weak_26 rfl ?_
            refine E_getR dX9_weak_27 fl_X9_13 rfl (by assumption) rfl ?_
            refine E_bi 8 dX9_weak_30 (by decide) ?_
            refine E_iload_n dX9_weak_32 rfl ?_
            refine E_imul dX9_weak_33 ?_
            refine E_iload_n dX9_weak_34 rfl ?_
            refine E_iadd dX9_weak_35 ?_
            rw [show (8 : Int32) = nI 8 by decide, pk_mul, nI_add]
            refine E_iald dX9_weak_36 rfl (vp_in_nI (by omega) (by omega)) ?_
            rw [nI_clamp (by omega), f1]
            rw [i_lt, h1] at c_11
            rw [i_lt, h64] at c_18
            obtain ⟨j, hj, rfl⟩ := nI_of2 (x := n) (M := 64) (n := 64) h64 (by rw [i_lt, i_0]; omega) (by rw [i_le, h64]; omega)
            refine E_iload dX9_weak_37 rfl ?_
            refine E_isub dX9_weak_39 ?_
            refine E_icmp_le 47 dX9_weak_40 (by decide) (fun c_40 => absurd (Int32.lt_of_le_of_lt c_40 (neg2 j hj)) c_22) (fun c_40 => ?_)
            refine E_ldc2 dX9_weak_43 kl_X9_85 ?_
            exact E_retl dX9_weak_46 rfl (Nat.le_of_ble_eq_true rfl) (Nat.le_of_ble_eq_true rfl) ⟨rfl, rfl, rfl⟩
    | some xs =>
      rw [hx] at fm
      have hl : xs.length ≤ 500 := fm.2.1
      have fB : BSeg h 60 (500 * (8 * k + g)) xs := fm.2.2
      have f1 : h.1 61 (8 * k + g) = nI xs.length := fm.1
      show E mX9_weak none (fun v sh' h' => sh' = SH ∧ v = some (.long (if 1 ≤ n.toInt ∧ n.toInt ≤ 64 ∧ 0 ≤ p.toInt ∧ p.toInt + n.toInt ≤ xs.length then lN (wk n.toNatClampNeg (fun j => xs.getD (p.toNatClampNeg + j) 0)) else -1)) ∧ h' = h) 0 _ [] SH h 0 0
      refine E_iload_n dX9_weak_0 rfl ?_
      refine E_iload_n dX9_weak_1 rfl ?_
      refine cS2 (N := mX9_isFile) dX9_weak_2 cn_X9_isFile lk_X9_65 ⟨Nat.le_of_ble_eq_true rfl, Nat.le_of_ble_eq_true rfl⟩ (Nat.le_of_ble_eq_true rfl) ⟨rfl, rfl⟩ (m_isFile _ _) (fun v2 h2 ⟨hv2, hh2⟩ => ?_)
      rw [hv2, hh2, if_pos hok]
      refine E_if_eq 43 dX9_weak_5 (by decide) (fun c_5 => absurd c_5 (by decide)) (fun c_5 => ?_)
      refine E_iload dX9_weak_8 rfl ?_
      refine E_ic 1 dX9_weak_10 (by decide) ?_
      refine E_icmp_lt 43 dX9_weak_11 (by decide) (fun c_11 => ?_) (fun c_11 => ?_)
      · refine E_ldc2 dX9_weak_43 kl_X9_85 ?_
        exact E_retl dX9_weak_46 rfl (Nat.le_of_ble_eq_true rfl) (Nat.le_of_ble_eq_true rfl) ⟨rfl, by rw [if_neg (fun z => by rw [i_lt, h1] at c_11; omega)], rfl⟩
      · refine E_iload dX9_weak_14 rfl ?_
        refine E_bi 64 dX9_weak_16 (by decide) ?_
        refine E_icmp_gt 43 dX9_weak_18 (by decide) (fun c_18 => ?_) (fun c_18 => ?_)
        · refine E_ldc2 dX9_weak_43 kl_X9_85 ?_
          exact E_retl dX9_weak_46 rfl (Nat.le_of_ble_eq_true rfl) (Nat.le_of_ble_eq_true rfl) ⟨rfl, by rw [if_neg (fun z => by rw [i_lt, h64] at c_18; omega)], rfl⟩
        · refine E_iload_n dX9_weak_21 rfl ?_
          refine E_if_lt 43 dX9_weak_22 (by decide) (fun c_22 => ?_) (fun c_22 => ?_)
          · refine E_ldc2 dX9_weak_43 kl_X9_85 ?_
            exact E_retl dX9_weak_46 rfl (Nat.le_of_ble_eq_true rfl) (Nat.le_of_ble_eq_true rfl) ⟨rfl, by rw [if_neg (fun z => by rw [i_lt, i_0] at c_22; omega)], rfl⟩
          · refine E_iload_n dX9_weak_25 rfl ?_
            refine E_aload_n dX9_weak_26 rfl ?_
            refine E_getR dX9_weak_27 fl_X9_13 rfl (by assumption) rfl ?_
            refine E_bi 8 dX9_weak_30 (by decide) ?_
            refine E_iload_n dX9_weak_32 rfl ?_
            refine E_imul dX9_weak_33 ?_
            refine E_iload_n dX9_weak_34 rfl ?_
            refine E_iadd dX9_weak_35 ?_
            rw [show (8 : Int32) = nI 8 by decide, pk_mul, nI_add]
            refine E_iald dX9_weak_36 rfl (vp_in_nI (by omega) (by omega)) ?_
            rw [nI_clamp (by omega), f1]
            rw [i_lt, h1] at c_11
            rw [i_lt, h64] at c_18
            obtain ⟨j, hj, rfl⟩ := nI_of2 (x := n) (M := 64) (n := 64) h64 (by rw [i_lt, i_0]; omega) (by rw [i_le, h64]; omega)
            have hn : (nI xs.length - nI j : Int32).toInt = xs.length - j := pk_sub_toInt (by omega) (by omega)
            have hj3 : (nI j).toInt = j := nI_toInt (by omega)
            refine E_iload dX9_weak_37 rfl ?_
            refine E_isub dX9_weak_39 ?_
            refine E_icmp_le 47 dX9_weak_40 (by decide) (fun c_40 => ?_) (fun c_40 => ?_)
            · obtain ⟨q, hq, rfl⟩ := nI_of c_22
              have hq3 : (nI q).toInt = q := nI_toInt hq
              rw [i_le, hn, hq3] at c_40
              have pl := part_len (xs := xs) (p := q) (n := j) (by omega)
              refine E_aload_n dX9_weak_47 rfl ?_
              refine E_getR dX9_weak_48 fl_X9_7 rfl (by assumption) rfl ?_
              refine E_si 500 dX9_weak_51 (by decide) ?_
              refine E_bi 8 dX9_weak_54 (by decide) ?_
              refine E_iload_n dX9_weak_56 rfl ?_
              refine E_imul dX9_weak_57 ?_
              refine E_iload_n dX9_weak_58 rfl ?_
              refine E_iadd dX9_weak_59 ?_
              refine E_imul dX9_weak_60 ?_
              refine E_iload_n dX9_weak_61 rfl ?_
              refine E_iadd dX9_weak_62 ?_
              refine E_iload dX9_weak_63 rfl ?_
              rw [show (8 : Int32) = nI 8 by decide, show (500 : Int32) = nI 500 by decide, pk_mul, nI_add, pk_mul, nI_add, show nI j = nI ((xs.drop q).take j).length by rw [pl]]
              refine cS3 (N := mX9_weakOf) dX9_weak_65 cn_X9_weakOf lk_X9_87 ⟨Nat.le_of_ble_eq_true rfl, Nat.le_of_ble_eq_true rfl⟩ (Nat.le_of_ble_eq_true rfl) ⟨rfl, rfl⟩ (m_weakOf (m := 8000) rfl (by decide) ((fB.drop q).take j) (by rw [pl]; omega) (by rw [pl]; omega)) (fun v3 h3 ⟨hv3, hh3⟩ => ?_)
              rw [hv3, hh3]
              exact E_retl dX9_weak_68 rfl (Nat.le_of_ble_eq_true rfl) (Nat.le_of_ble_eq_true rfl) ⟨rfl, by rw [pl, if_pos (by rw [hj3, hq3]; omega), nI_clamp (by omega), nI_clamp hq, wk_congr (fun i hi => getD_part hi)], rfl⟩
            · refine E_ldc2 dX9_weak_43 kl_X9_85 ?_
              exact E_retl dX9_weak_46 rfl (Nat.le_of_ble_eq_true rfl) (Nat.le_of_ble_eq_true rfl) ⟨rfl, by rw [if_neg (fun z => c_40 (by rw [i_le, hn]; omega))], rfl⟩
  · rw [wkR, Fo_bad hok]
    refine E_iload_n dX9_weak_0 rfl ?_
    refine E_iload_n dX9_weak_1 rfl ?_
    refine cS2 (N := mX9_isFile) dX9_weak_2 cn_X9_isFile lk_X9_65 ⟨Nat.le_of_ble_eq_true rfl, Nat.le_of_ble_eq_true rfl⟩ (Nat.le_of_ble_eq_true rfl) ⟨rfl, rfl⟩ (m_isFile _ _) (fun v2 h2 ⟨hv2, hh2⟩ => ?_)
    rw [hv2, hh2, if_neg hok]
    refine E_if_eq 43 dX9_weak_5 (by decide) (fun c_5 => ?_) (fun c_5 => absurd rfl c_5)
    refine E_ldc2 dX9_weak_43 kl_X9_85 ?_
    exact E_retl dX9_weak_46 rfl (Nat.le_of_ble_eq_true rfl) (Nat.le_of_ble_eq_true rfl) ⟨rfl, rfl, rfl⟩

