/-! the model: what is asked of files -/
theorem sgn_t : ∀ t, t < 57 → (((nI t).toInt64 &&& 63).toBitVec.smod 64).toNat = t := by decide +kernel
theorem sgn_b (x : Int64) {t : Nat} (h : t ≤ 56) : (x >>> ((nI t).toInt64 &&& 63)).toInt32.toInt8.toInt32 = sb (x.toBitVec.toNat / 2 ^ t % 256) := by
  have e := sgn_t t (by omega)
  unfold sb
  congr 1
  rw [← Int8.toBitVec_inj]
  apply BitVec.eq_of_getLsbD_eq
  intro i hi
  simp only [Int32.toBitVec_toInt8, Int64.toBitVec_toInt32, Int64.toBitVec_shiftRight, BitVec.getLsbD_signExtend, BitVec.sshiftRight', e, BitVec.getLsbD_sshiftRight]
  have e2 : (nI (x.toBitVec.toNat / 2 ^ t % 256)).toBitVec = BitVec.ofNat 32 (x.toBitVec.toNat / 2 ^ t % 256) := rfl
  rw [e2, BitVec.getLsbD_ofNat, show (256 : Nat) = 2 ^ 8 by decide, Nat.testBit_mod_two_pow, Nat.testBit_div_two_pow, BitVec.getLsbD]
  have a1 : i < 32 := by omega
  have a2 : ¬ 64 ≤ i := by omega
  have a3 : t + i < 64 := by omega
  simp [hi, a1, a2, a3, Nat.add_comm i t]
theorem MRep.fm {b : Ab} {h : Hp} (M : MRep b h) {e f : Nat} (he : e < 2) (hf : f < 8) : h.1 61 (8 * e + f) = szI (b.2.2.2.1 e f) ∧ ((b.2.2.2.1 e f).getD []).length ≤ 500 ∧ BSeg h 60 (500 * (8 * e + f)) ((b.2.2.2.1 e f).getD []) := M.2.2.2.2.2.2.2.2.2.1 e he f hf
theorem sz_max {o : Option (List Nat)} (h : (o.getD []).length ≤ 500) : (if szI o ≤ 0 then 0 else szI o) = nI (o.getD []).length := by
  cases o with
  | none => decide
  | some xs =>
    show (if nI xs.length ≤ 0 then 0 else nI xs.length) = nI xs.length
    by_cases q : xs.length = 0
    · rw [q]; decide
    · rw [if_neg (nI_nle (by omega) (by have : xs.length ≤ 500 := h; omega))]
theorem m_sizeOf {h : Hp} {i : Nat} {o : Option (List Nat)} (q1 : h.2.2 59 1 = some 61) (hi : i < 16) (hs : h.1 61 i = szI o) (hl : (o.getD []).length ≤ 500) : Sp0 mX9_sizeOf [.ref 59, .int (nI i)] SH h (fun v h' => v = some (.int (nI (o.getD []).length)) ∧ h' = h) := by
  refine Sp0.of (by decide) (Nat.le_of_ble_eq_true rfl) ?_
  show E mX9_sizeOf none _ 0 [some (.ref 59), some (.int (nI i))] [] SH h 0 0
  refine E_ic 0 dX9_sizeOf_0 (by decide) ?_
  refine E_aload_n dX9_sizeOf_1 rfl ?_
  refine E_getR dX9_sizeOf_2 fl_X9_13 rfl (by assumption) rfl ?_
  refine E_iload_n dX9_sizeOf_5 rfl ?_
  refine E_iald dX9_sizeOf_6 rfl (vp_in_nI hi (by decide)) ?_
  rw [nI_clamp (by omega), hs]
  refine cS2 (N := mX9_greater) dX9_sizeOf_7 cn_X9_greater lk_X9_61 ⟨Nat.le_of_ble_eq_true rfl, Nat.le_of_ble_eq_true rfl⟩ (Nat.le_of_ble_eq_true rfl) ⟨rfl, rfl⟩ (m_greater _ _) (fun v2 h2 ⟨hv2, hh2⟩ => ?_)
  rw [hv2, hh2]
  exact E_reti dX9_sizeOf_10 rfl rfl (Nat.le_of_ble_eq_true rfl) (Nat.le_of_ble_eq_true rfl) ⟨rfl, by rw [sz_max hl], rfl⟩
theorem ok_of {e f : Int32} (h : eOk e ∧ fOk f) : ∃ k g, k < 2 ∧ g < 8 ∧ e = nI k ∧ f = nI g := by
  obtain ⟨k, hk, rfl⟩ := eOk_of h.1
  obtain ⟨g, hg, rfl⟩ := isF_of h.2
  exact ⟨k, g, hk, hg, rfl, rfl⟩
theorem Fo_bad {b : Ab} {e f : Int32} (h : ¬ (eOk e ∧ fOk f)) : Fo b e f = none := if_neg h
theorem m_size {b : Ab} {h : Hp} (M : MRep b h) (e f : Int32) : Sp0 mX9_size [.ref 59, .int e, .int f] SH h (fun v h' => v = some (.int (szR b e f)) ∧ h' = h) := by
  obtain ⟨q0, q1, q2, q3, q9, q10, q11, q13, q14, q22, q29, q33, q34, q36, q37, q40⟩ := id M.2.2.1
  refine Sp0.of (by decide) (Nat.le_of_ble_eq_true rfl) ?_
  show E mX9_size none _ 0 [some (.ref 59), some (.int e), some (.int f)] [] SH h 0 0
  by_cases hok : eOk e ∧ fOk f
  · obtain ⟨k, g, hk, hg, rfl, rfl⟩ := ok_of hok
    have fm := M.fm hk hg
    refine E_iload_n dX9_size_0 rfl ?_
    refine E_iload_n dX9_size_1 rfl ?_
    refine cS2 (N := mX9_isFile) dX9_size_2 cn_X9_isFile lk_X9_65 ⟨Nat.le_of_ble_eq_true rfl, Nat.le_of_ble_eq_true rfl⟩ (Nat.le_of_ble_eq_true rfl) ⟨rfl, rfl⟩ (m_isFile _ _) (fun v2 h2 ⟨hv2, hh2⟩ => ?_)
    rw [hv2, hh2, if_pos hok]
    refine E_if_eq 22 dX9_size_5 (by decide) (fun c_5 => absurd c_5 (by decide)) (fun c_5 => ?_)
    refine E_aload_n dX9_size_8 rfl ?_
    refine E_getR dX9_size_9 fl_X9_13 rfl (by assumption) rfl ?_
    refine E_bi 8 dX9_size_12 (by decide) ?_
    refine E_iload_n dX9_size_14 rfl ?_
    refine E_imul dX9_size_15 ?_
    refine E_iload_n dX9_size_16 rfl ?_
    refine E_iadd dX9_size_17 ?_
    rw [show (8 : Int32) = nI 8 by decide, pk_mul, nI_add]
    refine E_iald dX9_size_18 rfl (vp_in_nI (by omega) (by omega)) ?_
    rw [nI_clamp (by omega), fm.1]
    refine E_goto 23 dX9_size_19 (by decide) ?_
    exact E_reti dX9_size_23 rfl rfl (Nat.le_of_ble_eq_true rfl) (Nat.le_of_ble_eq_true rfl) ⟨rfl, by rw [szR, if_pos hok, Fo_nI b hk hg]; rfl, rfl⟩
  · refine E_iload_n dX9_size_0 rfl ?_
    refine E_iload_n dX9_size_1 rfl ?_
    refine cS2 (N := mX9_isFile) dX9_size_2 cn_X9_isFile lk_X9_65 ⟨Nat.le_of_ble_eq_true rfl, Nat.le_of_ble_eq_true rfl⟩ (Nat.le_of_ble_eq_true rfl) ⟨rfl, rfl⟩ (m_isFile _ _) (fun v2 h2 ⟨hv2, hh2⟩ => ?_)
    rw [hv2, hh2, if_neg hok]
    refine E_if_eq 22 dX9_size_5 (by decide) (fun c_5 => ?_) (fun c_5 => absurd rfl c_5)
    refine E_ic (-1) dX9_size_22 (by decide) ?_
    exact E_reti dX9_size_23 rfl rfl (Nat.le_of_ble_eq_true rfl) (Nat.le_of_ble_eq_true rfl) ⟨rfl, by rw [szR, if_neg hok], rfl⟩
theorem m_at {b : Ab} {h : Hp} (M : MRep b h) (e f i : Int32) : Sp0 mX9_at [.ref 59, .int e, .int f, .int i] SH h (fun v h' => v = some (.int (atR b e f i)) ∧ h' = h) := by
  obtain ⟨q0, q1, q2, q3, q9, q10, q11, q13, q14, q22, q29, q33, q34, q36, q37, q40⟩ := id M.2.2.1
  refine Sp0.of (by decide) (Nat.le_of_ble_eq_true rfl) ?_
  show E mX9_at none _ 0 [some (.ref 59), some (.int e), some (.int f), some (.int i)] [] SH h 0 0
  by_cases hok : eOk e ∧ fOk f
  · obtain ⟨k, g, hk, hg, rfl, rfl⟩ := ok_of hok
    have fm := M.fm hk hg
    rw [atR, Fo_nI b hk hg]
    cases hx : b.2.2.2.1 k g with
    | none =>
      rw [hx] at fm
      refine E_iload_n dX9_at_0 rfl ?_
      refine E_iload_n dX9_at_1 rfl ?_
      refine cS2 (N := mX9_isFile) dX9_at_2 cn_X9_isFile lk_X9_65 ⟨Nat.le_of_ble_eq_true rfl, Nat.le_of_ble_eq_true rfl⟩ (Nat.le_of_ble_eq_true rfl) ⟨rfl, rfl⟩ (m_isFile _ _) (fun v2 h2 ⟨hv2, hh2⟩ => ?_)
      rw [hv2, hh2, if_pos hok]
      refine E_if_eq 51 dX9_at_5 (by decide) (fun c_5 => absurd c_5 (by decide)) (fun c_5 => ?_)
      refine E_iload_n dX9_at_8 rfl ?_
      refine E_if_lt 51 dX9_at_9 (by decide) (fun c_9 => ?_) (fun c_9 => ?_)
      · refine E_ic (-1) dX9_at_51 (by decide) ?_
        exact E_reti dX9_at_52 rfl rfl (Nat.le_of_ble_eq_true rfl) (Nat.le_of_ble_eq_true rfl) ⟨rfl, rfl, rfl⟩
      · refine E_iload_n dX9_at_12 rfl ?_
        refine E_aload_n dX9_at_13 rfl ?_
        refine E_getR dX9_at_14 fl_X9_13 rfl (by assumption) rfl ?_
        refine E_bi 8 dX9_at_17 (by decide) ?_
        refine E_iload_n dX9_at_19 rfl ?_
        refine E_imul dX9_at_20 ?_
        refine E_iload_n dX9_at_21 rfl ?_
        refine E_iadd dX9_at_22 ?_
        rw [show (8 : Int32) = nI 8 by decide, pk_mul, nI_add]
        refine E_iald dX9_at_23 rfl (vp_in_nI (by omega) (by omega)) ?_
        rw [nI_clamp (by omega), fm.1]
        refine E_icmp_ge 51 dX9_at_24 (by decide) (fun c_24 => ?_) (fun c_24 => absurd (by rw [i_lt, i_0] at c_9; rw [i_le, show (szI none).toInt = -2 by decide]; omega) c_24)
        refine E_ic (-1) dX9_at_51 (by decide) ?_
        exact E_reti dX9_at_52 rfl rfl (Nat.le_of_ble_eq_true rfl) (Nat.le_of_ble_eq_true rfl) ⟨rfl, rfl, rfl⟩
    | some xs =>
      rw [hx] at fm
      have hl : xs.length ≤ 500 := fm.2.1
      have fB : BSeg h 60 (500 * (8 * k + g)) xs := fm.2.2
      have f1 : h.1 61 (8 * k + g) = nI xs.length := fm.1
      refine E_iload_n dX9_at_0 rfl ?_
      refine E_iload_n dX9_at_1 rfl ?_
      refine cS2 (N := mX9_isFile) dX9_at_2 cn_X9_isFile lk_X9_65 ⟨Nat.le_of_ble_eq_true rfl, Nat.le_of_ble_eq_true rfl⟩ (Nat.le_of_ble_eq_true rfl) ⟨rfl, rfl⟩ (m_isFile _ _) (fun v2 h2 ⟨hv2, hh2⟩ => ?_)
      rw [hv2, hh2, if_pos hok]
      refine E_if_eq 51 dX9_at_5 (by decide) (fun c_5 => absurd c_5 (by decide)) (fun c_5 => ?_)
      refine E_iload_n dX9_at_8 rfl ?_
      refine E_if_lt 51 dX9_at_9 (by decide) (fun c_9 => ?_) (fun c_9 => ?_)
      · refine E_ic (-1) dX9_at_51 (by decide) ?_
        exact E_reti dX9_at_52 rfl rfl (Nat.le_of_ble_eq_true rfl) (Nat.le_of_ble_eq_true rfl) ⟨rfl, by show _ = some (Value.int (gI xs i)); rw [gI, if_neg (fun z => by rw [i_lt, i_0] at c_9; omega)], rfl⟩
      · refine E_iload_n dX9_at_12 rfl ?_
        refine E_aload_n dX9_at_13 rfl ?_
        refine E_getR dX9_at_14 fl_X9_13 rfl (by assumption) rfl ?_
        refine E_bi 8 dX9_at_17 (by decide) ?_
        refine E_iload_n dX9_at_19 rfl ?_
        refine E_imul dX9_at_20 ?_
        refine E_iload_n dX9_at_21 rfl ?_
        refine E_iadd dX9_at_22 ?_
        rw [show (8 : Int32) = nI 8 by decide, pk_mul, nI_add]
        refine E_iald dX9_at_23 rfl (vp_in_nI (by omega) (by omega)) ?_
        rw [nI_clamp (by omega), f1]
        refine E_icmp_ge 51 dX9_at_24 (by decide) (fun c_24 => ?_) (fun c_24 => ?_)
        · have c_24_no : ¬ (0 ≤ i.toInt ∧ i.toInt < xs.length) := fun z => by rw [i_le, nI_toInt (by omega)] at c_24; omega
          refine E_ic (-1) dX9_at_51 (by decide) ?_
          exact E_reti dX9_at_52 rfl rfl (Nat.le_of_ble_eq_true rfl) (Nat.le_of_ble_eq_true rfl) ⟨rfl, by show _ = some (Value.int (gI xs i)); rw [gI, if_neg (fun z => c_24_no z)], rfl⟩
        · obtain ⟨j, hj, rfl⟩ := nI_of c_9
          have hj2 : j < xs.length := Nat.lt_of_not_le fun q => c_24 (nI_le q (by omega))
          refine E_aload_n dX9_at_27 rfl ?_
          refine E_getR dX9_at_28 fl_X9_7 rfl (by assumption) rfl ?_
          refine E_si 500 dX9_at_31 (by decide) ?_
          refine E_bi 8 dX9_at_34 (by decide) ?_
          refine E_iload_n dX9_at_36 rfl ?_
          refine E_imul dX9_at_37 ?_
          refine E_iload_n dX9_at_38 rfl ?_
          refine E_iadd dX9_at_39 ?_
          refine E_imul dX9_at_40 ?_
          refine E_iload_n dX9_at_41 rfl ?_
          refine E_iadd dX9_at_42 ?_
          rw [show (8 : Int32) = nI 8 by decide, show (500 : Int32) = nI 500 by decide, pk_mul, nI_add, pk_mul, nI_add]
          refine E_bald dX9_at_43 rfl (vp_in_nI (by omega) (by omega)) ?_
          rw [nI_clamp (by omega), fB.at hj2]
          refine E_si 255 dX9_at_44 (by decide) ?_
          refine E_iand dX9_at_47 ?_
          rw [sb_i _ (fB.lt j)]
          refine E_goto 52 dX9_at_48 (by decide) ?_
          exact E_reti dX9_at_52 rfl rfl (Nat.le_of_ble_eq_true rfl) (Nat.le_of_ble_eq_true rfl) ⟨rfl, by show _ = some (Value.int (gI xs (nI j))); rw [gI_at hj2 hl], rfl⟩
  · rw [atR, Fo_bad hok]
    refine E_iload_n dX9_at_0 rfl ?_
    refine E_iload_n dX9_at_1 rfl ?_
    refine cS2 (N := mX9_isFile) dX9_at_2 cn_X9_isFile lk_X9_65 ⟨Nat.le_of_ble_eq_true rfl, Nat.le_of_ble_eq_true rfl⟩ (Nat.le_of_ble_eq_true rfl) ⟨rfl, rfl⟩ (m_isFile _ _) (fun v2 h2 ⟨hv2, hh2⟩ => ?_)
    rw [hv2, hh2, if_neg hok]
    refine E_if_eq 51 dX9_at_5 (by decide) (fun c_5 => ?_) (fun c_5 => absurd rfl c_5)
    refine E_ic (-1) dX9_at_51 (by decide) ?_
    exact E_reti dX9_at_52 rfl rfl (Nat.le_of_ble_eq_true rfl) (Nat.le_of_ble_eq_true rfl) ⟨rfl, rfl, rfl⟩
theorem m_drop {b : Ab} {h : Hp} (M : MRep b h) (e f : Int32) : Sp0 mX9_drop [.ref 59, .int e, .int f] SH h (fun v h' => v = some (.int (drR b e f)) ∧ MRep (drS b e f) h' ∧ MF h h') := by
  obtain ⟨q0, q1, q2, q3, q9, q10, q11, q13, q14, q22, q29, q33, q34, q36, q37, q40⟩ := id M.2.2.1
  refine Sp0.of (by decide) (Nat.le_of_ble_eq_true rfl) ?_
  show E mX9_drop none _ 0 [some (.ref 59), some (.int e), some (.int f), none] [] SH h 0 0
  by_cases hok : eOk e ∧ fOk f
  · obtain ⟨k, g, hk, hg, rfl, rfl⟩ := ok_of hok
    have fm := M.fm hk hg
    rw [drR, drS, Fo_nI b hk hg, setFo_nI b hk hg]
    cases hx : b.2.2.2.1 k g with
    | none =>
      rw [hx] at fm
      refine E_iload_n dX9_drop_0 rfl ?_
      refine E_iload_n dX9_drop_1 rfl ?_
      refine cS2 (N := mX9_isFile) dX9_drop_2 cn_X9_isFile lk_X9_65 ⟨Nat.le_of_ble_eq_true rfl, Nat.le_of_ble_eq_true rfl⟩ (Nat.le_of_ble_eq_true rfl) ⟨rfl, rfl⟩ (m_isFile _ _) (fun v2 h2 ⟨hv2, hh2⟩ => ?_)
      rw [hv2, hh2, if_pos hok]
      refine E_if_eq 24 dX9_drop_5 (by decide) (fun c_5 => absurd c_5 (by decide)) (fun c_5 => ?_)
      refine E_aload_n dX9_drop_8 rfl ?_
      refine E_getR dX9_drop_9 fl_X9_13 rfl (by assumption) rfl ?_
      refine E_bi 8 dX9_drop_12 (by decide) ?_
      refine E_iload_n dX9_drop_14 rfl ?_
      refine E_imul dX9_drop_15 ?_
      refine E_iload_n dX9_drop_16 rfl ?_
      refine E_iadd dX9_drop_17 ?_
      rw [show (8 : Int32) = nI 8 by decide, pk_mul, nI_add]
      refine E_iald dX9_drop_18 rfl (vp_in_nI (by omega) (by omega)) ?_
      rw [nI_clamp (by omega), fm.1]
      refine E_bi (-2) dX9_drop_19 (by decide) ?_
      refine E_icmp_ne 26 dX9_drop_21 (by decide) (fun c_21 => absurd rfl c_21) (fun c_21 => ?_)
      refine E_ic (-1) dX9_drop_24 (by decide) ?_
      exact E_reti dX9_drop_25 rfl rfl (Nat.le_of_ble_eq_true rfl) (Nat.le_of_ble_eq_true rfl) ⟨rfl, rfl, M, MF.rf⟩
    | some xs =>
      rw [hx] at fm
      have hl : xs.length ≤ 500 := fm.2.1
      have f1 : h.1 61 (8 * k + g) = nI xs.length := fm.1
      refine E_iload_n dX9_drop_0 rfl ?_
      refine E_iload_n dX9_drop_1 rfl ?_
      refine cS2 (N := mX9_isFile) dX9_drop_2 cn_X9_isFile lk_X9_65 ⟨Nat.le_of_ble_eq_true rfl, Nat.le_of_ble_eq_true rfl⟩ (Nat.le_of_ble_eq_true rfl) ⟨rfl, rfl⟩ (m_isFile _ _) (fun v2 h2 ⟨hv2, hh2⟩ => ?_)
      rw [hv2, hh2, if_pos hok]
      refine E_if_eq 24 dX9_drop_5 (by decide) (fun c_5 => absurd c_5 (by decide)) (fun c_5 => ?_)
      refine E_aload_n dX9_drop_8 rfl ?_
      refine E_getR dX9_drop_9 fl_X9_13 rfl (by assumption) rfl ?_
      refine E_bi 8 dX9_drop_12 (by decide) ?_
      refine E_iload_n dX9_drop_14 rfl ?_
      refine E_imul dX9_drop_15 ?_
      refine E_iload_n dX9_drop_16 rfl ?_
      refine E_iadd dX9_drop_17 ?_
      rw [show (8 : Int32) = nI 8 by decide, pk_mul, nI_add]
      refine E_iald dX9_drop_18 rfl (vp_in_nI (by omega) (by omega)) ?_
      rw [nI_clamp (by omega), f1]
      refine E_bi (-2) dX9_drop_19 (by decide) ?_
      refine E_icmp_ne 26 dX9_drop_21 (by decide) (fun c_21 => ?_) (fun c_21 => absurd c_21 (fun q => absurd (nI_pos (n := xs.length) (by omega)) (fun z => z (by rw [q]; decide))))
      refine E_aload_n dX9_drop_26 rfl ?_
      refine E_getR dX9_drop_27 fl_X9_13 rfl (by assumption) rfl ?_
      refine E_bi 8 dX9_drop_30 (by decide) ?_
      refine E_iload_n dX9_drop_32 rfl ?_
      refine E_imul dX9_drop_33 ?_
      refine E_iload_n dX9_drop_34 rfl ?_
      refine E_iadd dX9_drop_35 ?_
      rw [show (8 : Int32) = nI 8 by decide, pk_mul, nI_add]
      refine E_iald dX9_drop_36 rfl (vp_in_nI (by omega) (by omega)) ?_
      rw [nI_clamp (by omega), f1]
      refine E_istore_n dX9_drop_37 (by decide) ?_
      refine E_aload_n dX9_drop_38 rfl ?_
      refine E_getR dX9_drop_39 fl_X9_13 rfl (by assumption) rfl ?_
      refine E_bi 8 dX9_drop_42 (by decide) ?_
      refine E_iload_n dX9_drop_44 rfl ?_
      refine E_imul dX9_drop_45 ?_
      refine E_iload_n dX9_drop_46 rfl ?_
      refine E_iadd dX9_drop_47 ?_
      refine E_bi (-2) dX9_drop_48 (by decide) ?_
      rw [show (8 : Int32) = nI 8 by decide, pk_mul, nI_add]
      refine E_iast dX9_drop_50 rfl (vp_in_nI (by omega) (by omega)) ?_
      rw [nI_clamp (by omega)]
      refine E_iload_n dX9_drop_51 rfl ?_
      exact E_reti dX9_drop_52 rfl rfl (Nat.le_of_ble_eq_true rfl) (Nat.le_of_ble_eq_true rfl) ⟨rfl, rfl, M.file (o := none) hk hg (FilF.rf.sz _) (by simp [sI, u2, szI]) (by simp) ⟨fun x hx => (by cases hx), fun j hj => (by simp at hj)⟩, (FilF.rf.sz _).mf⟩
  · rw [drR, drS, Fo_bad hok]
    refine E_iload_n dX9_drop_0 rfl ?_
    refine E_iload_n dX9_drop_1 rfl ?_
    refine cS2 (N := mX9_isFile) dX9_drop_2 cn_X9_isFile lk_X9_65 ⟨Nat.le_of_ble_eq_true rfl, Nat.le_of_ble_eq_true rfl⟩ (Nat.le_of_ble_eq_true rfl) ⟨rfl, rfl⟩ (m_isFile _ _) (fun v2 h2 ⟨hv2, hh2⟩ => ?_)
    rw [hv2, hh2, if_neg hok]
    refine E_if_eq 24 dX9_drop_5 (by decide) (fun c_5 => ?_) (fun c_5 => absurd rfl c_5)
    refine E_ic (-1) dX9_drop_24 (by decide) ?_
    exact E_reti dX9_drop_25 rfl rfl (Nat.le_of_ble_eq_true rfl) (Nat.le_of_ble_eq_true rfl) ⟨rfl, rfl, M, MF.rf⟩

