/-! RollingSync: again, same, size, node, weak, write -/
def szR (a : Ab) (e f : Int32) : Int32 := if eOk e ∧ fOk f then (match Fo a e f with
  | none => -2
  | some xs => nI xs.length) else -1
theorem c_size {a : Ab} {h : Hp} (C : CRep a h) (e f : Int32) : Sp0 mX8_size [.ref 0, .int e, .int f] SH h (fun v h' => v = some (.int (szR a e f)) ∧ h' = h) := by
  refine Sp0.of (by decide) (Nat.le_of_ble_eq_true rfl) ?_
  show E mX8_size none _ 0 [some (.ref 0), some (.int e), some (.int f), none] [] SH h 0 0
  by_cases he : eOk e
  · obtain ⟨k, hk, rfl⟩ := eOk_of he
    by_cases hf : fOk f
    · obtain ⟨g, hg, rfl⟩ := isF_of hf
      have S := C.side k hk
      cases hx : a.2.2.2.1 k g with
      | none =>
        refine E_iload_n dX8_size_0 rfl ?_
        refine cS1 (N := mX8_isEnd) dX8_size_1 cn_X8_isEnd lk_X8_35 ⟨Nat.le_of_ble_eq_true rfl, Nat.le_of_ble_eq_true rfl⟩ (Nat.le_of_ble_eq_true rfl) ⟨rfl, rfl⟩ (c_isEnd _) (fun v2 h2 ⟨hv2, hh2⟩ => ?_)
        rw [hv2, hh2, if_pos he]
        refine E_if_eq 14 dX8_size_4 (by decide) (fun c_4 => absurd c_4 (by decide)) (fun c_4 => ?_)
        refine E_iload_n dX8_size_7 rfl ?_
        refine cS1 (N := mX8_isFile) dX8_size_8 cn_X8_isFile lk_X8_39 ⟨Nat.le_of_ble_eq_true rfl, Nat.le_of_ble_eq_true rfl⟩ (Nat.le_of_ble_eq_true rfl) ⟨rfl, rfl⟩ (c_isFile _) (fun v3 h3 ⟨hv3, hh3⟩ => ?_)
        rw [hv3, hh3, if_pos hf]
        refine E_if_ne 16 dX8_size_11 (by decide) (fun c_11 => ?_) (fun c_11 => absurd c_11 (by decide))
        refine E_aload_n dX8_size_16 rfl ?_
        refine E_iload_n dX8_size_17 rfl ?_
        refine cV1 (N := mX8_side) dX8_size_18 cn_X8_side lk_X8_42 ⟨Nat.le_of_ble_eq_true rfl, Nat.le_of_ble_eq_true rfl⟩ rfl rfl (Nat.le_of_ble_eq_true rfl) ⟨rfl, rfl⟩ (c_side C hk) (fun v4 h4 ⟨hv4, hh4⟩ => ?_)
        rw [hv4, hh4]
        refine E_iload_n dX8_size_21 rfl ?_
        refine cV1 (N := mX6_existing) dX8_size_22 cn_X6_existing lk_X8_84 ⟨Nat.le_of_ble_eq_true rfl, Nat.le_of_ble_eq_true rfl⟩ S.1.1.1 rfl (Nat.le_of_ble_eq_true rfl) ⟨rfl, rfl⟩ (c_existing S.1 _) (fun v5 h5 ⟨hv5, hh5⟩ => ?_)
        rw [hv5, hh5, exF_none hg hx]
        refine E_astore_nN dX8_size_25 (by decide) ?_
        refine E_aload_nN dX8_size_26 rfl ?_
        refine E_ifnonnullN dX8_size_27 ?_
        refine E_bi (-2) dX8_size_30 (by decide) ?_
        refine E_goto 39 dX8_size_32 (by decide) ?_
        exact E_reti dX8_size_39 rfl rfl (Nat.le_of_ble_eq_true rfl) (Nat.le_of_ble_eq_true rfl) ⟨rfl, by rw [szR, if_pos ⟨he, hf⟩, Fo_nI a hk hg, hx], rfl⟩
      | some xs =>
        have R := C.row hk hg hx
        refine E_iload_n dX8_size_0 rfl ?_
        refine cS1 (N := mX8_isEnd) dX8_size_1 cn_X8_isEnd lk_X8_35 ⟨Nat.le_of_ble_eq_true rfl, Nat.le_of_ble_eq_true rfl⟩ (Nat.le_of_ble_eq_true rfl) ⟨rfl, rfl⟩ (c_isEnd _) (fun v2 h2 ⟨hv2, hh2⟩ => ?_)
        rw [hv2, hh2, if_pos he]
        refine E_if_eq 14 dX8_size_4 (by decide) (fun c_4 => absurd c_4 (by decide)) (fun c_4 => ?_)
        refine E_iload_n dX8_size_7 rfl ?_
        refine cS1 (N := mX8_isFile) dX8_size_8 cn_X8_isFile lk_X8_39 ⟨Nat.le_of_ble_eq_true rfl, Nat.le_of_ble_eq_true rfl⟩ (Nat.le_of_ble_eq_true rfl) ⟨rfl, rfl⟩ (c_isFile _) (fun v3 h3 ⟨hv3, hh3⟩ => ?_)
        rw [hv3, hh3, if_pos hf]
        refine E_if_ne 16 dX8_size_11 (by decide) (fun c_11 => ?_) (fun c_11 => absurd c_11 (by decide))
        refine E_aload_n dX8_size_16 rfl ?_
        refine E_iload_n dX8_size_17 rfl ?_
        refine cV1 (N := mX8_side) dX8_size_18 cn_X8_side lk_X8_42 ⟨Nat.le_of_ble_eq_true rfl, Nat.le_of_ble_eq_true rfl⟩ rfl rfl (Nat.le_of_ble_eq_true rfl) ⟨rfl, rfl⟩ (c_side C hk) (fun v4 h4 ⟨hv4, hh4⟩ => ?_)
        rw [hv4, hh4]
        refine E_iload_n dX8_size_21 rfl ?_
        refine cV1 (N := mX6_existing) dX8_size_22 cn_X6_existing lk_X8_84 ⟨Nat.le_of_ble_eq_true rfl, Nat.le_of_ble_eq_true rfl⟩ S.1.1.1 rfl (Nat.le_of_ble_eq_true rfl) ⟨rfl, rfl⟩ (c_existing S.1 _) (fun v5 h5 ⟨hv5, hh5⟩ => ?_)
        rw [hv5, hh5, exF_of hg hx]
        refine E_astore_n dX8_size_25 (by decide) ?_
        refine E_aload_n dX8_size_26 rfl ?_
        refine E_ifnonnull 35 dX8_size_27 (by decide) ?_
        refine E_aload_n dX8_size_35 rfl ?_
        refine cV0 (N := mX3_count) dX8_size_36 cn_X3_count lk_X8_64 ⟨Nat.le_of_ble_eq_true rfl, Nat.le_of_ble_eq_true rfl⟩ R.1.1 rfl (Nat.le_of_ble_eq_true rfl) ⟨rfl, rfl⟩ (c_Row_count R.1.1) (fun v6 h6 ⟨hv6, hh6⟩ => ?_)
        rw [hv6, hh6, R.1.2.2.2.1]
        exact E_reti dX8_size_39 rfl rfl (Nat.le_of_ble_eq_true rfl) (Nat.le_of_ble_eq_true rfl) ⟨rfl, by rw [szR, if_pos ⟨he, hf⟩, Fo_nI a hk hg, hx], rfl⟩
    · refine E_iload_n dX8_size_0 rfl ?_
      refine cS1 (N := mX8_isEnd) dX8_size_1 cn_X8_isEnd lk_X8_35 ⟨Nat.le_of_ble_eq_true rfl, Nat.le_of_ble_eq_true rfl⟩ (Nat.le_of_ble_eq_true rfl) ⟨rfl, rfl⟩ (c_isEnd _) (fun v2 h2 ⟨hv2, hh2⟩ => ?_)
      rw [hv2, hh2, if_pos he]
      refine E_if_eq 14 dX8_size_4 (by decide) (fun c_4 => absurd c_4 (by decide)) (fun c_4 => ?_)
      refine E_iload_n dX8_size_7 rfl ?_
      refine cS1 (N := mX8_isFile) dX8_size_8 cn_X8_isFile lk_X8_39 ⟨Nat.le_of_ble_eq_true rfl, Nat.le_of_ble_eq_true rfl⟩ (Nat.le_of_ble_eq_true rfl) ⟨rfl, rfl⟩ (c_isFile _) (fun v3 h3 ⟨hv3, hh3⟩ => ?_)
      rw [hv3, hh3, if_neg hf]
      refine E_if_ne 16 dX8_size_11 (by decide) (fun c_11 => absurd rfl c_11) (fun c_11 => ?_)
      refine E_ic (-1) dX8_size_14 (by decide) ?_
      exact E_reti dX8_size_15 rfl rfl (Nat.le_of_ble_eq_true rfl) (Nat.le_of_ble_eq_true rfl) ⟨rfl, by rw [szR, if_neg (fun z => hf z.2)], rfl⟩
  · refine E_iload_n dX8_size_0 rfl ?_
    refine cS1 (N := mX8_isEnd) dX8_size_1 cn_X8_isEnd lk_X8_35 ⟨Nat.le_of_ble_eq_true rfl, Nat.le_of_ble_eq_true rfl⟩ (Nat.le_of_ble_eq_true rfl) ⟨rfl, rfl⟩ (c_isEnd _) (fun v2 h2 ⟨hv2, hh2⟩ => ?_)
    rw [hv2, hh2, if_neg he]
    refine E_if_eq 14 dX8_size_4 (by decide) (fun c_4 => ?_) (fun c_4 => absurd rfl c_4)
    refine E_ic (-1) dX8_size_14 (by decide) ?_
    exact E_reti dX8_size_15 rfl rfl (Nat.le_of_ble_eq_true rfl) (Nat.le_of_ble_eq_true rfl) ⟨rfl, by rw [szR, if_neg (fun z => he z.1)], rfl⟩
def ndR (a : Ab) (e n : Int32) : Int64 := if eOk e ∧ 1 ≤ n.toInt ∧ n.toInt < 16 then nodeF (a.2.2.2.1 e.toNatClampNeg) n.toNatClampNeg else 0
theorem c_node {a : Ab} {h : Hp} (C : CRep a h) (e n : Int32) : Sp0 mX8_node [.ref 0, .int e, .int n] SH h (fun v h' => v = some (.long (ndR a e n)) ∧ h' = h) := by
  refine Sp0.of (by decide) (Nat.le_of_ble_eq_true rfl) ?_
  show E mX8_node none _ 0 [some (.ref 0), some (.int e), some (.int n)] [] SH h 0 0
  by_cases he : eOk e
  · obtain ⟨k, hk, rfl⟩ := eOk_of he
    have S := C.side k hk
    refine E_iload_n dX8_node_0 rfl ?_
    refine cS1 (N := mX8_isEnd) dX8_node_1 cn_X8_isEnd lk_X8_35 ⟨Nat.le_of_ble_eq_true rfl, Nat.le_of_ble_eq_true rfl⟩ (Nat.le_of_ble_eq_true rfl) ⟨rfl, rfl⟩ (c_isEnd _) (fun v2 h2 ⟨hv2, hh2⟩ => ?_)
    rw [hv2, hh2, if_pos he]
    refine E_if_eq 19 dX8_node_4 (by decide) (fun c_4 => absurd c_4 (by decide)) (fun c_4 => ?_)
    refine E_aload_n dX8_node_7 rfl ?_
    refine E_iload_n dX8_node_8 rfl ?_
    refine cV1 (N := mX8_side) dX8_node_9 cn_X8_side lk_X8_42 ⟨Nat.le_of_ble_eq_true rfl, Nat.le_of_ble_eq_true rfl⟩ rfl rfl (Nat.le_of_ble_eq_true rfl) ⟨rfl, rfl⟩ (c_side C hk) (fun v4 h4 ⟨hv4, hh4⟩ => ?_)
    rw [hv4, hh4]
    refine E_iload_n dX8_node_12 rfl ?_
    refine cV1 (N := mX6_digestAt) dX8_node_13 cn_X6_digestAt lk_X8_91 ⟨Nat.le_of_ble_eq_true rfl, Nat.le_of_ble_eq_true rfl⟩ S.1.1.1 rfl (Nat.le_of_ble_eq_true rfl) ⟨rfl, rfl⟩ (c_digestAt S.1.1 S.2 _) (fun v5 h5 ⟨hv5, hh5⟩ => ?_)
    rw [hv5, hh5]
    refine E_goto 20 dX8_node_16 (by decide) ?_
    exact E_retl dX8_node_20 rfl (Nat.le_of_ble_eq_true rfl) (Nat.le_of_ble_eq_true rfl) ⟨rfl, by rw [ndR, nI_clamp (by omega)]; by_cases hn : 1 ≤ n.toInt ∧ n.toInt < 16; rw [if_pos hn, if_pos ⟨he, hn⟩]; rw [if_neg hn, if_neg (fun z => hn z.2)], rfl⟩
  · refine E_iload_n dX8_node_0 rfl ?_
    refine cS1 (N := mX8_isEnd) dX8_node_1 cn_X8_isEnd lk_X8_35 ⟨Nat.le_of_ble_eq_true rfl, Nat.le_of_ble_eq_true rfl⟩ (Nat.le_of_ble_eq_true rfl) ⟨rfl, rfl⟩ (c_isEnd _) (fun v2 h2 ⟨hv2, hh2⟩ => ?_)
    rw [hv2, hh2, if_neg he]
    refine E_if_eq 19 dX8_node_4 (by decide) (fun c_4 => ?_) (fun c_4 => absurd rfl c_4)
    refine E_lc 0 dX8_node_19 (by decide) ?_
    exact E_retl dX8_node_20 rfl (Nat.le_of_ble_eq_true rfl) (Nat.le_of_ble_eq_true rfl) ⟨rfl, by rw [ndR, if_neg (fun z => he z.1)], rfl⟩
def wkR (a : Ab) (e f p n : Int32) : Int64 := match Fo a e f with
  | none => -1
  | some xs => if 1 ≤ n.toInt ∧ n.toInt ≤ 64 ∧ 0 ≤ p.toInt ∧ p.toInt + n.toInt ≤ xs.length then lN (wk n.toNatClampNeg (fun j => xs.getD (p.toNatClampNeg + j) 0)) else -1
theorem weak_none {a : Ab} {h : Hp} {e f p n : Int32} (hn : Fo a e f = none) : E mX8_weak none (fun v sh' h' => sh' = SH ∧ v = some (.long (wkR a e f p n)) ∧ h' = h) 6 [some (.ref 0), some (.int e), some (.int f), some (.int p), some (.int n), none] [.null] SH h 0 0 := by
  refine E_astoreN dX8_weak_6 (by decide) ?_
  refine E_aloadN dX8_weak_8 rfl ?_
  refine E_ifnullN 37 dX8_weak_10 (by decide) ?_
  refine E_ldc2 dX8_weak_37 kl_X8_118 ?_
  exact E_retl dX8_weak_40 rfl (Nat.le_of_ble_eq_true rfl) (Nat.le_of_ble_eq_true rfl) ⟨rfl, by rw [wkR, hn], rfl⟩
theorem weak_some {a : Ab} {h : Hp} (C : CRep a h) {k g : Nat} {xs : List Nat} {p n : Int32} (hk : k < 2) (hg : g < 8) (hx : a.2.2.2.1 k g = some xs) : E mX8_weak none (fun v sh' h' => sh' = SH ∧ v = some (.long (wkR a (nI k) (nI g) p n)) ∧ h' = h) 6 [some (.ref 0), some (.int (nI k)), some (.int (nI g)), some (.int p), some (.int n), none] [.ref (rId (sid k) g)] SH h 0 0 := by
  have R := C.row hk hg hx
  have hm : xs.length ≤ 500 := R.1.2.2.2.2.1
  have h1 : (1 : Int32).toInt = 1 := by decide
  have h64 : (64 : Int32).toInt = 64 := by decide
  have hR : wkR a (nI k) (nI g) p n = if 1 ≤ n.toInt ∧ n.toInt ≤ 64 ∧ 0 ≤ p.toInt ∧ p.toInt + n.toInt ≤ xs.length then lN (wk n.toNatClampNeg (fun j => xs.getD (p.toNatClampNeg + j) 0)) else -1 := by
    simp only [wkR, Fo_nI a hk hg, hx]
  rw [hR]
  refine E_astore dX8_weak_6 (by decide) ?_
  refine E_aload dX8_weak_8 rfl ?_
  refine E_ifnull dX8_weak_10 ?_
  refine E_iload dX8_weak_13 rfl ?_
  refine E_ic 1 dX8_weak_15 (by decide) ?_
  refine E_icmp_lt 37 dX8_weak_16 (by decide) (fun c_16 => ?_) (fun c_16 => ?_)
  · refine E_ldc2 dX8_weak_37 kl_X8_118 ?_
    exact E_retl dX8_weak_40 rfl (Nat.le_of_ble_eq_true rfl) (Nat.le_of_ble_eq_true rfl) ⟨rfl, by rw [i_lt, h1] at c_16; rw [if_neg (by omega)], rfl⟩
  · refine E_iload dX8_weak_19 rfl ?_
    refine E_bi 64 dX8_weak_21 (by decide) ?_
    refine E_icmp_gt 37 dX8_weak_23 (by decide) (fun c_23 => ?_) (fun c_23 => ?_)
    · refine E_ldc2 dX8_weak_37 kl_X8_118 ?_
      exact E_retl dX8_weak_40 rfl (Nat.le_of_ble_eq_true rfl) (Nat.le_of_ble_eq_true rfl) ⟨rfl, by rw [i_lt, h64] at c_23; rw [if_neg (by omega)], rfl⟩
    · refine E_aload dX8_weak_26 rfl ?_
      refine E_iload_n dX8_weak_28 rfl ?_
      refine E_iload dX8_weak_29 rfl ?_
      refine cV2 (N := mX3_holds) dX8_weak_31 cn_X3_holds lk_X8_58 ⟨Nat.le_of_ble_eq_true rfl, Nat.le_of_ble_eq_true rfl⟩ R.1.1 rfl (Nat.le_of_ble_eq_true rfl) ⟨rfl, rfl⟩ (c_Row_holds R.1 _ _) (fun v2 h2 ⟨hv2, hh2⟩ => ?_)
      rw [hv2, hh2]
      rw [i_lt, h1] at c_16
      rw [i_lt, h64] at c_23
      refine E_if_ne 41 dX8_weak_34 (by decide) (fun c_34 => ?_) (fun c_34 => ?_)
      · have hc : 0 ≤ p.toInt ∧ 0 ≤ n.toInt ∧ p.toInt + n.toInt ≤ xs.length := by
          rcases Decidable.em (0 ≤ p.toInt ∧ 0 ≤ n.toInt ∧ p.toInt + n.toInt ≤ xs.length) with q | q
          · exact q
          · rw [if_neg q] at c_34; exact absurd rfl c_34
        obtain ⟨j, hj, rfl⟩ := nI_of (x := n) (by rw [i_lt, i_0]; omega)
        obtain ⟨q, hq, rfl⟩ := nI_of (x := p) (by rw [i_lt, i_0]; omega)
        rw [nI_toInt hj] at hc c_16 c_23
        rw [nI_toInt hq] at hc
        refine E_aload dX8_weak_41 rfl ?_
        refine E_iload_n dX8_weak_43 rfl ?_
        refine E_iload dX8_weak_44 rfl ?_
        refine cV2 (N := mX3_weakOf) dX8_weak_46 cn_X3_weakOf lk_X8_127 ⟨Nat.le_of_ble_eq_true rfl, Nat.le_of_ble_eq_true rfl⟩ R.1.1 rfl (Nat.le_of_ble_eq_true rfl) ⟨rfl, rfl⟩ (c_Row_weakOf R.1 R.2 (by omega) (by omega)) (fun v5 h5 ⟨hv5, hh5⟩ => ?_)
        rw [hv5, hh5]
        exact E_retl dX8_weak_49 rfl (Nat.le_of_ble_eq_true rfl) (Nat.le_of_ble_eq_true rfl) ⟨rfl, by rw [if_pos (by rw [nI_toInt hj, nI_toInt hq]; omega), nI_clamp hj, nI_clamp hq], rfl⟩
      · refine E_ldc2 dX8_weak_37 kl_X8_118 ?_
        exact E_retl dX8_weak_40 rfl (Nat.le_of_ble_eq_true rfl) (Nat.le_of_ble_eq_true rfl) ⟨rfl, by rw [if_neg (fun z => absurd c_34 (by rw [if_pos (by omega)]; decide))], rfl⟩
theorem c_weak {a : Ab} {h : Hp} (C : CRep a h) (e f p n : Int32) : Sp0 mX8_weak [.ref 0, .int e, .int f, .int p, .int n] SH h (fun v h' => v = some (.long (wkR a e f p n)) ∧ h' = h) := by
  refine Sp0.of (by decide) (Nat.le_of_ble_eq_true rfl) ?_
  show E mX8_weak none _ 0 [some (.ref 0), some (.int e), some (.int f), some (.int p), some (.int n), none] [] SH h 0 0
  refine E_aload_n dX8_weak_0 rfl ?_
  refine E_iload_n dX8_weak_1 rfl ?_
  refine E_iload_n dX8_weak_2 rfl ?_
  refine cV2 (N := mX8_existing) dX8_weak_3 cn_X8_existing lk_X8_54 ⟨Nat.le_of_ble_eq_true rfl, Nat.le_of_ble_eq_true rfl⟩ rfl rfl (Nat.le_of_ble_eq_true rfl) ⟨rfl, rfl⟩ (c_ex C e f) (fun v2 h2 ⟨hv2, hh2⟩ => ?_)
  rw [hh2]
  rcases hv2 with ⟨hn, hv2⟩ | ⟨k, g, xs, hk, hg, he, hf, hx, hv2⟩
  · rw [hv2]
    exact weak_none hn
  · rw [hv2]
    subst he hf
    exact weak_some C hk hg hx
def saR (a : Ab) (e f : Int32) : Int32 := if eOk e ∧ fOk f then nI ((Fo a (1 - e) f).getD []).length else -1
def saS (a : Ab) (e f : Int32) : Ab := if eOk e ∧ fOk f then setFo a e f (Fo a (1 - e) f) else a
theorem one_sub {k : Nat} (hk : k < 2) : (1 : Int32) - nI k = nI (1 - k) := by rcases (show k = 0 ∨ k = 1 by omega) with rfl | rfl <;> decide
theorem sid_ne {k : Nat} (hk : k < 2) : sid (1 - k) + 20 ≤ sid k ∨ sid k + 20 ≤ sid (1 - k) := by rcases (show k = 0 ∨ k = 1 by omega) with rfl | rfl <;> decide
theorem c_same {a : Ab} {h : Hp} (C : CRep a h) (e f : Int32) : Sp0 mX8_same [.ref 0, .int e, .int f] SH h (fun v h' => v = some (.int (saR a e f)) ∧ CRep (saS a e f) h' ∧ CF h h') := by
  refine Sp0.of (by decide) (Nat.le_of_ble_eq_true rfl) ?_
  show E mX8_same none _ 0 [some (.ref 0), some (.int e), some (.int f), none, none] [] SH h 0 0
  by_cases he : eOk e
  · obtain ⟨k, hk, rfl⟩ := eOk_of he
    by_cases hf : fOk f
    · obtain ⟨g, hg, rfl⟩ := isF_of hf
      have S := C.side k hk
      have S1 := C.side (1 - k) (by omega)
      have hne := sid_ne hk
      have hFo : Fo a (1 - nI k) (nI g) = a.2.2.2.1 (1 - k) g := by rw [one_sub hk, Fo_nI a (by omega) hg]
      have fin : ∀ (h4 : Hp) (x4 : Option Value), SideA SH h4 (sid k) (setF (a.2.2.2.1 k) g (a.2.2.2.1 (1 - k) g)) → SideF h h4 (sid k) → E mX8_same none (fun v sh' h' => sh' = SH ∧ v = some (.int (saR a (nI k) (nI g))) ∧ CRep (saS a (nI k) (nI g)) h' ∧ CF h h') 55 [some (.ref 0), some (.int (nI k)), some (.int (nI g)), some (.ref (sid k)), x4] [] SH h4 0 0 := by
        intro h4 x4 S4 F4
        refine E_aload_n dX8_same_55 rfl ?_
        refine E_iload_n dX8_same_56 rfl ?_
        refine cV1 (N := mX6_countOf) dX8_same_57 cn_X6_countOf lk_X8_46 ⟨Nat.le_of_ble_eq_true rfl, Nat.le_of_ble_eq_true rfl⟩ S.1.1.1 rfl (Nat.le_of_ble_eq_true rfl) ⟨rfl, rfl⟩ (c_countOf S4.1 hg) (fun v5 h5 ⟨hv5, hh5⟩ => ?_)
        rw [hv5, hh5, setF_at]
        exact E_reti dX8_same_60 rfl rfl (Nat.le_of_ble_eq_true rfl) (Nat.le_of_ble_eq_true rfl) ⟨rfl, by rw [saR, if_pos ⟨he, hf⟩, hFo], by rw [saS, if_pos ⟨he, hf⟩, hFo, setFo_nI a hk hg]; exact C.setF hk S4 F4, CF_fr CF.rf F4 (sid_59 _)⟩
      cases hx : a.2.2.2.1 (1 - k) g with
      | none =>
        rw [hx] at fin
        refine E_iload_n dX8_same_0 rfl ?_
        refine cS1 (N := mX8_isEnd) dX8_same_1 cn_X8_isEnd lk_X8_35 ⟨Nat.le_of_ble_eq_true rfl, Nat.le_of_ble_eq_true rfl⟩ (Nat.le_of_ble_eq_true rfl) ⟨rfl, rfl⟩ (c_isEnd _) (fun v2 h2 ⟨hv2, hh2⟩ => ?_)
        rw [hv2, hh2, if_pos he]
        refine E_if_eq 14 dX8_same_4 (by decide) (fun c_4 => absurd c_4 (by decide)) (fun c_4 => ?_)
        refine E_iload_n dX8_same_7 rfl ?_
        refine cS1 (N := mX8_isFile) dX8_same_8 cn_X8_isFile lk_X8_39 ⟨Nat.le_of_ble_eq_true rfl, Nat.le_of_ble_eq_true rfl⟩ (Nat.le_of_ble_eq_true rfl) ⟨rfl, rfl⟩ (c_isFile _) (fun v3 h3 ⟨hv3, hh3⟩ => ?_)
        rw [hv3, hh3, if_pos hf]
        refine E_if_ne 16 dX8_same_11 (by decide) (fun c_11 => ?_) (fun c_11 => absurd c_11 (by decide))
        refine E_aload_n dX8_same_16 rfl ?_
        refine E_iload_n dX8_same_17 rfl ?_
        refine cV1 (N := mX8_side) dX8_same_18 cn_X8_side lk_X8_42 ⟨Nat.le_of_ble_eq_true rfl, Nat.le_of_ble_eq_true rfl⟩ rfl rfl (Nat.le_of_ble_eq_true rfl) ⟨rfl, rfl⟩ (c_side C hk) (fun v4 h4 ⟨hv4, hh4⟩ => ?_)
        rw [hv4, hh4]
        refine E_astore_n dX8_same_21 (by decide) ?_
        refine E_aload_n dX8_same_22 rfl ?_
        refine E_ic 1 dX8_same_23 (by decide) ?_
        refine E_iload_n dX8_same_24 rfl ?_
        refine E_isub dX8_same_25 ?_
        rw [one_sub hk]
        refine cV1 (N := mX8_side) dX8_same_26 cn_X8_side lk_X8_42 ⟨Nat.le_of_ble_eq_true rfl, Nat.le_of_ble_eq_true rfl⟩ rfl rfl (Nat.le_of_ble_eq_true rfl) ⟨rfl, rfl⟩ (c_side C (by omega)) (fun v5 h5 ⟨hv5, hh5⟩ => ?_)
        rw [hv5, hh5]
        refine E_iload_n dX8_same_29 rfl ?_
        refine cV1 (N := mX6_existing) dX8_same_30 cn_X6_existing lk_X8_84 ⟨Nat.le_of_ble_eq_true rfl, Nat.le_of_ble_eq_true rfl⟩ S1.1.1.1 rfl (Nat.le_of_ble_eq_true rfl) ⟨rfl, rfl⟩ (c_existing S1.1 _) (fun v6 h6 ⟨hv6, hh6⟩ => ?_)
        rw [hv6, hh6, exF_none hg hx]
        refine E_astoreN dX8_same_33 (by decide) ?_
        refine E_aloadN dX8_same_35 rfl ?_
        refine E_ifnonnullN dX8_same_37 ?_
        refine E_aload_n dX8_same_40 rfl ?_
        refine E_iload_n dX8_same_41 rfl ?_
        refine cV1 (N := mX6_remove) dX8_same_42 cn_X6_remove lk_X8_81 ⟨Nat.le_of_ble_eq_true rfl, Nat.le_of_ble_eq_true rfl⟩ S.1.1.1 rfl (Nat.le_of_ble_eq_true rfl) ⟨rfl, rfl⟩ (c_remove S hg) (fun v7 h7 ⟨hv7, S7, F7⟩ => ?_)
        rw [hv7]
        refine E_goto 55 dX8_same_45 (by decide) ?_
        exact fin h7 _ S7 F7
      | some xs =>
        have R := C.row (k := 1 - k) (by omega) hg hx
        rw [hx] at fin
        refine E_iload_n dX8_same_0 rfl ?_
        refine cS1 (N := mX8_isEnd) dX8_same_1 cn_X8_isEnd lk_X8_35 ⟨Nat.le_of_ble_eq_true rfl, Nat.le_of_ble_eq_true rfl⟩ (Nat.le_of_ble_eq_true rfl) ⟨rfl, rfl⟩ (c_isEnd _) (fun v2 h2 ⟨hv2, hh2⟩ => ?_)
        rw [hv2, hh2, if_pos he]
        refine E_if_eq 14 dX8_same_4 (by decide) (fun c_4 => absurd c_4 (by decide)) (fun c_4 => ?_)
        refine E_iload_n dX8_same_7 rfl ?_
        refine cS1 (N := mX8_isFile) dX8_same_8 cn_X8_isFile lk_X8_39 ⟨Nat.le_of_ble_eq_true rfl, Nat.le_of_ble_eq_true rfl⟩ (Nat.le_of_ble_eq_true rfl) ⟨rfl, rfl⟩ (c_isFile _) (fun v3 h3 ⟨hv3, hh3⟩ => ?_)
        rw [hv3, hh3, if_pos hf]
        refine E_if_ne 16 dX8_same_11 (by decide) (fun c_11 => ?_) (fun c_11 => absurd c_11 (by decide))
        refine E_aload_n dX8_same_16 rfl ?_
        refine E_iload_n dX8_same_17 rfl ?_
        refine cV1 (N := mX8_side) dX8_same_18 cn_X8_side lk_X8_42 ⟨Nat.le_of_ble_eq_true rfl, Nat.le_of_ble_eq_true rfl⟩ rfl rfl (Nat.le_of_ble_eq_true rfl) ⟨rfl, rfl⟩ (c_side C hk) (fun v4 h4 ⟨hv4, hh4⟩ => ?_)
        rw [hv4, hh4]
        refine E_astore_n dX8_same_21 (by decide) ?_
        refine E_aload_n dX8_same_22 rfl ?_
        refine E_ic 1 dX8_same_23 (by decide) ?_
        refine E_iload_n dX8_same_24 rfl ?_
        refine E_isub dX8_same_25 ?_
        rw [one_sub hk]
        refine cV1 (N := mX8_side) dX8_same_26 cn_X8_side lk_X8_42 ⟨Nat.le_of_ble_eq_true rfl, Nat.le_of_ble_eq_true rfl⟩ rfl rfl (Nat.le_of_ble_eq_true rfl) ⟨rfl, rfl⟩ (c_side C (by omega)) (fun v5 h5 ⟨hv5, hh5⟩ => ?_)
        rw [hv5, hh5]
        refine E_iload_n dX8_same_29 rfl ?_
        refine cV1 (N := mX6_existing) dX8_same_30 cn_X6_existing lk_X8_84 ⟨Nat.le_of_ble_eq_true rfl, Nat.le_of_ble_eq_true rfl⟩ S1.1.1.1 rfl (Nat.le_of_ble_eq_true rfl) ⟨rfl, rfl⟩ (c_existing S1.1 _) (fun v6 h6 ⟨hv6, hh6⟩ => ?_)
        rw [hv6, hh6, exF_of hg hx]
        refine E_astore dX8_same_33 (by decide) ?_
        refine E_aload dX8_same_35 rfl ?_
        refine E_ifnonnull 48 dX8_same_37 (by decide) ?_
        refine E_aload_n dX8_same_48 rfl ?_
        refine E_iload_n dX8_same_49 rfl ?_
        refine E_aload dX8_same_50 rfl ?_
        refine cV2 (N := mX6_replace) dX8_same_52 cn_X6_replace lk_X8_87 ⟨Nat.le_of_ble_eq_true rfl, Nat.le_of_ble_eq_true rfl⟩ S.1.1.1 rfl (Nat.le_of_ble_eq_true rfl) ⟨rfl, rfl⟩ (c_replace S hg R.1 (by unfold rId; omega) (by unfold cId; omega) R.2) (fun v7 h7 ⟨hv7, S7, F7⟩ => ?_)
        rw [hv7]
        exact fin h7 _ S7 F7
    · refine E_iload_n dX8_same_0 rfl ?_
      refine cS1 (N := mX8_isEnd) dX8_same_1 cn_X8_isEnd lk_X8_35 ⟨Nat.le_of_ble_eq_true rfl, Nat.le_of_ble_eq_true rfl⟩ (Nat.le_of_ble_eq_true rfl) ⟨rfl, rfl⟩ (c_isEnd _) (fun v2 h2 ⟨hv2, hh2⟩ => ?_)
      rw [hv2, hh2, if_pos he]
      refine E_if_eq 14 dX8_same_4 (by decide) (fun c_4 => absurd c_4 (by decide)) (fun c_4 => ?_)
      refine E_iload_n dX8_same_7 rfl ?_
      refine cS1 (N := mX8_isFile) dX8_same_8 cn_X8_isFile lk_X8_39 ⟨Nat.le_of_ble_eq_true rfl, Nat.le_of_ble_eq_true rfl⟩ (Nat.le_of_ble_eq_true rfl) ⟨rfl, rfl⟩ (c_isFile _) (fun v3 h3 ⟨hv3, hh3⟩ => ?_)
      rw [hv3, hh3, if_neg hf]
      refine E_if_ne 16 dX8_same_11 (by decide) (fun c_11 => absurd rfl c_11) (fun c_11 => ?_)
      refine E_ic (-1) dX8_same_14 (by decide) ?_
      exact E_reti dX8_same_15 rfl rfl (Nat.le_of_ble_eq_true rfl) (Nat.le_of_ble_eq_true rfl) ⟨rfl, by rw [saR, if_neg (fun z => hf z.2)], by rw [saS, if_neg (fun z => hf z.2)]; exact C, CF.rf⟩
  · refine E_iload_n dX8_same_0 rfl ?_
    refine cS1 (N := mX8_isEnd) dX8_same_1 cn_X8_isEnd lk_X8_35 ⟨Nat.le_of_ble_eq_true rfl, Nat.le_of_ble_eq_true rfl⟩ (Nat.le_of_ble_eq_true rfl) ⟨rfl, rfl⟩ (c_isEnd _) (fun v2 h2 ⟨hv2, hh2⟩ => ?_)
    rw [hv2, hh2, if_neg he]
    refine E_if_eq 14 dX8_same_4 (by decide) (fun c_4 => ?_) (fun c_4 => absurd rfl c_4)
    refine E_ic (-1) dX8_same_14 (by decide) ?_
    exact E_reti dX8_same_15 rfl rfl (Nat.le_of_ble_eq_true rfl) (Nat.le_of_ble_eq_true rfl) ⟨rfl, by rw [saR, if_neg (fun z => he z.1)], by rw [saS, if_neg (fun z => he z.1)]; exact C, CF.rf⟩

