/-! RollingSync: write, again -/
abbrev wrOk (a : Ab) (e f p n : Int32) : Prop := (eOk e ∧ fOk f) ∧ (0 ≤ n.toInt ∧ n.toInt ≤ 8) ∧ 0 ≤ p.toInt ∧ p.toInt ≤ ((Fo a e f).getD []).length
def wrR (a : Ab) (e f p : Int32) (x : Int64) (n : Int32) : Int32 := if wrOk a e f p n then (if 500 < p.toInt + n.toInt then -3 else nI (putL ((Fo a e f).getD []) p.toNatClampNeg (lowB x n.toNatClampNeg)).length) else -1
def wrS (a : Ab) (e f p : Int32) (x : Int64) (n : Int32) : Ab := if wrOk a e f p n ∧ ¬ 500 < p.toInt + n.toInt then setFo a e f (some (putL ((Fo a e f).getD []) p.toNatClampNeg (lowB x n.toNatClampNeg))) else a
theorem wr_bad {a : Ab} {h : Hp} {e f p n : Int32} {x : Int64} (C : CRep a h) (hb : ¬ wrOk a e f p n) : (some (Value.int (-1)) : Option Value) = some (.int (wrR a e f p x n)) ∧ CRep (wrS a e f p x n) h ∧ CF h h := ⟨by rw [wrR, if_neg hb], by rw [wrS, if_neg (fun z => hb z.1)]; exact C, CF.rf⟩
theorem c_write {a : Ab} {h : Hp} (C : CRep a h) (e f p : Int32) (x : Int64) (n : Int32) : Sp0 mX8_write [.ref 0, .int e, .int f, .int p, .long x, .int n] SH h (fun v h' => v = some (.int (wrR a e f p x n)) ∧ CRep (wrS a e f p x n) h' ∧ CF h h') := by
  have h8 : (8 : Int32).toInt = 8 := by decide
  refine Sp0.of (by decide) (Nat.le_of_ble_eq_true rfl) ?_
  show E mX8_write none _ 0 [some (.ref 0), some (.int e), some (.int f), some (.int p), some (.long x), none, some (.int n), none] [] SH h 0 0
  by_cases he : eOk e
  · obtain ⟨k, hk, rfl⟩ := eOk_of he
    by_cases hf : fOk f
    · obtain ⟨g, hg, rfl⟩ := isF_of hf
      have S := C.side k hk
      have hFo : Fo a (nI k) (nI g) = a.2.2.2.1 k g := Fo_nI a hk hg
      have hlen : ((a.2.2.2.1 k g).getD []).length ≤ 500 := (S.1.2.1 g hg).2.2.2.2.1
      generalize hxs : (a.2.2.2.1 k g).getD [] = xs at hlen
      have hL : (nI xs.length).toInt = xs.length := nI_toInt (by omega)
      have hok : wrOk a (nI k) (nI g) p n ↔ (0 ≤ n.toInt ∧ n.toInt ≤ 8) ∧ 0 ≤ p.toInt ∧ p.toInt ≤ xs.length := by
        unfold wrOk
        rw [hFo, hxs]
        exact ⟨fun z => z.2, fun z => ⟨⟨he, hf⟩, z⟩⟩
      refine E_iload_n dX8_write_0 rfl ?_
      refine cS1 (N := mX8_isEnd) dX8_write_1 cn_X8_isEnd lk_X8_35 ⟨Nat.le_of_ble_eq_true rfl, Nat.le_of_ble_eq_true rfl⟩ (Nat.le_of_ble_eq_true rfl) ⟨rfl, rfl⟩ (c_isEnd _) (fun v2 h2 ⟨hv2, hh2⟩ => ?_)
      rw [hv2, hh2, if_pos he]
      refine E_if_eq 26 dX8_write_4 (by decide) (fun c_4 => absurd c_4 (by decide)) (fun c_4 => ?_)
      refine E_iload_n dX8_write_7 rfl ?_
      refine cS1 (N := mX8_isFile) dX8_write_8 cn_X8_isFile lk_X8_39 ⟨Nat.le_of_ble_eq_true rfl, Nat.le_of_ble_eq_true rfl⟩ (Nat.le_of_ble_eq_true rfl) ⟨rfl, rfl⟩ (c_isFile _) (fun v3 h3 ⟨hv3, hh3⟩ => ?_)
      rw [hv3, hh3, if_pos hf]
      refine E_if_eq 26 dX8_write_11 (by decide) (fun c_11 => absurd c_11 (by decide)) (fun c_11 => ?_)
      refine E_iload dX8_write_14 rfl ?_
      refine E_if_lt 26 dX8_write_16 (by decide) (fun c_16 => ?_) (fun c_16 => ?_)
      · refine E_ic (-1) dX8_write_26 (by decide) ?_
        exact E_reti dX8_write_27 rfl rfl (Nat.le_of_ble_eq_true rfl) (Nat.le_of_ble_eq_true rfl) ⟨rfl, wr_bad C (fun z => by rw [i_lt, i_0] at c_16; have := (hok.mp z).1; omega)⟩
      · refine E_iload dX8_write_19 rfl ?_
        refine E_bi 8 dX8_write_21 (by decide) ?_
        refine E_icmp_le 28 dX8_write_23 (by decide) (fun c_23 => ?_) (fun c_23 => ?_)
        · refine E_aload_n dX8_write_28 rfl ?_
          refine E_iload_n dX8_write_29 rfl ?_
          refine cV1 (N := mX8_side) dX8_write_30 cn_X8_side lk_X8_42 ⟨Nat.le_of_ble_eq_true rfl, Nat.le_of_ble_eq_true rfl⟩ rfl rfl (Nat.le_of_ble_eq_true rfl) ⟨rfl, rfl⟩ (c_side C hk) (fun v4 h4 ⟨hv4, hh4⟩ => ?_)
          rw [hv4, hh4]
          refine E_astore dX8_write_33 (by decide) ?_
          refine E_iload_n dX8_write_35 rfl ?_
          refine E_if_lt 49 dX8_write_36 (by decide) (fun c_36 => ?_) (fun c_36 => ?_)
          · refine E_ic (-1) dX8_write_49 (by decide) ?_
            exact E_reti dX8_write_50 rfl rfl (Nat.le_of_ble_eq_true rfl) (Nat.le_of_ble_eq_true rfl) ⟨rfl, wr_bad C (fun z => by rw [i_lt, i_0] at c_36; have := (hok.mp z).2; omega)⟩
          · refine E_iload_n dX8_write_39 rfl ?_
            refine E_aload dX8_write_40 rfl ?_
            refine E_iload_n dX8_write_42 rfl ?_
            refine cV1 (N := mX6_countOf) dX8_write_43 cn_X6_countOf lk_X8_46 ⟨Nat.le_of_ble_eq_true rfl, Nat.le_of_ble_eq_true rfl⟩ S.1.1.1 rfl (Nat.le_of_ble_eq_true rfl) ⟨rfl, rfl⟩ (c_countOf S.1 hg) (fun v5 h5 ⟨hv5, hh5⟩ => ?_)
            rw [hv5, hh5, hxs]
            refine E_icmp_le 51 dX8_write_46 (by decide) (fun c_46 => ?_) (fun c_46 => ?_)
            · rw [i_le, hL] at c_46
              rw [i_le, h8] at c_23
              rw [i_lt, i_0] at c_16 c_36
              obtain ⟨j, hj, rfl⟩ := nI_of (x := n) (by rw [i_lt, i_0]; exact c_16)
              obtain ⟨q, hq, rfl⟩ := nI_of (x := p) (by rw [i_lt, i_0]; exact c_36)
              rw [nI_toInt hj] at c_23
              rw [nI_toInt hq] at c_46
              have hyes : wrOk a (nI k) (nI g) (nI q) (nI j) := hok.mpr (by rw [nI_toInt hj, nI_toInt hq]; omega)
              refine E_iload_n dX8_write_51 rfl ?_
              refine E_iload dX8_write_52 rfl ?_
              refine E_iadd dX8_write_54 ?_
              refine E_si 500 dX8_write_55 (by decide) ?_
              rw [nI_add, show (500 : Int32) = nI 500 by decide]
              refine E_icmp_le 64 dX8_write_58 (by decide) (fun c_58 => ?_) (fun c_58 => ?_)
              · have hle : q + j ≤ 500 := (nI_leI (by omega) (by omega)).mp c_58
                refine E_aload dX8_write_64 rfl ?_
                refine E_iload_n dX8_write_66 rfl ?_
                refine E_iload_n dX8_write_67 rfl ?_
                refine E_lload dX8_write_68 rfl ?_
                refine E_iload dX8_write_70 rfl ?_
                refine cV4 (N := mX6_put) dX8_write_72 cn_X6_put lk_X8_50 ⟨Nat.le_of_ble_eq_true rfl, Nat.le_of_ble_eq_true rfl⟩ S.1.1.1 rfl (Nat.le_of_ble_eq_true rfl) ⟨rfl, rfl⟩ (c_put S hg (by rw [hxs]; omega) (by omega) hle) (fun v6 h6 ⟨hv6, S6, F6⟩ => ?_)
                rw [hv6]
                rw [hxs] at S6
                refine E_aload dX8_write_75 rfl ?_
                refine E_iload_n dX8_write_77 rfl ?_
                refine cV1 (N := mX6_countOf) dX8_write_78 cn_X6_countOf lk_X8_46 ⟨Nat.le_of_ble_eq_true rfl, Nat.le_of_ble_eq_true rfl⟩ S.1.1.1 rfl (Nat.le_of_ble_eq_true rfl) ⟨rfl, rfl⟩ (c_countOf S6.1 hg) (fun v7 h7 ⟨hv7, hh7⟩ => ?_)
                rw [hv7, hh7, setF_at]
                exact E_reti dX8_write_81 rfl rfl (Nat.le_of_ble_eq_true rfl) (Nat.le_of_ble_eq_true rfl) ⟨rfl, by rw [wrR, if_pos hyes, if_neg (by rw [nI_toInt hj, nI_toInt hq]; omega), nI_clamp hj, nI_clamp hq, hFo, hxs]; rfl, by rw [wrS, if_pos ⟨hyes, by rw [nI_toInt hj, nI_toInt hq]; omega⟩, nI_clamp hj, nI_clamp hq, hFo, hxs, setFo_nI a hk hg]; exact C.setF hk S6 F6, CF_fr CF.rf F6 (sid_59 _)⟩
              · refine E_bi (-3) dX8_write_61 (by decide) ?_
                exact E_reti dX8_write_63 rfl rfl (Nat.le_of_ble_eq_true rfl) (Nat.le_of_ble_eq_true rfl) ⟨rfl, by rw [wrR, if_pos hyes, if_pos (by rw [nI_toInt hj, nI_toInt hq]; have : ¬ q + j ≤ 500 := fun z => c_58 (nI_le z (by omega)); omega)], by rw [wrS, if_neg (fun z => z.2 (by rw [nI_toInt hj, nI_toInt hq]; have : ¬ q + j ≤ 500 := fun z => c_58 (nI_le z (by omega)); omega))]; exact C, CF.rf⟩
            · refine E_ic (-1) dX8_write_49 (by decide) ?_
              exact E_reti dX8_write_50 rfl rfl (Nat.le_of_ble_eq_true rfl) (Nat.le_of_ble_eq_true rfl) ⟨rfl, wr_bad C (fun z => by rw [i_le, hL] at c_46; have := (hok.mp z).2; omega)⟩
        · refine E_ic (-1) dX8_write_26 (by decide) ?_
          exact E_reti dX8_write_27 rfl rfl (Nat.le_of_ble_eq_true rfl) (Nat.le_of_ble_eq_true rfl) ⟨rfl, wr_bad C (fun z => by rw [i_le, h8] at c_23; have := (hok.mp z).1; omega)⟩
    · refine E_iload_n dX8_write_0 rfl ?_
      refine cS1 (N := mX8_isEnd) dX8_write_1 cn_X8_isEnd lk_X8_35 ⟨Nat.le_of_ble_eq_true rfl, Nat.le_of_ble_eq_true rfl⟩ (Nat.le_of_ble_eq_true rfl) ⟨rfl, rfl⟩ (c_isEnd _) (fun v2 h2 ⟨hv2, hh2⟩ => ?_)
      rw [hv2, hh2, if_pos he]
      refine E_if_eq 26 dX8_write_4 (by decide) (fun c_4 => absurd c_4 (by decide)) (fun c_4 => ?_)
      refine E_iload_n dX8_write_7 rfl ?_
      refine cS1 (N := mX8_isFile) dX8_write_8 cn_X8_isFile lk_X8_39 ⟨Nat.le_of_ble_eq_true rfl, Nat.le_of_ble_eq_true rfl⟩ (Nat.le_of_ble_eq_true rfl) ⟨rfl, rfl⟩ (c_isFile _) (fun v3 h3 ⟨hv3, hh3⟩ => ?_)
      rw [hv3, hh3, if_neg hf]
      refine E_if_eq 26 dX8_write_11 (by decide) (fun c_11 => ?_) (fun c_11 => absurd rfl c_11)
      refine E_ic (-1) dX8_write_26 (by decide) ?_
      exact E_reti dX8_write_27 rfl rfl (Nat.le_of_ble_eq_true rfl) (Nat.le_of_ble_eq_true rfl) ⟨rfl, wr_bad C (fun z => hf z.1.2)⟩
  · refine E_iload_n dX8_write_0 rfl ?_
    refine cS1 (N := mX8_isEnd) dX8_write_1 cn_X8_isEnd lk_X8_35 ⟨Nat.le_of_ble_eq_true rfl, Nat.le_of_ble_eq_true rfl⟩ (Nat.le_of_ble_eq_true rfl) ⟨rfl, rfl⟩ (c_isEnd _) (fun v2 h2 ⟨hv2, hh2⟩ => ?_)
    rw [hv2, hh2, if_neg he]
    refine E_if_eq 26 dX8_write_4 (by decide) (fun c_4 => ?_) (fun c_4 => absurd rfl c_4)
    refine E_ic (-1) dX8_write_26 (by decide) ?_
    exact E_reti dX8_write_27 rfl rfl (Nat.le_of_ble_eq_true rfl) (Nat.le_of_ble_eq_true rfl) ⟨rfl, wr_bad C (fun z => he z.1.1)⟩
/-- n bytes from p on are put behind, one by one -/
def agL (xs : List Nat) (p : Nat) : Nat → List Nat
  | 0 => xs
  | i + 1 => agL xs p i ++ [(agL xs p i).getD (p + i) 0]
theorem agL_len (xs : List Nat) (p : Nat) : ∀ i, (agL xs p i).length = xs.length + i
  | 0 => by simp [agL]
  | i + 1 => by simp [agL, agL_len xs p i]; omega
theorem agL_lt {xs : List Nat} {p : Nat} (h : ∀ x ∈ xs, x < 256) : ∀ i, ∀ x ∈ agL xs p i, x < 256
  | 0 => h
  | i + 1 => by
    have ih := agL_lt (p := p) h i
    exact app_lt ih (fun x hx => by rw [List.mem_singleton.mp hx]; exact getD_lt ih _)
def agOk (xs : List Nat) (p n : Int32) : Prop := (0 ≤ p.toInt ∧ p.toInt < xs.length) ∧ 0 ≤ n.toInt ∧ n.toInt ≤ 500
def agR (a : Ab) (e f p n : Int32) : Int32 := match Fo a e f with
  | none => -1
  | some xs => if (0 ≤ p.toInt ∧ p.toInt < xs.length) ∧ 0 ≤ n.toInt ∧ n.toInt ≤ 500 then (if 500 < xs.length + n.toInt then -3 else nI (agL xs p.toNatClampNeg n.toNatClampNeg).length) else -1
def agS (a : Ab) (e f p n : Int32) : Ab := match Fo a e f with
  | none => a
  | some xs => if ((0 ≤ p.toInt ∧ p.toInt < xs.length) ∧ 0 ≤ n.toInt ∧ n.toInt ≤ 500) ∧ ¬ 500 < xs.length + n.toInt then setFo a e f (some (agL xs p.toNatClampNeg n.toNatClampNeg)) else a
theorem again_none {a : Ab} {h : Hp} {e f p n : Int32} (C : CRep a h) (hn : Fo a e f = none) : E mX8_again none (fun v sh' h' => sh' = SH ∧ v = some (.int (agR a e f p n)) ∧ CRep (agS a e f p n) h' ∧ CF h h') 6 [some (.ref 0), some (.int e), some (.int f), some (.int p), some (.int n), none, none] [.null] SH h 0 0 := by
  refine E_astoreN dX8_again_6 (by decide) ?_
  refine E_aloadN dX8_again_8 rfl ?_
  refine E_ifnullN 36 dX8_again_10 (by decide) ?_
  refine E_ic (-1) dX8_again_36 (by decide) ?_
  exact E_reti dX8_again_37 rfl rfl (Nat.le_of_ble_eq_true rfl) (Nat.le_of_ble_eq_true rfl) ⟨rfl, by rw [agR, hn], by rw [agS, hn]; exact C, CF.rf⟩
theorem again_loop {a : Ab} {h : Hp} (C : CRep a h) {k g q j : Nat} {xs : List Nat} (hk : k < 2) (hg : g < 8) (hx : a.2.2.2.1 k g = some xs) (hX : ∀ x ∈ xs, x < 256) (hq : q < xs.length) (hle : xs.length + j ≤ 500) : ∀ (n i : Nat) (h3 : Hp), j - i ≤ n → i ≤ j → RowL SH h3 (rId (sid k) g) (cId (sid k) g) 500 (agL xs q i) → RowF h h3 (rId (sid k) g) (cId (sid k) g) → E mX8_again none (fun v sh' h' => sh' = SH ∧ v = some (.int (nI (agL xs q j).length)) ∧ CRep (aF a k (setF (a.2.2.2.1 k) g (some (agL xs q j)))) h' ∧ CF h h') 58 [some (.ref 0), some (.int (nI k)), some (.int (nI g)), some (.int (nI q)), some (.int (nI j)), some (.ref (rId (sid k) g)), some (.int (nI i))] [] SH h3 0 0 := by
  have tail : ∀ (h3 : Hp) (x6 : Option Value), RowL SH h3 (rId (sid k) g) (cId (sid k) g) 500 (agL xs q j) → RowF h h3 (rId (sid k) g) (cId (sid k) g) → E mX8_again none (fun v sh' h' => sh' = SH ∧ v = some (.int (nI (agL xs q j).length)) ∧ CRep (aF a k (setF (a.2.2.2.1 k) g (some (agL xs q j)))) h' ∧ CF h h') 85 [some (.ref 0), some (.int (nI k)), some (.int (nI g)), some (.int (nI q)), some (.int (nI j)), some (.ref (rId (sid k) g)), x6] [] SH h3 0 0 := by
    intro h3 x6 R3 F3
    have Z := C_rowRefresh C hk hg hx F3 R3 (agL_lt hX j)
    refine E_aload_n dX8_again_85 rfl ?_
    refine E_iload_n dX8_again_86 rfl ?_
    refine cV1 (N := mX8_side) dX8_again_87 cn_X8_side lk_X8_42 ⟨Nat.le_of_ble_eq_true rfl, Nat.le_of_ble_eq_true rfl⟩ rfl rfl (Nat.le_of_ble_eq_true rfl) ⟨rfl, rfl⟩ (c_side2 C F3 hk hg) (fun v5 h5 ⟨hv5, hh5⟩ => ?_)
    rw [hv5, hh5]
    refine E_iload_n dX8_again_90 rfl ?_
    refine cV1 (N := mX6_refresh) dX8_again_91 cn_X6_refresh lk_X8_75 ⟨Nat.le_of_ble_eq_true rfl, Nat.le_of_ble_eq_true rfl⟩ Z.1.1.1 rfl (Nat.le_of_ble_eq_true rfl) ⟨rfl, rfl⟩ (c_refresh hg Z.1 Z.2 setF_off) (fun v6 h6 ⟨hv6, N6, e61, e62, e63⟩ => ?_)
    rw [hv6]
    refine E_aload dX8_again_94 rfl ?_
    refine cV0 (N := mX3_count) dX8_again_96 cn_X3_count lk_X8_64 ⟨Nat.le_of_ble_eq_true rfl, Nat.le_of_ble_eq_true rfl⟩ R3.1 rfl (Nat.le_of_ble_eq_true rfl) ⟨rfl, rfl⟩ (c_Row_count R3.1) (fun v7 h7 ⟨hv7, hh7⟩ => ?_)
    rw [hv7, hh7, e61, R3.2.2.2.1]
    refine E_reti dX8_again_99 rfl rfl (Nat.le_of_ble_eq_true rfl) (Nat.le_of_ble_eq_true rfl) ?_
    have W := SideA.fin Z.1 (F3.side hg) N6 e61 e62 e63
    exact ⟨rfl, rfl, C.setF hk W.1 W.2, CF_fr CF.rf W.2 (sid_59 _)⟩
  intro n
  induction n with
  | zero =>
    intro i h3 h1 h2 R3 F3
    have e : i = j := by omega
    subst e
    refine E_iload dX8_again_58 rfl ?_
    refine E_iload dX8_again_60 rfl ?_
    refine E_icmp_ge 85 dX8_again_62 (by decide) (fun c_62 => ?_) (fun c_62 => absurd (nI_le (by omega) (by omega)) c_62)
    exact tail h3 _ R3 F3
  | succ n ih =>
    intro i h3 h1 h2 R3 F3
    by_cases e : i = j
    · subst e
      refine E_iload dX8_again_58 rfl ?_
      refine E_iload dX8_again_60 rfl ?_
      refine E_icmp_ge 85 dX8_again_62 (by decide) (fun c_62 => ?_) (fun c_62 => absurd (nI_le (by omega) (by omega)) c_62)
      exact tail h3 _ R3 F3
    · have hl := agL_len xs q i
      refine E_iload dX8_again_58 rfl ?_
      refine E_iload dX8_again_60 rfl ?_
      refine E_icmp_ge 85 dX8_again_62 (by decide) (fun c_62 => absurd c_62 (nI_ge (by omega) (by omega))) (fun c_62 => ?_)
      refine E_aload dX8_again_65 rfl ?_
      refine E_aload dX8_again_67 rfl ?_
      refine E_iload_n dX8_again_69 rfl ?_
      refine E_iload dX8_again_70 rfl ?_
      refine E_iadd dX8_again_72 ?_
      rw [nI_add]
      refine cV1 (N := mX3_get) dX8_again_73 cn_X3_get lk_X8_68 ⟨Nat.le_of_ble_eq_true rfl, Nat.le_of_ble_eq_true rfl⟩ R3.1 rfl (Nat.le_of_ble_eq_true rfl) ⟨rfl, rfl⟩ (c_Row_get R3 _) (fun v4 h4 ⟨hv4, hh4⟩ => ?_)
      rw [hv4, hh4, gI_at (by omega) (by omega)]
      refine cV1 (N := mX3_add) dX8_again_76 cn_X3_add lk_X8_71 ⟨Nat.le_of_ble_eq_true rfl, Nat.le_of_ble_eq_true rfl⟩ R3.1 rfl (Nat.le_of_ble_eq_true rfl) ⟨rfl, rfl⟩ (c_Row_add R3 _) (fun v5 h5 ⟨hv5, R5, F5⟩ => ?_)
      rw [hv5]
      rw [rset, if_neg (by omega), if_pos (by omega)] at R5
      refine E_iinc dX8_again_79 rfl (by decide) ?_
      refine E_goto 58 dX8_again_82 (by decide) ?_
      rw [nI_inc]
      exact ih (i + 1) h5 (by omega) (by omega) R5 (F3.tr F5)
theorem again_some {a : Ab} {h : Hp} (C : CRep a h) {k g : Nat} {xs : List Nat} {p n : Int32} (hk : k < 2) (hg : g < 8) (hx : a.2.2.2.1 k g = some xs) : E mX8_again none (fun v sh' h' => sh' = SH ∧ v = some (.int (agR a (nI k) (nI g) p n)) ∧ CRep (agS a (nI k) (nI g) p n) h' ∧ CF h h') 6 [some (.ref 0), some (.int (nI k)), some (.int (nI g)), some (.int p), some (.int n), none, none] [.ref (rId (sid k) g)] SH h 0 0 := by
  have R := C.row hk hg hx
  have hm : xs.length ≤ 500 := R.1.2.2.2.2.1
  have h1 : (1 : Int32).toInt = 1 := by decide
  have h5 : (500 : Int32).toInt = 500 := by decide
  have bad : ¬ ((0 ≤ p.toInt ∧ p.toInt < xs.length) ∧ 0 ≤ n.toInt ∧ n.toInt ≤ 500) → (some (Value.int (-1)) : Option Value) = some (.int (agR a (nI k) (nI g) p n)) ∧ CRep (agS a (nI k) (nI g) p n) h ∧ CF h h := fun hb => ⟨by simp only [agR, Fo_nI a hk hg, hx, if_neg hb], by simp only [agS, Fo_nI a hk hg, hx, if_neg (fun z => hb (And.left z))]; exact C, CF.rf⟩
  refine E_astore dX8_again_6 (by decide) ?_
  refine E_aload dX8_again_8 rfl ?_
  refine E_ifnull dX8_again_10 ?_
  refine E_aload dX8_again_13 rfl ?_
  refine E_iload_n dX8_again_15 rfl ?_
  refine E_ic 1 dX8_again_16 (by decide) ?_
  refine cV2 (N := mX3_holds) dX8_again_17 cn_X3_holds lk_X8_58 ⟨Nat.le_of_ble_eq_true rfl, Nat.le_of_ble_eq_true rfl⟩ R.1.1 rfl (Nat.le_of_ble_eq_true rfl) ⟨rfl, rfl⟩ (c_Row_holds R.1 _ _) (fun v2 h2 ⟨hv2, hh2⟩ => ?_)
  rw [hv2, hh2, h1]
  refine E_if_eq 36 dX8_again_20 (by decide) (fun c_20 => ?_) (fun c_20 => ?_)
  · refine E_ic (-1) dX8_again_36 (by decide) ?_
    exact E_reti dX8_again_37 rfl rfl (Nat.le_of_ble_eq_true rfl) (Nat.le_of_ble_eq_true rfl) ⟨rfl, bad (fun z => by rw [if_pos (by omega)] at c_20; exact absurd c_20 (by decide))⟩
  · have hc : 0 ≤ p.toInt ∧ p.toInt < xs.length := by
      rcases Decidable.em (0 ≤ p.toInt ∧ (0 : Int) ≤ 1 ∧ p.toInt + 1 ≤ xs.length) with q | q
      · omega
      · rw [if_neg q] at c_20; exact absurd rfl c_20
    refine E_iload dX8_again_23 rfl ?_
    refine E_if_lt 36 dX8_again_25 (by decide) (fun c_25 => ?_) (fun c_25 => ?_)
    · refine E_ic (-1) dX8_again_36 (by decide) ?_
      exact E_reti dX8_again_37 rfl rfl (Nat.le_of_ble_eq_true rfl) (Nat.le_of_ble_eq_true rfl) ⟨rfl, bad (fun z => by rw [i_lt, i_0] at c_25; omega)⟩
    · refine E_iload dX8_again_28 rfl ?_
      refine E_si 500 dX8_again_30 (by decide) ?_
      refine E_icmp_le 38 dX8_again_33 (by decide) (fun c_33 => ?_) (fun c_33 => ?_)
      · rw [i_lt, i_0] at c_25
        rw [i_le, h5] at c_33
        obtain ⟨j, hj, rfl⟩ := nI_of (x := n) (by rw [i_lt, i_0]; exact c_25)
        obtain ⟨q, hq, rfl⟩ := nI_of (x := p) (by rw [i_lt, i_0]; omega)
        have hyes : (0 ≤ (nI q).toInt ∧ (nI q).toInt < xs.length) ∧ 0 ≤ (nI j).toInt ∧ (nI j).toInt ≤ 500 := ⟨hc, by omega, c_33⟩
        rw [nI_toInt hj] at c_33
        rw [nI_toInt hq] at hc
        refine E_aload dX8_again_38 rfl ?_
        refine cV0 (N := mX3_count) dX8_again_40 cn_X3_count lk_X8_64 ⟨Nat.le_of_ble_eq_true rfl, Nat.le_of_ble_eq_true rfl⟩ R.1.1 rfl (Nat.le_of_ble_eq_true rfl) ⟨rfl, rfl⟩ (c_Row_count R.1.1) (fun v3 h3 ⟨hv3, hh3⟩ => ?_)
        rw [hv3, hh3, R.1.2.2.2.1]
        refine E_iload dX8_again_43 rfl ?_
        refine E_iadd dX8_again_45 ?_
        refine E_si 500 dX8_again_46 (by decide) ?_
        rw [nI_add, show (500 : Int32) = nI 500 by decide]
        refine E_icmp_le 55 dX8_again_49 (by decide) (fun c_49 => ?_) (fun c_49 => ?_)
        · refine E_ic 0 dX8_again_55 (by decide) ?_
          refine E_istore dX8_again_56 (by decide) ?_
          have hle : xs.length + j ≤ 500 := (nI_leI (by omega) (by omega)).mp c_49
          have hsm : ¬ 500 < xs.length + (nI j).toInt := by rw [nI_toInt hj]; omega
          have z := again_loop C hk hg hx R.2 (by omega : q < xs.length) hle j 0 h (by omega) (by omega) R.1 RowF.rf
          have e1 : agR a (nI k) (nI g) (nI q) (nI j) = nI (agL xs q j).length := by simp only [agR, Fo_nI a hk hg, hx, if_pos hyes, if_neg hsm, nI_clamp hq, nI_clamp hj]
          have e2 : agS a (nI k) (nI g) (nI q) (nI j) = aF a k (setF (a.2.2.2.1 k) g (some (agL xs q j))) := by simp only [agS, Fo_nI a hk hg, hx, if_pos (And.intro hyes hsm), nI_clamp hq, nI_clamp hj, setFo_nI a hk hg]
          rw [e1, e2]
          exact z
        · refine E_bi (-3) dX8_again_52 (by decide) ?_
          have hbig : 500 < xs.length + (nI j).toInt := by rw [nI_toInt hj]; have : ¬ xs.length + j ≤ 500 := fun z => c_49 (nI_le z (by omega)); omega
          exact E_reti dX8_again_54 rfl rfl (Nat.le_of_ble_eq_true rfl) (Nat.le_of_ble_eq_true rfl) ⟨rfl, by simp only [agR, Fo_nI a hk hg, hx, if_pos hyes, if_pos hbig], by simp only [agS, Fo_nI a hk hg, hx]; rw [if_neg (fun z => z.2 hbig)]; exact C, CF.rf⟩
      · refine E_ic (-1) dX8_again_36 (by decide) ?_
        exact E_reti dX8_again_37 rfl rfl (Nat.le_of_ble_eq_true rfl) (Nat.le_of_ble_eq_true rfl) ⟨rfl, bad (fun z => by rw [i_le, h5] at c_33; omega)⟩
theorem c_again {a : Ab} {h : Hp} (C : CRep a h) (e f p n : Int32) : Sp0 mX8_again [.ref 0, .int e, .int f, .int p, .int n] SH h (fun v h' => v = some (.int (agR a e f p n)) ∧ CRep (agS a e f p n) h' ∧ CF h h') := by
  refine Sp0.of (by decide) (Nat.le_of_ble_eq_true rfl) ?_
  show E mX8_again none _ 0 [some (.ref 0), some (.int e), some (.int f), some (.int p), some (.int n), none, none] [] SH h 0 0
  refine E_aload_n dX8_again_0 rfl ?_
  refine E_iload_n dX8_again_1 rfl ?_
  refine E_iload_n dX8_again_2 rfl ?_
  refine cV2 (N := mX8_existing) dX8_again_3 cn_X8_existing lk_X8_54 ⟨Nat.le_of_ble_eq_true rfl, Nat.le_of_ble_eq_true rfl⟩ rfl rfl (Nat.le_of_ble_eq_true rfl) ⟨rfl, rfl⟩ (c_ex C e f) (fun v2 h2 ⟨hv2, hh2⟩ => ?_)
  rw [hh2]
  rcases hv2 with ⟨hn, hv2⟩ | ⟨k, g, xs, hk, hg, he, hf, hx, hv2⟩
  · rw [hv2]
    exact again_none C hn
  · rw [hv2]
    subst he hf
    exact again_some C hk hg hx

