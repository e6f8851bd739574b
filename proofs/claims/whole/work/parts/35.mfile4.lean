/-! the model: write, again, same -/
theorem BSeg.rset {h : Hp} {arr off m q v : Nat} {ys : List Nat} (B : BSeg h arr off ys) (hq : q ≤ ys.length) (hm : q < m) (hv : v < 256) : BSeg (sI h arr (off + q) (sb v)) arr off (rset ys q v m) := by
  unfold _root_.Jvm.Pilot.CRollingSyncLaw_law_r9587_ae0cee.rset
  split
  · rename_i h1
    refine ⟨fun x hx => (List.mem_or_eq_of_mem_set hx).elim (B.1 x) (fun e => e ▸ hv), fun j hj => ?_⟩
    rw [List.length_set] at hj
    by_cases e : j = q
    · subst e
      simp [sI, u2, List.getD, h1]
    · have e2 : off + j ≠ off + q := by omega
      have e3 : q ≠ j := fun z => e z.symm
      have := B.2 j hj
      simp [sI, u2, List.getD, e, e3] at this ⊢
      exact this
  · rename_i h1
    have e0 : q = ys.length := by omega
    refine ⟨fun x hx => (List.mem_append.mp hx).elim (B.1 x) (fun z => by rw [List.mem_singleton.mp z]; exact hv), fun j hj => ?_⟩
    simp at hj
    by_cases e : j = q
    · subst e
      subst e0
      simp [sI, u2, List.getD]
    · have e2 : off + j ≠ off + q := by omega
      have h2 : j < ys.length := by omega
      have := B.2 j h2
      simp [sI, u2, List.getD, e, List.getElem?_append_left h2] at this ⊢
      exact this
theorem putL_len {xs bs : List Nat} {a : Nat} (ha : a ≤ xs.length) : (putL xs a bs).length = if xs.length ≤ a + bs.length then a + bs.length else xs.length := by
  unfold putL
  simp
  split <;> omega
theorem wr_fin {b : Ab} {h h3 : Hp} (M : MRep b h) {k g q j : Nat} {x : Int64} {xs : List Nat} (hk : k < 2) (hg : g < 8) (q1 : h.2.2 59 1 = some 61) (f1 : h.1 61 (8 * k + g) = szI (b.2.2.2.1 k g)) (hxs : (b.2.2.2.1 k g).getD [] = xs) (hl : xs.length ≤ 500) (hqx : q ≤ xs.length) (hle : q + j ≤ 500) (F3 : FilF h h3 (8 * k + g)) (h61 : h3.1 61 = h.1 61) (B3 : BSeg h3 60 (500 * (8 * k + g)) (putL xs q (lowB x j))) : E mX9_write none (fun v sh' h' => sh' = SH ∧ v = some (.int (nI (putL xs q (lowB x j)).length)) ∧ MRep (aF b k (setF (b.2.2.2.1 k) g (some (putL xs q (lowB x j))))) h' ∧ MF h h') 106 [some (.ref 59), some (.int (nI k)), some (.int (nI g)), some (.int (nI q)), some (.long x), none, some (.int (nI j)), some (.int (nI (8 * k + g))), some (.int (nI j))] [] SH h3 0 0 := by
  have q1' : h3.2.2 59 1 = some 61 := by rw [F3.1]; exact q1
  have f1' : h3.1 61 (8 * k + g) = szI (b.2.2.2.1 k g) := by rw [h61]; exact f1
  have pl : (putL xs q (lowB x j)).length = if xs.length ≤ q + j then q + j else xs.length := by rw [putL_len hqx, lowB_len]
  have hle5 : (putL xs q (lowB x j)).length ≤ 500 := by rw [pl]; split <;> omega
  have hmax : (if nI (q + j) ≤ nI xs.length then nI xs.length else nI (q + j)) = nI (putL xs q (lowB x j)).length := by
    rw [pl]
    by_cases z : q + j ≤ xs.length
    · rw [if_pos (nI_le z (by omega))]
      congr 1
      split <;> omega
    · rw [if_neg (nI_ge (by omega) (by omega)), if_pos (by omega)]
  refine E_aload_n dX9_write_106 rfl ?_
  refine E_getR dX9_write_107 fl_X9_13 rfl (by assumption) rfl ?_
  refine E_iload dX9_write_110 rfl ?_
  refine E_aload_n dX9_write_112 rfl ?_
  refine E_iload dX9_write_113 rfl ?_
  refine cV1 (N := mX9_sizeOf) dX9_write_115 cn_X9_sizeOf lk_X9_69 ⟨Nat.le_of_ble_eq_true rfl, Nat.le_of_ble_eq_true rfl⟩ rfl rfl (Nat.le_of_ble_eq_true rfl) ⟨rfl, rfl⟩ (m_sizeOf q1' (by omega) f1' (by rw [hxs]; exact hl)) (fun v4 h4 ⟨hv4, hh4⟩ => ?_)
  rw [hv4, hh4, hxs]
  refine E_iload_n dX9_write_118 rfl ?_
  refine E_iload dX9_write_119 rfl ?_
  refine E_iadd dX9_write_121 ?_
  rw [nI_add]
  refine cS2 (N := mX9_greater) dX9_write_122 cn_X9_greater lk_X9_61 ⟨Nat.le_of_ble_eq_true rfl, Nat.le_of_ble_eq_true rfl⟩ (Nat.le_of_ble_eq_true rfl) ⟨rfl, rfl⟩ (m_greater _ _) (fun v5 h5 ⟨hv5, hh5⟩ => ?_)
  rw [hv5, hh5, hmax]
  refine E_iast dX9_write_125 rfl (vp_in_nI (by omega) (by omega)) ?_
  rw [nI_clamp (by omega)]
  refine E_aload_n dX9_write_126 rfl ?_
  refine E_getR dX9_write_127 fl_X9_13 rfl (by assumption) rfl ?_
  refine E_iload dX9_write_130 rfl ?_
  refine E_iald dX9_write_132 rfl (vp_in_nI (by omega) (by omega)) ?_
  rw [nI_clamp (by omega), show (sI h3 61 (8 * k + g) (nI (putL xs q (lowB x j)).length)).1 61 (8 * k + g) = nI (putL xs q (lowB x j)).length by simp [sI, u2]]
  exact E_reti dX9_write_133 rfl rfl (Nat.le_of_ble_eq_true rfl) (Nat.le_of_ble_eq_true rfl) ⟨rfl, rfl, M.file (o := some (putL xs q (lowB x j))) hk hg (F3.sz _) (by simp [sI, u2, szI]) hle5 (BSeg.off B3 (by funext y; simp [sI, u2])), (F3.sz _).mf⟩
theorem wr_loop {b : Ab} {h : Hp} (M : MRep b h) {k g q j : Nat} {x : Int64} {xs : List Nat} (hk : k < 2) (hg : g < 8) (q0 : h.2.2 59 0 = some 60) (q1 : h.2.2 59 1 = some 61) (f1 : h.1 61 (8 * k + g) = szI (b.2.2.2.1 k g)) (hxs : (b.2.2.2.1 k g).getD [] = xs) (hl : xs.length ≤ 500) (fB : BSeg h 60 (500 * (8 * k + g)) xs) (hj8 : j ≤ 8) (hqx : q ≤ xs.length) (hle : q + j ≤ 500) : ∀ (n i : Nat) (h3 : Hp), j - i ≤ n → i ≤ j → FilF h h3 (8 * k + g) → h3.1 61 = h.1 61 → BSeg h3 60 (500 * (8 * k + g)) (putL xs q ((lowB x j).take i)) → E mX9_write none (fun v sh' h' => sh' = SH ∧ v = some (.int (nI (putL xs q (lowB x j)).length)) ∧ MRep (aF b k (setF (b.2.2.2.1 k) g (some (putL xs q (lowB x j))))) h' ∧ MF h h') 62 [some (.ref 59), some (.int (nI k)), some (.int (nI g)), some (.int (nI q)), some (.long x), none, some (.int (nI j)), some (.int (nI (8 * k + g))), some (.int (nI i))] [] SH h3 0 0 := by
  intro n
  have full : (lowB x j).take j = lowB x j := List.take_of_length_le (by rw [lowB_len]; omega)
  induction n with
  | zero =>
    intro i h3 r1 r2 F3 h61 B3
    have e : i = j := by omega
    subst e
    rw [full] at B3
    refine E_iload dX9_write_62 rfl ?_
    refine E_iload dX9_write_64 rfl ?_
    refine E_icmp_ge 106 dX9_write_66 (by decide) (fun c_66 => ?_) (fun c_66 => absurd (nI_le (by omega) (by omega)) c_66)
    exact wr_fin M hk hg q1 f1 hxs hl hqx hle F3 h61 B3
  | succ n ih =>
    intro i h3 r1 r2 F3 h61 B3
    by_cases e : i = j
    · subst e
      rw [full] at B3
      refine E_iload dX9_write_62 rfl ?_
      refine E_iload dX9_write_64 rfl ?_
      refine E_icmp_ge 106 dX9_write_66 (by decide) (fun c_66 => ?_) (fun c_66 => absurd (nI_le (by omega) (by omega)) c_66)
      exact wr_fin M hk hg q1 f1 hxs hl hqx hle F3 h61 B3
    · have q0' : h3.2.2 59 0 = some 60 := by rw [F3.1]; exact q0
      have step := putL_step (xs := xs) (bs := lowB x j) (a := q) (i := i) hqx (by rw [lowB_len]; omega) (by rw [lowB_len]; omega)
      have hlen : (putL xs q ((lowB x j).take i)).length = if xs.length ≤ q + i then q + i else xs.length := by rw [putL_len hqx, List.length_take, lowB_len, Nat.min_eq_left (by omega)]
      have hlen2 : q + i ≤ (putL xs q ((lowB x j).take i)).length := by rw [hlen]; split <;> omega
      have B4 := B3.rset (q := q + i) (m := 500) (v := (lowB x j).getD i 0) hlen2 (by omega) (getD_lt (lowB_lt x j) i)
      rw [step, lowB_at x (show i < j by omega)] at B4
      refine E_iload dX9_write_62 rfl ?_
      refine E_iload dX9_write_64 rfl ?_
      refine E_icmp_ge 106 dX9_write_66 (by decide) (fun c_66 => absurd c_66 (nI_ge (by omega) (by omega))) (fun c_66 => ?_)
      refine E_aload_n dX9_write_69 rfl ?_
      refine E_getR dX9_write_70 fl_X9_7 rfl (by assumption) rfl ?_
      refine E_si 500 dX9_write_73 (by decide) ?_
      refine E_iload dX9_write_76 rfl ?_
      refine E_imul dX9_write_78 ?_
      refine E_iload_n dX9_write_79 rfl ?_
      refine E_iadd dX9_write_80 ?_
      refine E_iload dX9_write_81 rfl ?_
      refine E_iadd dX9_write_83 ?_
      refine E_lload dX9_write_84 rfl ?_
      refine E_bi 8 dX9_write_86 (by decide) ?_
      refine E_iload dX9_write_88 rfl ?_
      refine E_ic 1 dX9_write_90 (by decide) ?_
      refine E_isub dX9_write_91 ?_
      refine E_iload dX9_write_92 rfl ?_
      refine E_isub dX9_write_94 ?_
      refine E_imul dX9_write_95 ?_
      rw [show (8 : Int32) = nI 8 by decide, show (1 : Int32) = nI 1 by decide, pk_sub (by omega), pk_sub (by omega), pk_mul]
      refine E_lshr dX9_write_96 ?_
      refine E_l2i dX9_write_97 ?_
      refine E_i2b dX9_write_98 ?_
      rw [sgn_b x (by omega), show (500 : Int32) = nI 500 by decide, pk_mul, nI_add, nI_add]
      refine E_bast dX9_write_99 rfl (vp_in_nI (by omega) (by omega)) ?_
      rw [nI_clamp (by omega), sb_n _ (Nat.mod_lt _ (by decide)), Nat.add_assoc (500 * (8 * k + g)) q i]
      refine E_iinc dX9_write_100 rfl (by decide) ?_
      refine E_goto 62 dX9_write_103 (by decide) ?_
      rw [nI_inc]
      exact ih (i + 1) _ (by omega) (by omega) (F3.by _ (by omega)) (by rw [← h61]; funext y; simp [sI, u2]) B4
theorem m_write {b : Ab} {h : Hp} (M : MRep b h) (e f p : Int32) (x : Int64) (n : Int32) : Sp0 mX9_write [.ref 59, .int e, .int f, .int p, .long x, .int n] SH h (fun v h' => v = some (.int (wrR b e f p x n)) ∧ MRep (wrS b e f p x n) h' ∧ MF h h') := by
  have h8 : (8 : Int32).toInt = 8 := by decide
  obtain ⟨q0, q1, q2, q3, q9, q10, q11, q13, q14, q22, q29, q33, q34, q36, q37, q40⟩ := id M.2.2.1
  have bad : ¬ wrOk b e f p n → (some (Value.int (-1)) : Option Value) = some (.int (wrR b e f p x n)) ∧ MRep (wrS b e f p x n) h ∧ MF h h := fun hb => ⟨by rw [wrR, if_neg hb], by rw [wrS, if_neg (fun z => hb z.1)]; exact M, MF.rf⟩
  refine Sp0.of (by decide) (Nat.le_of_ble_eq_true rfl) ?_
  show E mX9_write none _ 0 [some (.ref 59), some (.int e), some (.int f), some (.int p), some (.long x), none, some (.int n), none, none] [] SH h 0 0
  by_cases hok : eOk e ∧ fOk f
  · obtain ⟨k, g, hk, hg, rfl, rfl⟩ := ok_of hok
    have hFo := Fo_nI b hk hg
    have fm := M.fm hk hg
    generalize hxs : (b.2.2.2.1 k g).getD [] = xs at fm
    obtain ⟨f1, hl, fB⟩ := fm
    have hL : (nI xs.length).toInt = xs.length := nI_toInt (by omega)
    have hokI : wrOk b (nI k) (nI g) p n ↔ (0 ≤ n.toInt ∧ n.toInt ≤ 8) ∧ 0 ≤ p.toInt ∧ p.toInt ≤ xs.length := by
      unfold wrOk
      rw [hFo, hxs]
      exact ⟨fun z => z.2, fun z => ⟨hok, z⟩⟩
    refine E_iload_n dX9_write_0 rfl ?_
    refine E_iload_n dX9_write_1 rfl ?_
    refine cS2 (N := mX9_isFile) dX9_write_2 cn_X9_isFile lk_X9_65 ⟨Nat.le_of_ble_eq_true rfl, Nat.le_of_ble_eq_true rfl⟩ (Nat.le_of_ble_eq_true rfl) ⟨rfl, rfl⟩ (m_isFile _ _) (fun v2 h2 ⟨hv2, hh2⟩ => ?_)
    rw [hv2, hh2, if_pos hok]
    refine E_if_eq 20 dX9_write_5 (by decide) (fun c_5 => absurd c_5 (by decide)) (fun c_5 => ?_)
    refine E_iload dX9_write_8 rfl ?_
    refine E_if_lt 20 dX9_write_10 (by decide) (fun c_10 => ?_) (fun c_10 => ?_)
    · refine E_ic (-1) dX9_write_20 (by decide) ?_
      exact E_reti dX9_write_21 rfl rfl (Nat.le_of_ble_eq_true rfl) (Nat.le_of_ble_eq_true rfl) ⟨rfl, bad (fun z => by rw [i_lt, i_0] at c_10; have := (hokI.mp z).1; omega)⟩
    · refine E_iload dX9_write_13 rfl ?_
      refine E_bi 8 dX9_write_15 (by decide) ?_
      refine E_icmp_le 22 dX9_write_17 (by decide) (fun c_17 => ?_) (fun c_17 => ?_)
      · refine E_bi 8 dX9_write_22 (by decide) ?_
        refine E_iload_n dX9_write_24 rfl ?_
        refine E_imul dX9_write_25 ?_
        refine E_iload_n dX9_write_26 rfl ?_
        refine E_iadd dX9_write_27 ?_
        rw [show (8 : Int32) = nI 8 by decide, pk_mul, nI_add]
        refine E_istore dX9_write_28 (by decide) ?_
        refine E_iload_n dX9_write_30 rfl ?_
        refine E_if_lt 44 dX9_write_31 (by decide) (fun c_31 => ?_) (fun c_31 => ?_)
        · refine E_ic (-1) dX9_write_44 (by decide) ?_
          exact E_reti dX9_write_45 rfl rfl (Nat.le_of_ble_eq_true rfl) (Nat.le_of_ble_eq_true rfl) ⟨rfl, bad (fun z => by rw [i_lt, i_0] at c_31; have := (hokI.mp z).2; omega)⟩
        · refine E_iload_n dX9_write_34 rfl ?_
          refine E_aload_n dX9_write_35 rfl ?_
          refine E_iload dX9_write_36 rfl ?_
          refine cV1 (N := mX9_sizeOf) dX9_write_38 cn_X9_sizeOf lk_X9_69 ⟨Nat.le_of_ble_eq_true rfl, Nat.le_of_ble_eq_true rfl⟩ rfl rfl (Nat.le_of_ble_eq_true rfl) ⟨rfl, rfl⟩ (m_sizeOf q1 (by omega) f1 (by rw [hxs]; exact hl)) (fun v3 h3 ⟨hv3, hh3⟩ => ?_)
          rw [hv3, hh3, hxs]
          refine E_icmp_le 46 dX9_write_41 (by decide) (fun c_41 => ?_) (fun c_41 => ?_)
          · rw [i_le, hL] at c_41
            rw [show (8 : Int32) = nI 8 by decide] at c_17
            obtain ⟨j, hj, rfl⟩ := nI_of c_10
            obtain ⟨q, hq, rfl⟩ := nI_of c_31
            have hj8 : j ≤ 8 := (nI_leI hj (by decide)).mp c_17
            rw [nI_toInt hq] at c_41
            have hyes : wrOk b (nI k) (nI g) (nI q) (nI j) := hokI.mpr (by rw [nI_toInt hj, nI_toInt hq]; omega)
            refine E_iload_n dX9_write_46 rfl ?_
            refine E_iload dX9_write_47 rfl ?_
            refine E_iadd dX9_write_49 ?_
            refine E_si 500 dX9_write_50 (by decide) ?_
            rw [nI_add, show (500 : Int32) = nI 500 by decide]
            refine E_icmp_le 59 dX9_write_53 (by decide) (fun c_53 => ?_) (fun c_53 => ?_)
            · have hle : q + j ≤ 500 := (nI_leI (by omega) (by omega)).mp c_53
              rw [wrR, if_pos hyes, if_neg (by rw [nI_toInt hj, nI_toInt hq]; omega), wrS, if_pos ⟨hyes, by rw [nI_toInt hj, nI_toInt hq]; omega⟩, nI_clamp hj, nI_clamp hq, hFo, hxs, setFo_nI b hk hg]
              refine E_ic 0 dX9_write_59 (by decide) ?_
              refine E_istore dX9_write_60 (by decide) ?_
              exact wr_loop M hk hg q0 q1 f1 hxs hl fB hj8 (by omega) hle j 0 h (by omega) (by omega) FilF.rf rfl (by simpa [putL] using fB)
            · refine E_bi (-3) dX9_write_56 (by decide) ?_
              exact E_reti dX9_write_58 rfl rfl (Nat.le_of_ble_eq_true rfl) (Nat.le_of_ble_eq_true rfl) ⟨rfl, by rw [wrR, if_pos hyes, if_pos (by rw [nI_toInt hj, nI_toInt hq]; have : ¬ q + j ≤ 500 := fun z => c_53 (nI_le z (by omega)); omega)], by rw [wrS, if_neg (fun z => z.2 (by rw [nI_toInt hj, nI_toInt hq]; have : ¬ q + j ≤ 500 := fun z => c_53 (nI_le z (by omega)); omega))]; exact M, MF.rf⟩
          · refine E_ic (-1) dX9_write_44 (by decide) ?_
            exact E_reti dX9_write_45 rfl rfl (Nat.le_of_ble_eq_true rfl) (Nat.le_of_ble_eq_true rfl) ⟨rfl, bad (fun z => by rw [i_le, hL] at c_41; have := (hokI.mp z).2; omega)⟩
      · refine E_ic (-1) dX9_write_20 (by decide) ?_
        exact E_reti dX9_write_21 rfl rfl (Nat.le_of_ble_eq_true rfl) (Nat.le_of_ble_eq_true rfl) ⟨rfl, bad (fun z => by rw [i_le, h8] at c_17; have := (hokI.mp z).1; omega)⟩
  · refine E_iload_n dX9_write_0 rfl ?_
    refine E_iload_n dX9_write_1 rfl ?_
    refine cS2 (N := mX9_isFile) dX9_write_2 cn_X9_isFile lk_X9_65 ⟨Nat.le_of_ble_eq_true rfl, Nat.le_of_ble_eq_true rfl⟩ (Nat.le_of_ble_eq_true rfl) ⟨rfl, rfl⟩ (m_isFile _ _) (fun v2 h2 ⟨hv2, hh2⟩ => ?_)
    rw [hv2, hh2, if_neg hok]
    refine E_if_eq 20 dX9_write_5 (by decide) (fun c_5 => ?_) (fun c_5 => absurd rfl c_5)
    refine E_ic (-1) dX9_write_20 (by decide) ?_
    exact E_reti dX9_write_21 rfl rfl (Nat.le_of_ble_eq_true rfl) (Nat.le_of_ble_eq_true rfl) ⟨rfl, bad (fun z => hok z.1)⟩
theorem ag_fin {b : Ab} {h h3 : Hp} (M : MRep b h) {k g q j : Nat} {xs : List Nat} (hk : k < 2) (hg : g < 8) (hle : xs.length + j ≤ 500) (F3 : FilF h h3 (8 * k + g)) (h61 : h3.1 61 (8 * k + g) = nI (xs.length + j)) (B3 : BSeg h3 60 (500 * (8 * k + g)) (agL xs q j)) : E mX9_again none (fun v sh' h' => sh' = SH ∧ v = some (.int (nI (agL xs q j).length)) ∧ MRep (aF b k (setF (b.2.2.2.1 k) g (some (agL xs q j)))) h' ∧ MF h h') 128 [some (.ref 59), some (.int (nI k)), some (.int (nI g)), some (.int (nI q)), some (.int (nI j)), some (.int (nI (8 * k + g))), some (.int (nI j))] [] SH h3 0 0 := by
  have q1' : h3.2.2 59 1 = some 61 := by rw [F3.1]; exact M.2.2.1.2.1
  have al := agL_len xs q j
  refine E_aload_n dX9_again_128 rfl ?_
  refine E_getR dX9_again_129 fl_X9_13 rfl (by assumption) rfl ?_
  refine E_iload dX9_again_132 rfl ?_
  refine E_iald dX9_again_134 rfl (vp_in_nI (by omega) (by omega)) ?_
  rw [nI_clamp (by omega), h61, ← al]
  exact E_reti dX9_again_135 rfl rfl (Nat.le_of_ble_eq_true rfl) (Nat.le_of_ble_eq_true rfl) ⟨rfl, rfl, M.file (o := some (agL xs q j)) hk hg F3 (by rw [h61, ← al]; rfl) (by show (agL xs q j).length ≤ 500; omega) B3, F3.mf⟩
theorem ag_loop {b : Ab} {h : Hp} (M : MRep b h) {k g q j : Nat} {xs : List Nat} (hk : k < 2) (hg : g < 8) (hqx : q < xs.length) (hle : xs.length + j ≤ 500) : ∀ (n i : Nat) (h3 : Hp), j - i ≤ n → i ≤ j → FilF h h3 (8 * k + g) → h3.1 61 (8 * k + g) = nI (xs.length + i) → BSeg h3 60 (500 * (8 * k + g)) (agL xs q i) → E mX9_again none (fun v sh' h' => sh' = SH ∧ v = some (.int (nI (agL xs q j).length)) ∧ MRep (aF b k (setF (b.2.2.2.1 k) g (some (agL xs q j)))) h' ∧ MF h h') 69 [some (.ref 59), some (.int (nI k)), some (.int (nI g)), some (.int (nI q)), some (.int (nI j)), some (.int (nI (8 * k + g))), some (.int (nI i))] [] SH h3 0 0 := by
  intro n
  induction n with
  | zero =>
    intro i h3 r1 r2 F3 h61 B3
    have e : i = j := by omega
    subst e
    refine E_iload dX9_again_69 rfl ?_
    refine E_iload dX9_again_71 rfl ?_
    refine E_icmp_ge 128 dX9_again_73 (by decide) (fun c_73 => ?_) (fun c_73 => absurd (nI_le (by omega) (by omega)) c_73)
    exact ag_fin M hk hg hle F3 h61 B3
  | succ n ih =>
    intro i h3 r1 r2 F3 h61 B3
    by_cases e : i = j
    · subst e
      refine E_iload dX9_again_69 rfl ?_
      refine E_iload dX9_again_71 rfl ?_
      refine E_icmp_ge 128 dX9_again_73 (by decide) (fun c_73 => ?_) (fun c_73 => absurd (nI_le (by omega) (by omega)) c_73)
      exact ag_fin M hk hg hle F3 h61 B3
    · have q0' : h3.2.2 59 0 = some 60 := by rw [F3.1]; exact M.2.2.1.1
      have q1' : h3.2.2 59 1 = some 61 := by rw [F3.1]; exact M.2.2.1.2.1
      have al := agL_len xs q i
      have B4 := B3.rset (q := xs.length + i) (m := 500) (v := (agL xs q i).getD (q + i) 0) (by omega) (by omega) (B3.lt _)
      rw [rset, if_neg (by omega), if_pos (by omega)] at B4
      refine E_iload dX9_again_69 rfl ?_
      refine E_iload dX9_again_71 rfl ?_
      refine E_icmp_ge 128 dX9_again_73 (by decide) (fun c_73 => absurd c_73 (nI_ge (by omega) (by omega))) (fun c_73 => ?_)
      refine E_aload_n dX9_again_76 rfl ?_
      refine E_getR dX9_again_77 fl_X9_7 rfl (by assumption) rfl ?_
      refine E_si 500 dX9_again_80 (by decide) ?_
      refine E_iload dX9_again_83 rfl ?_
      refine E_imul dX9_again_85 ?_
      refine E_aload_n dX9_again_86 rfl ?_
      refine E_getR dX9_again_87 fl_X9_13 rfl (by assumption) rfl ?_
      refine E_iload dX9_again_90 rfl ?_
      refine E_iald dX9_again_92 rfl (vp_in_nI (by omega) (by omega)) ?_
      rw [nI_clamp (by omega), h61]
      refine E_iadd dX9_again_93 ?_
      refine E_aload_n dX9_again_94 rfl ?_
      refine E_getR dX9_again_95 fl_X9_7 rfl (by assumption) rfl ?_
      refine E_si 500 dX9_again_98 (by decide) ?_
      refine E_iload dX9_again_101 rfl ?_
      refine E_imul dX9_again_103 ?_
      refine E_iload_n dX9_again_104 rfl ?_
      refine E_iadd dX9_again_105 ?_
      refine E_iload dX9_again_106 rfl ?_
      refine E_iadd dX9_again_108 ?_
      rw [show (500 : Int32) = nI 500 by decide, pk_mul, nI_add, nI_add, nI_add, Nat.add_assoc (500 * (8 * k + g)) q i]
      refine E_bald dX9_again_109 rfl (vp_in_nI (by omega) (by omega)) ?_
      rw [nI_clamp (by omega), B3.at (by omega)]
      refine E_bast dX9_again_110 rfl (vp_in_nI (by omega) (by omega)) ?_
      rw [nI_clamp (by omega), sb_n _ (B3.lt _)]
      refine E_aload_n dX9_again_111 rfl ?_
      refine E_getR dX9_again_112 fl_X9_13 rfl (by assumption) rfl ?_
      refine E_iload dX9_again_115 rfl ?_
      refine E_dup2 rfl rfl dX9_again_117 ?_
      refine E_iald dX9_again_118 rfl (vp_in_nI (by omega) (by omega)) ?_
      rw [nI_clamp (by omega), show (sI h3 60 (500 * (8 * k + g) + (xs.length + i)) (sb ((agL xs q i).getD (q + i) 0))).1 61 (8 * k + g) = nI (xs.length + i) by rw [← h61]; simp [sI, u2]]
      refine E_ic 1 dX9_again_119 (by decide) ?_
      refine E_iadd dX9_again_120 ?_
      rw [nI_1]
      refine E_iast dX9_again_121 rfl (vp_in_nI (by omega) (by omega)) ?_
      rw [nI_clamp (by omega)]
      refine E_iinc dX9_again_122 rfl (by decide) ?_
      refine E_goto 69 dX9_again_125 (by decide) ?_
      rw [nI_inc]
      exact ih (i + 1) _ (by omega) (by omega) ((F3.by _ (by omega)).sz _) (by simp [sI, u2]; rfl) (BSeg.off B4 (by funext y; simp [sI, u2]))
theorem m_again {b : Ab} {h : Hp} (M : MRep b h) (e f p n : Int32) : Sp0 mX9_again [.ref 59, .int e, .int f, .int p, .int n] SH h (fun v h' => v = some (.int (agR b e f p n)) ∧ MRep (agS b e f p n) h' ∧ MF h h') := by
  obtain ⟨q0, q1, q2, q3, q9, q10, q11, q13, q14, q22, q29, q33, q34, q36, q37, q40⟩ := id M.2.2.1
  have h500 : (500 : Int32).toInt = 500 := by decide
  refine Sp0.of (by decide) (Nat.le_of_ble_eq_true rfl) ?_
  show E mX9_again none _ 0 [some (.ref 59), some (.int e), some (.int f), some (.int p), some (.int n), none, none] [] SH h 0 0
  by_cases hok : eOk e ∧ fOk f
  · obtain ⟨k, g, hk, hg, rfl, rfl⟩ := ok_of hok
    have fm := M.fm hk hg
    rw [agR, agS, Fo_nI b hk hg]
    cases hx : b.2.2.2.1 k g with
    | none =>
      rw [hx] at fm
      refine E_iload_n dX9_again_0 rfl ?_
      refine E_iload_n dX9_again_1 rfl ?_
      refine cS2 (N := mX9_isFile) dX9_again_2 cn_X9_isFile lk_X9_65 ⟨Nat.le_of_ble_eq_true rfl, Nat.le_of_ble_eq_true rfl⟩ (Nat.le_of_ble_eq_true rfl) ⟨rfl, rfl⟩ (m_isFile _ _) (fun v2 h2 ⟨hv2, hh2⟩ => ?_)
      rw [hv2, hh2, if_pos hok]
      refine E_if_ne 10 dX9_again_5 (by decide) (fun c_5 => ?_) (fun c_5 => absurd c_5 (by decide))
      refine E_bi 8 dX9_again_10 (by decide) ?_
      refine E_iload_n dX9_again_12 rfl ?_
      refine E_imul dX9_again_13 ?_
      refine E_iload_n dX9_again_14 rfl ?_
      refine E_iadd dX9_again_15 ?_
      rw [show (8 : Int32) = nI 8 by decide, pk_mul, nI_add]
      refine E_istore dX9_again_16 (by decide) ?_
      refine E_iload_n dX9_again_18 rfl ?_
      refine E_if_lt 45 dX9_again_19 (by decide) (fun c_19 => ?_) (fun c_19 => ?_)
      · refine E_ic (-1) dX9_again_45 (by decide) ?_
        exact E_reti dX9_again_46 rfl rfl (Nat.le_of_ble_eq_true rfl) (Nat.le_of_ble_eq_true rfl) ⟨rfl, rfl, M, MF.rf⟩
      · refine E_iload_n dX9_again_22 rfl ?_
        refine E_aload_n dX9_again_23 rfl ?_
        refine E_iload dX9_again_24 rfl ?_
        refine cV1 (N := mX9_sizeOf) dX9_again_26 cn_X9_sizeOf lk_X9_69 ⟨Nat.le_of_ble_eq_true rfl, Nat.le_of_ble_eq_true rfl⟩ rfl rfl (Nat.le_of_ble_eq_true rfl) ⟨rfl, rfl⟩ (m_sizeOf q1 (by omega) fm.1 (by simp)) (fun v3 h3 ⟨hv3, hh3⟩ => ?_)
        rw [hv3, hh3]
        rw [show nI ((none : Option (List Nat)).getD []).length = 0 by decide]
        refine E_icmp_ge 45 dX9_again_29 (by decide) (fun c_29 => ?_) (fun c_29 => absurd (by rw [i_lt, i_0] at c_19; rw [i_le, i_0]; omega) c_29)
        refine E_ic (-1) dX9_again_45 (by decide) ?_
        exact E_reti dX9_again_46 rfl rfl (Nat.le_of_ble_eq_true rfl) (Nat.le_of_ble_eq_true rfl) ⟨rfl, rfl, M, MF.rf⟩
    | some xs =>
      rw [hx] at fm
      have hl : xs.length ≤ 500 := fm.2.1
      have f1 : h.1 61 (8 * k + g) = nI xs.length := fm.1
      have fB : BSeg h 60 (500 * (8 * k + g)) xs := fm.2.2
      have hL : (nI xs.length).toInt = xs.length := nI_toInt (by omega)
      show E mX9_again none (fun v sh' h' => sh' = SH ∧ v = some (.int (if (0 ≤ p.toInt ∧ p.toInt < xs.length) ∧ 0 ≤ n.toInt ∧ n.toInt ≤ 500 then (if 500 < xs.length + n.toInt then -3 else nI (agL xs p.toNatClampNeg n.toNatClampNeg).length) else -1)) ∧ MRep (if ((0 ≤ p.toInt ∧ p.toInt < xs.length) ∧ 0 ≤ n.toInt ∧ n.toInt ≤ 500) ∧ ¬ 500 < xs.length + n.toInt then setFo b (nI k) (nI g) (some (agL xs p.toNatClampNeg n.toNatClampNeg)) else b) h' ∧ MF h h') 0 _ [] SH h 0 0
      have bad : ¬ ((0 ≤ p.toInt ∧ p.toInt < xs.length) ∧ 0 ≤ n.toInt ∧ n.toInt ≤ 500) → (some (Value.int (-1)) : Option Value) = some (.int (if (0 ≤ p.toInt ∧ p.toInt < xs.length) ∧ 0 ≤ n.toInt ∧ n.toInt ≤ 500 then (if 500 < xs.length + n.toInt then -3 else nI (agL xs p.toNatClampNeg n.toNatClampNeg).length) else -1)) ∧ MRep (if ((0 ≤ p.toInt ∧ p.toInt < xs.length) ∧ 0 ≤ n.toInt ∧ n.toInt ≤ 500) ∧ ¬ 500 < xs.length + n.toInt then setFo b (nI k) (nI g) (some (agL xs p.toNatClampNeg n.toNatClampNeg)) else b) h ∧ MF h h := fun hb => ⟨by rw [if_neg hb], by rw [if_neg (fun z => hb z.1)]; exact M, MF.rf⟩
      refine E_iload_n dX9_again_0 rfl ?_
      refine E_iload_n dX9_again_1 rfl ?_
      refine cS2 (N := mX9_isFile) dX9_again_2 cn_X9_isFile lk_X9_65 ⟨Nat.le_of_ble_eq_true rfl, Nat.le_of_ble_eq_true rfl⟩ (Nat.le_of_ble_eq_true rfl) ⟨rfl, rfl⟩ (m_isFile _ _) (fun v2 h2 ⟨hv2, hh2⟩ => ?_)
      rw [hv2, hh2, if_pos hok]
      refine E_if_ne 10 dX9_again_5 (by decide) (fun c_5 => ?_) (fun c_5 => absurd c_5 (by decide))
      refine E_bi 8 dX9_again_10 (by decide) ?_
      refine E_iload_n dX9_again_12 rfl ?_
      refine E_imul dX9_again_13 ?_
      refine E_iload_n dX9_again_14 rfl ?_
      refine E_iadd dX9_again_15 ?_
      rw [show (8 : Int32) = nI 8 by decide, pk_mul, nI_add]
      refine E_istore dX9_again_16 (by decide) ?_
      refine E_iload_n dX9_again_18 rfl ?_
      refine E_if_lt 45 dX9_again_19 (by decide) (fun c_19 => ?_) (fun c_19 => ?_)
      · refine E_ic (-1) dX9_again_45 (by decide) ?_
        exact E_reti dX9_again_46 rfl rfl (Nat.le_of_ble_eq_true rfl) (Nat.le_of_ble_eq_true rfl) ⟨rfl, bad (fun z => by rw [i_lt, i_0] at c_19; omega)⟩
      · refine E_iload_n dX9_again_22 rfl ?_
        refine E_aload_n dX9_again_23 rfl ?_
        refine E_iload dX9_again_24 rfl ?_
        refine cV1 (N := mX9_sizeOf) dX9_again_26 cn_X9_sizeOf lk_X9_69 ⟨Nat.le_of_ble_eq_true rfl, Nat.le_of_ble_eq_true rfl⟩ rfl rfl (Nat.le_of_ble_eq_true rfl) ⟨rfl, rfl⟩ (m_sizeOf q1 (by omega) fm.1 hl) (fun v3 h3 ⟨hv3, hh3⟩ => ?_)
        rw [hv3, hh3]
        rw [show nI ((some xs).getD []).length = nI xs.length from rfl]
        refine E_icmp_ge 45 dX9_again_29 (by decide) (fun c_29 => ?_) (fun c_29 => ?_)
        · refine E_ic (-1) dX9_again_45 (by decide) ?_
          exact E_reti dX9_again_46 rfl rfl (Nat.le_of_ble_eq_true rfl) (Nat.le_of_ble_eq_true rfl) ⟨rfl, bad (fun z => by rw [i_le, hL] at c_29; omega)⟩
        · refine E_iload dX9_again_32 rfl ?_
          refine E_if_lt 45 dX9_again_34 (by decide) (fun c_34 => ?_) (fun c_34 => ?_)
          · refine E_ic (-1) dX9_again_45 (by decide) ?_
            exact E_reti dX9_again_46 rfl rfl (Nat.le_of_ble_eq_true rfl) (Nat.le_of_ble_eq_true rfl) ⟨rfl, bad (fun z => by rw [i_lt, i_0] at c_34; omega)⟩
          · refine E_iload dX9_again_37 rfl ?_
            refine E_si 500 dX9_again_39 (by decide) ?_
            refine E_icmp_le 47 dX9_again_42 (by decide) (fun c_42 => ?_) (fun c_42 => ?_)
            · obtain ⟨j, hj, rfl⟩ := nI_of c_34
              obtain ⟨q, hq, rfl⟩ := nI_of c_19
              rw [show (500 : Int32) = nI 500 by decide] at c_42
              have hj5 : j ≤ 500 := (nI_leI hj (by decide)).mp c_42
              have hq2 : q < xs.length := Nat.lt_of_not_le fun z => c_29 (nI_le z hq)
              have hji : (nI j).toInt = j := nI_toInt hj
              have hqi : (nI q).toInt = q := nI_toInt hq
              rw [hji, hqi, nI_clamp hj, nI_clamp hq]
              refine E_aload_n dX9_again_47 rfl ?_
              refine E_getR dX9_again_48 fl_X9_13 rfl (by assumption) rfl ?_
              refine E_iload dX9_again_51 rfl ?_
              refine E_iald dX9_again_53 rfl (vp_in_nI (by omega) (by omega)) ?_
              rw [nI_clamp (by omega), f1]
              refine E_iload dX9_again_54 rfl ?_
              refine E_iadd dX9_again_56 ?_
              refine E_si 500 dX9_again_57 (by decide) ?_
              rw [nI_add, show (500 : Int32) = nI 500 by decide]
              refine E_icmp_le 66 dX9_again_60 (by decide) (fun c_60 => ?_) (fun c_60 => ?_)
              · have hle : xs.length + j ≤ 500 := (nI_leI (by omega) (by omega)).mp c_60
                rw [if_pos (by omega), if_neg (by omega), if_pos (by omega), setFo_nI b hk hg]
                refine E_ic 0 dX9_again_66 (by decide) ?_
                refine E_istore dX9_again_67 (by decide) ?_
                exact ag_loop M hk hg hq2 hle j 0 h (by omega) (by omega) FilF.rf f1 fB
              · refine E_bi (-3) dX9_again_63 (by decide) ?_
                exact E_reti dX9_again_65 rfl rfl (Nat.le_of_ble_eq_true rfl) (Nat.le_of_ble_eq_true rfl) ⟨rfl, by have : ¬ xs.length + j ≤ 500 := (fun z => c_60 (nI_le z (by omega))); rw [if_pos (by omega), if_pos (by omega)], by have : ¬ xs.length + j ≤ 500 := (fun z => c_60 (nI_le z (by omega))); rw [if_neg (by omega)]; exact M, MF.rf⟩
            · refine E_ic (-1) dX9_again_45 (by decide) ?_
              exact E_reti dX9_again_46 rfl rfl (Nat.le_of_ble_eq_true rfl) (Nat.le_of_ble_eq_true rfl) ⟨rfl, bad (fun z => by rw [i_le, h500] at c_42; omega)⟩
  · rw [agR, agS, Fo_bad hok]
    refine E_iload_n dX9_again_0 rfl ?_
    refine E_iload_n dX9_again_1 rfl ?_
    refine cS2 (N := mX9_isFile) dX9_again_2 cn_X9_isFile lk_X9_65 ⟨Nat.le_of_ble_eq_true rfl, Nat.le_of_ble_eq_true rfl⟩ (Nat.le_of_ble_eq_true rfl) ⟨rfl, rfl⟩ (m_isFile _ _) (fun v2 h2 ⟨hv2, hh2⟩ => ?_)
    rw [hv2, hh2, if_neg hok]
    refine E_if_ne 10 dX9_again_5 (by decide) (fun c_5 => absurd rfl c_5) (fun c_5 => ?_)
    refine E_ic (-1) dX9_again_8 (by decide) ?_
    exact E_reti dX9_again_9 rfl rfl (Nat.le_of_ble_eq_true rfl) (Nat.le_of_ble_eq_true rfl) ⟨rfl, rfl, M, MF.rf⟩
theorem sa_loop {b : Ab} {h : Hp} (M : MRep b h) {k g : Nat} {o : Option (List Nat)} (hk : k < 2) (hg : g < 8) (ho : b.2.2.2.1 (1 - k) g = o) (hl : (o.getD []).length ≤ 500) (fB : BSeg h 60 (500 * (8 * (1 - k) + g)) (o.getD [])) : ∀ (n i : Nat) (h3 : Hp), (o.getD []).length - i ≤ n → i ≤ (o.getD []).length → FilF h h3 (8 * k + g) → h3.1 61 (8 * k + g) = szI o → BSeg h3 60 (500 * (8 * k + g)) ((o.getD []).take i) → E mX9_same none (fun v sh' h' => sh' = SH ∧ v = some (.int (nI (o.getD []).length)) ∧ MRep (aF b k (setF (b.2.2.2.1 k) g o)) h' ∧ MF h h') 43 [some (.ref 59), some (.int (nI k)), some (.int (nI g)), some (.int (nI (8 * k + g))), some (.int (nI (8 * (1 - k) + g))), some (.int (nI i))] [] SH h3 0 0 := by
  intro n
  have fin : ∀ h3 : Hp, FilF h h3 (8 * k + g) → h3.1 61 (8 * k + g) = szI o → BSeg h3 60 (500 * (8 * k + g)) ((o.getD []).take (o.getD []).length) → E mX9_same none (fun v sh' h' => sh' = SH ∧ v = some (.int (nI (o.getD []).length)) ∧ MRep (aF b k (setF (b.2.2.2.1 k) g o)) h' ∧ MF h h') 43 [some (.ref 59), some (.int (nI k)), some (.int (nI g)), some (.int (nI (8 * k + g))), some (.int (nI (8 * (1 - k) + g))), some (.int (nI (o.getD []).length))] [] SH h3 0 0 := by
    intro h3 F3 h61 B3
    have q1' : h3.2.2 59 1 = some 61 := by rw [F3.1]; exact M.2.2.1.2.1
    rw [List.take_length] at B3
    refine E_iload dX9_same_43 rfl ?_
    refine E_aload_n dX9_same_45 rfl ?_
    refine E_iload_n dX9_same_46 rfl ?_
    refine cV1 (N := mX9_sizeOf) dX9_same_47 cn_X9_sizeOf lk_X9_69 ⟨Nat.le_of_ble_eq_true rfl, Nat.le_of_ble_eq_true rfl⟩ rfl rfl (Nat.le_of_ble_eq_true rfl) ⟨rfl, rfl⟩ (m_sizeOf q1' (by omega) h61 hl) (fun v4 h4 ⟨hv4, hh4⟩ => ?_)
    rw [hv4, hh4]
    refine E_icmp_ge 86 dX9_same_50 (by decide) (fun c_50 => ?_) (fun c_50 => absurd (nI_le (by omega) (by omega)) c_50)
    refine E_aload_n dX9_same_86 rfl ?_
    refine E_iload_n dX9_same_87 rfl ?_
    refine cV1 (N := mX9_sizeOf) dX9_same_88 cn_X9_sizeOf lk_X9_69 ⟨Nat.le_of_ble_eq_true rfl, Nat.le_of_ble_eq_true rfl⟩ rfl rfl (Nat.le_of_ble_eq_true rfl) ⟨rfl, rfl⟩ (m_sizeOf q1' (by omega) h61 hl) (fun v5 h5 ⟨hv5, hh5⟩ => ?_)
    rw [hv5, hh5]
    exact E_reti dX9_same_91 rfl rfl (Nat.le_of_ble_eq_true rfl) (Nat.le_of_ble_eq_true rfl) ⟨rfl, rfl, M.file (o := o) hk hg F3 h61 hl B3, F3.mf⟩
  induction n with
  | zero =>
    intro i h3 r1 r2 F3 h61 B3
    have e : i = (o.getD []).length := by omega
    subst e
    exact fin h3 F3 h61 B3
  | succ n ih =>
    intro i h3 r1 r2 F3 h61 B3
    by_cases e : i = (o.getD []).length
    · subst e
      exact fin h3 F3 h61 B3
    · have q0' : h3.2.2 59 0 = some 60 := by rw [F3.1]; exact M.2.2.1.1
      have q1' : h3.2.2 59 1 = some 61 := by rw [F3.1]; exact M.2.2.1.2.1
      have hi : i < (o.getD []).length := by omega
      have hread : h3.1 60 (500 * (8 * (1 - k) + g) + i) = sb ((o.getD []).getD i 0) := by rw [F3.2.2.2 _ (by omega)]; exact fB.at hi
      have tl : ((o.getD []).take i).length = i := by rw [List.length_take]; omega
      have B4 := B3.rset (q := i) (m := 500) (v := (o.getD []).getD i 0) (by omega) (by omega) (fB.lt _)
      rw [rset, if_neg (by omega), if_pos (by omega), ← take_s hi] at B4
      refine E_iload dX9_same_43 rfl ?_
      refine E_aload_n dX9_same_45 rfl ?_
      refine E_iload_n dX9_same_46 rfl ?_
      refine cV1 (N := mX9_sizeOf) dX9_same_47 cn_X9_sizeOf lk_X9_69 ⟨Nat.le_of_ble_eq_true rfl, Nat.le_of_ble_eq_true rfl⟩ rfl rfl (Nat.le_of_ble_eq_true rfl) ⟨rfl, rfl⟩ (m_sizeOf q1' (by omega) h61 hl) (fun v4 h4 ⟨hv4, hh4⟩ => ?_)
      rw [hv4, hh4]
      refine E_icmp_ge 86 dX9_same_50 (by decide) (fun c_50 => absurd c_50 (nI_ge hi (by omega))) (fun c_50 => ?_)
      refine E_aload_n dX9_same_53 rfl ?_
      refine E_getR dX9_same_54 fl_X9_7 rfl (by assumption) rfl ?_
      refine E_si 500 dX9_same_57 (by decide) ?_
      refine E_iload_n dX9_same_60 rfl ?_
      refine E_imul dX9_same_61 ?_
      refine E_iload dX9_same_62 rfl ?_
      refine E_iadd dX9_same_64 ?_
      refine E_aload_n dX9_same_65 rfl ?_
      refine E_getR dX9_same_66 fl_X9_7 rfl (by assumption) rfl ?_
      refine E_si 500 dX9_same_69 (by decide) ?_
      refine E_iload dX9_same_72 rfl ?_
      refine E_imul dX9_same_74 ?_
      refine E_iload dX9_same_75 rfl ?_
      refine E_iadd dX9_same_77 ?_
      rw [show (500 : Int32) = nI 500 by decide, pk_mul, pk_mul, nI_add, nI_add]
      refine E_bald dX9_same_78 rfl (vp_in_nI (by omega) (by omega)) ?_
      rw [nI_clamp (by omega), hread]
      refine E_bast dX9_same_79 rfl (vp_in_nI (by omega) (by omega)) ?_
      rw [nI_clamp (by omega), sb_n _ (fB.lt _)]
      refine E_iinc dX9_same_80 rfl (by decide) ?_
      refine E_goto 43 dX9_same_83 (by decide) ?_
      rw [nI_inc]
      exact ih (i + 1) _ (by omega) (by omega) (F3.by _ (by omega)) (by rw [← h61]; simp [sI, u2]) B4
theorem m_same {b : Ab} {h : Hp} (M : MRep b h) (e f : Int32) : Sp0 mX9_same [.ref 59, .int e, .int f] SH h (fun v h' => v = some (.int (saR b e f)) ∧ MRep (saS b e f) h' ∧ MF h h') := by
  obtain ⟨q0, q1, q2, q3, q9, q10, q11, q13, q14, q22, q29, q33, q34, q36, q37, q40⟩ := id M.2.2.1
  refine Sp0.of (by decide) (Nat.le_of_ble_eq_true rfl) ?_
  show E mX9_same none _ 0 [some (.ref 59), some (.int e), some (.int f), none, none, none] [] SH h 0 0
  by_cases hok : eOk e ∧ fOk f
  · obtain ⟨k, g, hk, hg, rfl, rfl⟩ := ok_of hok
    have fm := M.fm (show 1 - k < 2 by omega) hg
    rw [saR, saS, if_pos hok, if_pos hok, one_sub hk, Fo_nI b (show 1 - k < 2 by omega) hg, setFo_nI b hk hg]
    refine E_iload_n dX9_same_0 rfl ?_
    refine E_iload_n dX9_same_1 rfl ?_
    refine cS2 (N := mX9_isFile) dX9_same_2 cn_X9_isFile lk_X9_65 ⟨Nat.le_of_ble_eq_true rfl, Nat.le_of_ble_eq_true rfl⟩ (Nat.le_of_ble_eq_true rfl) ⟨rfl, rfl⟩ (m_isFile _ _) (fun v2 h2 ⟨hv2, hh2⟩ => ?_)
    rw [hv2, hh2, if_pos hok]
    refine E_if_ne 10 dX9_same_5 (by decide) (fun c_5 => ?_) (fun c_5 => absurd c_5 (by decide))
    refine E_bi 8 dX9_same_10 (by decide) ?_
    refine E_iload_n dX9_same_12 rfl ?_
    refine E_imul dX9_same_13 ?_
    refine E_iload_n dX9_same_14 rfl ?_
    refine E_iadd dX9_same_15 ?_
    rw [show (8 : Int32) = nI 8 by decide, pk_mul, nI_add]
    refine E_istore_n dX9_same_16 (by decide) ?_
    refine E_bi 8 dX9_same_17 (by decide) ?_
    refine E_ic 1 dX9_same_19 (by decide) ?_
    refine E_iload_n dX9_same_20 rfl ?_
    refine E_isub dX9_same_21 ?_
    refine E_imul dX9_same_22 ?_
    refine E_iload_n dX9_same_23 rfl ?_
    refine E_iadd dX9_same_24 ?_
    rw [one_sub hk, show (8 : Int32) = nI 8 by decide, pk_mul, nI_add]
    refine E_istore dX9_same_25 (by decide) ?_
    refine E_aload_n dX9_same_27 rfl ?_
    refine E_getR dX9_same_28 fl_X9_13 rfl (by assumption) rfl ?_
    refine E_iload_n dX9_same_31 rfl ?_
    refine E_aload_n dX9_same_32 rfl ?_
    refine E_getR dX9_same_33 fl_X9_13 rfl (by assumption) rfl ?_
    refine E_iload dX9_same_36 rfl ?_
    refine E_iald dX9_same_38 rfl (vp_in_nI (by omega) (by omega)) ?_
    rw [nI_clamp (by omega), fm.1]
    refine E_iast dX9_same_39 rfl (vp_in_nI (by omega) (by omega)) ?_
    rw [nI_clamp (by omega)]
    refine E_ic 0 dX9_same_40 (by decide) ?_
    refine E_istore dX9_same_41 (by decide) ?_
    exact sa_loop M hk hg rfl fm.2.1 fm.2.2 _ 0 _ (Nat.le_refl _) (by omega) (FilF.rf.sz _) (by simp [sI, u2]) ⟨fun x hx => (by simp at hx), fun j hj => (by simp at hj)⟩
  · rw [saR, saS, if_neg hok, if_neg hok]
    refine E_iload_n dX9_same_0 rfl ?_
    refine E_iload_n dX9_same_1 rfl ?_
    refine cS2 (N := mX9_isFile) dX9_same_2 cn_X9_isFile lk_X9_65 ⟨Nat.le_of_ble_eq_true rfl, Nat.le_of_ble_eq_true rfl⟩ (Nat.le_of_ble_eq_true rfl) ⟨rfl, rfl⟩ (m_isFile _ _) (fun v2 h2 ⟨hv2, hh2⟩ => ?_)
    rw [hv2, hh2, if_neg hok]
    refine E_if_ne 10 dX9_same_5 (by decide) (fun c_5 => absurd rfl c_5) (fun c_5 => ?_)
    refine E_ic (-1) dX9_same_8 (by decide) ?_
    exact E_reti dX9_same_9 rfl rfl (Nat.le_of_ble_eq_true rfl) (Nat.le_of_ble_eq_true rfl) ⟨rfl, rfl, M, MF.rf⟩

