/-! the model: node -/
theorem ScrF_I {h h1 : Hp} (F : ScrF h h1) (j : Nat) (x : Int32) : ScrF h (sI h1 62 j x) := ⟨F.1, fun y q => by rw [← F.2.1 y q]; funext i; simp [sI, u2, q], F.2.2⟩
theorem ScrF_L {h h1 : Hp} (F : ScrF h h1) (j : Nat) (x : Int64) : ScrF h (sL h1 63 j x) := ⟨F.1, F.2.1, fun y q => by rw [← F.2.2 y q]; funext i; simp [sL, u2, q]⟩
theorem b8_len (x : Int64) : (bytes8 x).length = 8 := by simp [bytes8]
theorem b8_lt (x : Int64) : ∀ y ∈ bytes8 x, y < 256 := by
  intro y hy
  obtain ⟨i, -, rfl⟩ := List.mem_map.mp hy
  exact Nat.mod_lt _ (by decide)
theorem b8_at (x : Int64) {i : Nat} (h : i < 8) : (bytes8 x).getD i 0 = byteAt x i := by simp [bytes8, List.getD, h]
theorem pair_len (A B : Int64) : (bytes8 A ++ bytes8 B).length = 16 := by rw [List.length_append, b8_len, b8_len]
theorem pair_seg {h : Hp} {A B : Int64} (h1 : ∀ j, j < 8 → h.1 62 j = sb (byteAt A j) ∧ h.1 62 (8 + j) = sb (byteAt B j)) : BSeg h 62 0 (bytes8 A ++ bytes8 B) := by
  refine ⟨fun x hx => (List.mem_append.mp hx).elim (b8_lt A x) (b8_lt B x), fun j hj => ?_⟩
  rw [pair_len] at hj
  rw [Nat.zero_add]
  by_cases q : j < 8
  · rw [(h1 j q).1, ← b8_at A q]
    congr 1
    simp only [List.getD]
    rw [List.getElem?_append_left (by rw [b8_len]; exact q)]
  · obtain ⟨i, rfl⟩ : ∃ i, j = 8 + i := ⟨j - 8, by omega⟩
    have q2 : i < 8 := by omega
    rw [(h1 i q2).2, ← b8_at B q2]
    congr 1
    simp only [List.getD]
    rw [List.getElem?_append_right (by rw [b8_len]; omega), b8_len, Nat.add_sub_cancel_left]
theorem dig_pair (A B : Int64) : dig (bytes8 A ++ bytes8 B) = mx A B := by rw [dig, List.foldl_append]; rfl
theorem idx56 : ∀ i, i < 8 → (56 : Int32) - 8 * nI i = nI (56 - 8 * i) := by decide
theorem m_nodeIn {h0 h : Hp} {e x2 k : Nat} {Q : QT} {A B : Int64} (q2 : h.2.2 59 2 = some 62) (q3 : h.2.2 59 3 = some 63) (hk : 1 ≤ k) (hk8 : k < 8) (hA : h.2.1 63 (2 * k) = A) (hB : h.2.1 63 (2 * k + 1) = B) : ∀ (n i : Nat) (h3 : Hp), 8 - i ≤ n → i ≤ 8 → ScrF h0 h3 → h3.2 = h.2 → (∀ j, j < i → h3.1 62 j = sb (byteAt A j) ∧ h3.1 62 (8 + j) = sb (byteAt B j)) → (∀ h4 : Hp, ScrF h0 h4 → h4.2 = h.2 → (∀ j, j < 8 → h4.1 62 j = sb (byteAt A j) ∧ h4.1 62 (8 + j) = sb (byteAt B j)) → E mX9_node none Q 165 [some (.ref 59), some (.int (nI e)), some (.int (nI x2)), some (.int (nI k)), some (.int (nI 8))] [] SH h4 0 0) → E mX9_node none Q 95 [some (.ref 59), some (.int (nI e)), some (.int (nI x2)), some (.int (nI k)), some (.int (nI i))] [] SH h3 0 0 := by
  intro n
  induction n with
  | zero =>
    intro i h3 r1 r2 F3 E3 hj kk
    have ei : i = 8 := by omega
    subst ei
    refine E_iload dX9_node_95 rfl ?_
    refine E_bi 8 dX9_node_97 (by decide) ?_
    refine E_icmp_ge 165 dX9_node_99 (by decide) (fun c_99 => ?_) (fun c_99 => absurd (by decide) c_99)
    exact kk h3 F3 E3 hj
  | succ n ih =>
    intro i h3 r1 r2 F3 E3 hj kk
    by_cases ei : i = 8
    · subst ei
      refine E_iload dX9_node_95 rfl ?_
      refine E_bi 8 dX9_node_97 (by decide) ?_
      refine E_icmp_ge 165 dX9_node_99 (by decide) (fun c_99 => ?_) (fun c_99 => absurd (by decide) c_99)
      exact kk h3 F3 E3 hj
    · have q2' : h3.2.2 59 2 = some 62 := by rw [E3]; exact q2
      have q3' : h3.2.2 59 3 = some 63 := by rw [E3]; exact q3
      have hA' : h3.2.1 63 (2 * k) = A := by rw [E3]; exact hA
      have hB' : h3.2.1 63 (2 * k + 1) = B := by rw [E3]; exact hB
      refine E_iload dX9_node_95 rfl ?_
      refine E_bi 8 dX9_node_97 (by decide) ?_
      rw [show (8 : Int32) = nI 8 by decide]
      refine E_icmp_ge 165 dX9_node_99 (by decide) (fun c_99 => absurd c_99 (nI_ge (by omega) (by omega))) (fun c_99 => ?_)
      refine E_aload_n dX9_node_102 rfl ?_
      refine E_getR dX9_node_103 fl_X9_17 rfl (by assumption) rfl ?_
      refine E_iload dX9_node_106 rfl ?_
      refine E_aload_n dX9_node_108 rfl ?_
      refine E_getR dX9_node_109 fl_X9_20 rfl (by assumption) rfl ?_
      refine E_ic 2 dX9_node_112 (by decide) ?_
      refine E_iload_n dX9_node_113 rfl ?_
      refine E_imul dX9_node_114 ?_
      rw [show (2 : Int32) = nI 2 by decide, pk_mul]
      refine E_lald dX9_node_115 rfl (vp_in_nI (by omega) (by omega)) ?_
      rw [nI_clamp (by omega), hA']
      refine E_bi 56 dX9_node_116 (by decide) ?_
      refine E_bi 8 dX9_node_118 (by decide) ?_
      refine E_iload dX9_node_120 rfl ?_
      refine E_imul dX9_node_122 ?_
      refine E_isub dX9_node_123 ?_
      rw [idx56 i (by omega)]
      refine E_lshr dX9_node_124 ?_
      refine E_l2i dX9_node_125 ?_
      refine E_i2b dX9_node_126 ?_
      rw [sgn_b A (by omega)]
      refine E_bast dX9_node_127 rfl (vp_in_nI (by omega) (by omega)) ?_
      rw [nI_clamp (by omega), sb_n _ (Nat.mod_lt _ (by decide))]
      refine E_aload_n dX9_node_128 rfl ?_
      refine E_getR dX9_node_129 fl_X9_17 rfl (by assumption) rfl ?_
      refine E_bi 8 dX9_node_132 (by decide) ?_
      refine E_iload dX9_node_134 rfl ?_
      refine E_iadd dX9_node_136 ?_
      refine E_aload_n dX9_node_137 rfl ?_
      refine E_getR dX9_node_138 fl_X9_20 rfl (by assumption) rfl ?_
      refine E_ic 2 dX9_node_141 (by decide) ?_
      refine E_iload_n dX9_node_142 rfl ?_
      refine E_imul dX9_node_143 ?_
      refine E_ic 1 dX9_node_144 (by decide) ?_
      refine E_iadd dX9_node_145 ?_
      rw [show (2 : Int32) = nI 2 by decide, pk_mul, nI_1]
      refine E_lald dX9_node_146 rfl (vp_in_nI (by omega) (by omega)) ?_
      rw [nI_clamp (by omega), show (sI h3 62 i (sb (A.toBitVec.toNat / 2 ^ (56 - 8 * i) % 256))).2.1 63 (2 * k + 1) = B from hB']
      refine E_bi 56 dX9_node_147 (by decide) ?_
      refine E_bi 8 dX9_node_149 (by decide) ?_
      refine E_iload dX9_node_151 rfl ?_
      refine E_imul dX9_node_153 ?_
      refine E_isub dX9_node_154 ?_
      rw [idx56 i (by omega)]
      refine E_lshr dX9_node_155 ?_
      refine E_l2i dX9_node_156 ?_
      refine E_i2b dX9_node_157 ?_
      rw [sgn_b B (by omega), show (8 : Int32) = nI 8 by decide, nI_add]
      refine E_bast dX9_node_158 rfl (vp_in_nI (by omega) (by omega)) ?_
      rw [nI_clamp (by omega), sb_n _ (Nat.mod_lt _ (by decide))]
      refine E_iinc dX9_node_159 rfl (by decide) ?_
      refine E_goto 95 dX9_node_162 (by decide) ?_
      rw [nI_inc]
      refine ih (i + 1) _ (by omega) (by omega) (ScrF_I (ScrF_I F3 _ _) _ _) E3 (fun j hj2 => ?_) kk
      by_cases q : j = i
      · subst q
        refine ⟨?_, ?_⟩
        · have : j ≠ 8 + j := by omega
          simp [sI, u2, this, byteAt]
        · simp [sI, u2, byteAt]
      · have q3 := hj j (by omega)
        have n1 : j ≠ 8 + i := by omega
        have n2 : 8 + j ≠ i := by omega
        have n3 : 8 + j ≠ 8 + i := by omega
        simp only [sI, u2, q, n1, n2, n3, and_false, if_false]
        exact q3
theorem node_fin {h h3 h4 : Hp} {e x n : Nat} {FF : FS} {Q : QT} (F4 : ScrF h h4) (e4 : h4.2 = h3.2) (q2 : h3.2.2 59 2 = some 62) (q3 : h3.2.2 59 3 = some 63) (r2 : n + 1 < 16) (hp : ∀ j, j < 8 → h4.1 62 j = sb (byteAt (nodeF FF (2 * (n + 1))) j) ∧ h4.1 62 (8 + j) = sb (byteAt (nodeF FF (2 * (n + 1) + 1)) j)) (hrec : nodeF FF (n + 1) = mx (nodeF FF (2 * (n + 1))) (nodeF FF (2 * (n + 1) + 1))) (hm : ∀ m, n + 1 < m → m < 16 → h3.2.1 63 m = nodeF FF m) (next : ∀ (h4 : Hp) (y4 : Option Value), ScrF h h4 → h4.2.1 63 (n + 1) = nodeF FF (n + 1) → (∀ m, n + 1 < m → m < 16 → h4.2.1 63 m = nodeF FF m) → E mX9_node none Q 181 [some (.ref 59), some (.int (nI e)), some (.int (nI x)), some (.int (nI (n + 1))), y4] [] SH h4 0 0) : E mX9_node none Q 165 [some (.ref 59), some (.int (nI e)), some (.int (nI x)), some (.int (nI (n + 1))), some (.int (nI 8))] [] SH h4 0 0 := by
  have q2' : h4.2.2 59 2 = some 62 := by rw [e4]; exact q2
  have q3' : h4.2.2 59 3 = some 63 := by rw [e4]; exact q3
  have sg := pair_seg hp
  have pl := pair_len (nodeF FF (2 * (n + 1))) (nodeF FF (2 * (n + 1) + 1))
  refine E_aload_n dX9_node_165 rfl ?_
  refine E_getR dX9_node_166 fl_X9_20 rfl (by assumption) rfl ?_
  refine E_iload_n dX9_node_169 rfl ?_
  refine E_aload_n dX9_node_170 rfl ?_
  refine E_getR dX9_node_171 fl_X9_17 rfl (by assumption) rfl ?_
  refine E_ic 0 dX9_node_174 (by decide) ?_
  refine E_bi 16 dX9_node_175 (by decide) ?_
  rw [show (0 : Int32) = nI 0 by decide, show (16 : Int32) = nI (bytes8 (nodeF FF (2 * (n + 1))) ++ bytes8 (nodeF FF (2 * (n + 1) + 1))).length by rw [pl]; decide]
  refine cS3 (N := mX9_digest) dX9_node_177 cn_X9_digest lk_X9_79 ⟨Nat.le_of_ble_eq_true rfl, Nat.le_of_ble_eq_true rfl⟩ (Nat.le_of_ble_eq_true rfl) ⟨rfl, rfl⟩ (m_digest (m := 16) rfl (by decide) sg (by omega)) (fun v5 h5 ⟨hv5, hh5⟩ => ?_)
  rw [hv5, hh5]
  refine E_last dX9_node_180 rfl (vp_in_nI (by omega) (by omega)) ?_
  rw [nI_clamp (by omega)]
  refine next _ _ (ScrF_L F4 _ _) ?_ (fun m q1 q2 => ?_)
  · rw [hrec, ← dig_pair]
    simp [sL, u2]
  · rw [← hm m q1 q2]
    have : m ≠ n + 1 := by omega
    simp [sL, u2, this, e4]
theorem m_nodeLoop {b : Ab} {h : Hp} (M : MRep b h) {e x : Nat} (he : e < 2) (hx1 : 1 ≤ x) (hx2 : x < 16) {Q : QT} (kk : ∀ h', ScrF h h' → Q (some (.long (nodeF (b.2.2.2.1 e) x))) SH h') : ∀ (n : Nat) (h3 : Hp) (x4 : Option Value), x ≤ n + 1 → n < 16 → ScrF h h3 → (∀ m, n < m → m < 16 → h3.2.1 63 m = nodeF (b.2.2.2.1 e) m) → E mX9_node none Q 25 [some (.ref 59), some (.int (nI e)), some (.int (nI x)), some (.int (nI n)), x4] [] SH h3 0 0 := by
  intro n
  induction n with
  | zero =>
    intro h3 x4 r1 r2 F3 hm
    have q3 : h3.2.2 59 3 = some 63 := by rw [F3.1]; exact M.2.2.1.2.2.2.1
    refine E_iload_n dX9_node_25 rfl ?_
    refine E_iload_n dX9_node_26 rfl ?_
    refine E_icmp_lt 187 dX9_node_27 (by decide) (fun c_27 => ?_) (fun c_27 => absurd (nI_lt (by omega) (by omega)) c_27)
    refine E_aload_n dX9_node_187 rfl ?_
    refine E_getR dX9_node_188 fl_X9_20 rfl (by assumption) rfl ?_
    refine E_iload_n dX9_node_191 rfl ?_
    refine E_lald dX9_node_192 rfl (vp_in_nI (by omega) (by omega)) ?_
    rw [nI_clamp (by omega), hm x (by omega) hx2]
    exact E_retl dX9_node_193 rfl (Nat.le_of_ble_eq_true rfl) (Nat.le_of_ble_eq_true rfl) (kk h3 F3)
  | succ n ih =>
    intro h3 x4 r1 r2 F3 hm
    have M3 := M.scr F3
    obtain ⟨q0, q1, q2, q3, q9, q10, q11, q13, q14, q22, q29, q33, q34, q36, q37, q40⟩ := id M3.2.2.1
    by_cases hlt : n + 1 < x
    · refine E_iload_n dX9_node_25 rfl ?_
      refine E_iload_n dX9_node_26 rfl ?_
      refine E_icmp_lt 187 dX9_node_27 (by decide) (fun c_27 => ?_) (fun c_27 => absurd (nI_lt (by omega) (by omega)) c_27)
      refine E_aload_n dX9_node_187 rfl ?_
      refine E_getR dX9_node_188 fl_X9_20 rfl (by assumption) rfl ?_
      refine E_iload_n dX9_node_191 rfl ?_
      refine E_lald dX9_node_192 rfl (vp_in_nI (by omega) (by omega)) ?_
      rw [nI_clamp (by omega), hm x (by omega) hx2]
      exact E_retl dX9_node_193 rfl (Nat.le_of_ble_eq_true rfl) (Nat.le_of_ble_eq_true rfl) (kk h3 F3)
    · have next : ∀ (h4 : Hp) (y4 : Option Value), ScrF h h4 → h4.2.1 63 (n + 1) = nodeF (b.2.2.2.1 e) (n + 1) → (∀ m, n + 1 < m → m < 16 → h4.2.1 63 m = nodeF (b.2.2.2.1 e) m) → E mX9_node none Q 181 [some (.ref 59), some (.int (nI e)), some (.int (nI x)), some (.int (nI (n + 1))), y4] [] SH h4 0 0 := by
        intro h4 y4 F4 h5 h6
        refine E_iinc dX9_node_181 rfl (by decide) ?_
        refine E_goto 25 dX9_node_184 (by decide) ?_
        rw [show nI (n + 1) + Int32.ofInt (-1) = nI n from pk_m1 n]
        exact ih h4 y4 (by omega) (by omega) F4 (fun m q1 q2 => by rcases (show m = n + 1 ∨ n + 1 < m by omega) with rfl | q; exact h5; exact h6 m q q2)
      by_cases h8 : 8 ≤ n + 1
      · obtain ⟨f, hf⟩ : ∃ f, n + 1 = 8 + f := ⟨n + 1 - 8, by omega⟩
        have hf8 : f < 8 := by omega
        have fm := M3.fm he hf8
        have hnd : nodeF (b.2.2.2.1 e) (n + 1) = leafD (b.2.2.2.1 e) f := by rw [nodeF, if_pos h8, nd8, hf, Nat.add_sub_cancel_left]
        have hix : (8 : Int32) * nI e + nI (n + 1) - 8 = nI (8 * e + f) := by
          rw [show (8 : Int32) = nI 8 by decide, pk_mul, nI_add, pk_sub (by omega)]
          congr 1
          omega
        cases hxs : b.2.2.2.1 e f with
        | none =>
          rw [hxs] at fm
          refine E_iload_n dX9_node_25 rfl ?_
          refine E_iload_n dX9_node_26 rfl ?_
          refine E_icmp_lt 187 dX9_node_27 (by decide) (fun c_27 => absurd c_27 (nI_nlt (by omega) (by omega))) (fun c_27 => ?_)
          refine E_iload_n dX9_node_30 rfl ?_
          refine E_bi 8 dX9_node_31 (by decide) ?_
          rw [show (8 : Int32) = nI 8 by decide]
          refine E_icmp_lt 92 dX9_node_33 (by decide) (fun c_33 => absurd c_33 (nI_nlt (by omega) (by omega))) (fun c_33 => ?_)
          refine E_bi 8 dX9_node_36 (by decide) ?_
          refine E_iload_n dX9_node_38 rfl ?_
          refine E_imul dX9_node_39 ?_
          refine E_iload_n dX9_node_40 rfl ?_
          refine E_iadd dX9_node_41 ?_
          refine E_bi 8 dX9_node_42 (by decide) ?_
          refine E_isub dX9_node_44 ?_
          rw [hix]
          refine E_istore dX9_node_45 (by decide) ?_
          refine E_aload_n dX9_node_47 rfl ?_
          refine E_getR dX9_node_48 fl_X9_20 rfl (by assumption) rfl ?_
          refine E_iload_n dX9_node_51 rfl ?_
          refine E_aload_n dX9_node_52 rfl ?_
          refine E_getR dX9_node_53 fl_X9_13 rfl (by assumption) rfl ?_
          refine E_iload dX9_node_56 rfl ?_
          refine E_iald dX9_node_58 rfl (vp_in_nI (by omega) (by omega)) ?_
          rw [nI_clamp (by omega), fm.1]
          refine E_bi (-2) dX9_node_59 (by decide) ?_
          refine E_icmp_ne 68 dX9_node_61 (by decide) (fun c_61 => absurd rfl c_61) (fun c_61 => ?_)
          refine E_lc 0 dX9_node_64 (by decide) ?_
          refine E_goto 88 dX9_node_65 (by decide) ?_
          refine E_last dX9_node_88 rfl (vp_in_nI (by omega) (by omega)) ?_
          rw [nI_clamp (by omega)]
          refine E_goto 181 dX9_node_89 (by decide) ?_
          refine next _ _ (ScrF_L F3 _ _) ?_ (fun m q1 q2 => ?_)
          · rw [hnd, leafD, hxs]
            simp [sL, u2]
          · rw [← hm m q1 q2]
            have : m ≠ n + 1 := by omega
            simp [sL, u2, this]
        | some xs =>
          rw [hxs] at fm
          have hl : xs.length ≤ 500 := fm.2.1
          have f1 : h3.1 61 (8 * e + f) = nI xs.length := fm.1
          have fB : BSeg h3 60 (500 * (8 * e + f)) xs := fm.2.2
          refine E_iload_n dX9_node_25 rfl ?_
          refine E_iload_n dX9_node_26 rfl ?_
          refine E_icmp_lt 187 dX9_node_27 (by decide) (fun c_27 => absurd c_27 (nI_nlt (by omega) (by omega))) (fun c_27 => ?_)
          refine E_iload_n dX9_node_30 rfl ?_
          refine E_bi 8 dX9_node_31 (by decide) ?_
          rw [show (8 : Int32) = nI 8 by decide]
          refine E_icmp_lt 92 dX9_node_33 (by decide) (fun c_33 => absurd c_33 (nI_nlt (by omega) (by omega))) (fun c_33 => ?_)
          refine E_bi 8 dX9_node_36 (by decide) ?_
          refine E_iload_n dX9_node_38 rfl ?_
          refine E_imul dX9_node_39 ?_
          refine E_iload_n dX9_node_40 rfl ?_
          refine E_iadd dX9_node_41 ?_
          refine E_bi 8 dX9_node_42 (by decide) ?_
          refine E_isub dX9_node_44 ?_
          rw [hix]
          refine E_istore dX9_node_45 (by decide) ?_
          refine E_aload_n dX9_node_47 rfl ?_
          refine E_getR dX9_node_48 fl_X9_20 rfl (by assumption) rfl ?_
          refine E_iload_n dX9_node_51 rfl ?_
          refine E_aload_n dX9_node_52 rfl ?_
          refine E_getR dX9_node_53 fl_X9_13 rfl (by assumption) rfl ?_
          refine E_iload dX9_node_56 rfl ?_
          refine E_iald dX9_node_58 rfl (vp_in_nI (by omega) (by omega)) ?_
          rw [nI_clamp (by omega), f1]
          refine E_bi (-2) dX9_node_59 (by decide) ?_
          refine E_icmp_ne 68 dX9_node_61 (by decide) (fun c_61 => ?_) (fun c_61 => absurd c_61 (fun q => absurd (nI_pos (n := xs.length) (by omega)) (fun z => z (by rw [q]; decide))))
          refine E_aload_n dX9_node_68 rfl ?_
          refine E_getR dX9_node_69 fl_X9_7 rfl (by assumption) rfl ?_
          refine E_si 500 dX9_node_72 (by decide) ?_
          refine E_iload dX9_node_75 rfl ?_
          refine E_imul dX9_node_77 ?_
          refine E_aload_n dX9_node_78 rfl ?_
          refine E_getR dX9_node_79 fl_X9_13 rfl (by assumption) rfl ?_
          refine E_iload dX9_node_82 rfl ?_
          refine E_iald dX9_node_84 rfl (vp_in_nI (by omega) (by omega)) ?_
          rw [nI_clamp (by omega), f1, show (500 : Int32) = nI 500 by decide, pk_mul]
          refine cS3 (N := mX9_digest) dX9_node_85 cn_X9_digest lk_X9_79 ⟨Nat.le_of_ble_eq_true rfl, Nat.le_of_ble_eq_true rfl⟩ (Nat.le_of_ble_eq_true rfl) ⟨rfl, rfl⟩ (m_digest (m := 8000) rfl (by decide) fB (by omega)) (fun v5 h5 ⟨hv5, hh5⟩ => ?_)
          rw [hv5, hh5]
          refine E_last dX9_node_88 rfl (vp_in_nI (by omega) (by omega)) ?_
          rw [nI_clamp (by omega)]
          refine E_goto 181 dX9_node_89 (by decide) ?_
          refine next _ _ (ScrF_L F3 _ _) ?_ (fun m q1 q2 => ?_)
          · rw [hnd, leafD, hxs]
            simp [sL, u2]
          · rw [← hm m q1 q2]
            have : m ≠ n + 1 := by omega
            simp [sL, u2, this]
      · have hA := hm (2 * (n + 1)) (by omega) (by omega)
        have hB := hm (2 * (n + 1) + 1) (by omega) (by omega)
        have hrec := nodeF_rec (b.2.2.2.1 e) (n := n + 1) (by omega) (by omega)
        refine E_iload_n dX9_node_25 rfl ?_
        refine E_iload_n dX9_node_26 rfl ?_
        refine E_icmp_lt 187 dX9_node_27 (by decide) (fun c_27 => absurd c_27 (nI_nlt (by omega) (by omega))) (fun c_27 => ?_)
        refine E_iload_n dX9_node_30 rfl ?_
        refine E_bi 8 dX9_node_31 (by decide) ?_
        rw [show (8 : Int32) = nI 8 by decide]
        refine E_icmp_lt 92 dX9_node_33 (by decide) (fun c_33 => ?_) (fun c_33 => absurd (nI_lt (by omega) (by omega)) c_33)
        refine E_ic 0 dX9_node_92 (by decide) ?_
        refine E_istore dX9_node_93 (by decide) ?_
        refine m_nodeIn (h0 := h) q2 q3 (by omega) (by omega) hA hB 8 0 h3 (by omega) (by omega) F3 rfl (fun j hj => absurd hj (by omega)) (fun h4 F4 e4 hp => ?_)
        exact node_fin F4 e4 q2 q3 r2 hp hrec hm next
theorem m_node {b : Ab} {h : Hp} (M : MRep b h) (e n : Int32) : Sp0 mX9_node [.ref 59, .int e, .int n] SH h (fun v h' => v = some (.long (ndR b e n)) ∧ ScrF h h') := by
  have h1 : (1 : Int32).toInt = 1 := by decide
  have h15 : (15 : Int32).toInt = 15 := by decide
  have hE := eOk_int e
  refine Sp0.of (by decide) (Nat.le_of_ble_eq_true rfl) ?_
  show E mX9_node none _ 0 [some (.ref 59), some (.int e), some (.int n), none, none] [] SH h 0 0
  refine E_iload_n dX9_node_0 rfl ?_
  refine E_if_lt 20 dX9_node_1 (by decide) (fun c_1 => ?_) (fun c_1 => ?_)
  · refine E_lc 0 dX9_node_20 (by decide) ?_
    exact E_retl dX9_node_21 rfl (Nat.le_of_ble_eq_true rfl) (Nat.le_of_ble_eq_true rfl) ⟨rfl, by rw [i_lt, i_0] at c_1; rw [ndR, if_neg (fun z => by have := hE.mp z.1; omega)], ScrF.rf⟩
  · refine E_iload_n dX9_node_4 rfl ?_
    refine E_ic 1 dX9_node_5 (by decide) ?_
    refine E_icmp_gt 20 dX9_node_6 (by decide) (fun c_6 => ?_) (fun c_6 => ?_)
    · refine E_lc 0 dX9_node_20 (by decide) ?_
      exact E_retl dX9_node_21 rfl (Nat.le_of_ble_eq_true rfl) (Nat.le_of_ble_eq_true rfl) ⟨rfl, by rw [i_lt, h1] at c_6; rw [ndR, if_neg (fun z => by have := hE.mp z.1; omega)], ScrF.rf⟩
    · refine E_iload_n dX9_node_9 rfl ?_
      refine E_ic 1 dX9_node_10 (by decide) ?_
      refine E_icmp_lt 20 dX9_node_11 (by decide) (fun c_11 => ?_) (fun c_11 => ?_)
      · refine E_lc 0 dX9_node_20 (by decide) ?_
        exact E_retl dX9_node_21 rfl (Nat.le_of_ble_eq_true rfl) (Nat.le_of_ble_eq_true rfl) ⟨rfl, by rw [i_lt, h1] at c_11; rw [ndR, if_neg (fun z => by omega)], ScrF.rf⟩
      · refine E_iload_n dX9_node_14 rfl ?_
        refine E_bi 15 dX9_node_15 (by decide) ?_
        refine E_icmp_le 22 dX9_node_17 (by decide) (fun c_17 => ?_) (fun c_17 => ?_)
        · rw [i_lt, i_0] at c_1
          rw [i_lt, h1] at c_6 c_11
          rw [i_le, h15] at c_17
          obtain ⟨k, hk, rfl⟩ := eOk_of (hE.mpr (by omega))
          obtain ⟨x, hx, rfl⟩ := nI_of2 (x := n) (M := 15) (n := 15) h15 (by rw [i_lt, i_0]; omega) (by rw [i_le, h15]; omega)
          have hxi : (nI x).toInt = x := nI_toInt (by omega)
          rw [hxi] at c_11 c_17
          refine E_bi 15 dX9_node_22 (by decide) ?_
          refine E_istore_n dX9_node_24 (by decide) ?_
          rw [show (15 : Int32) = nI 15 by decide]
          exact m_nodeLoop M hk (by omega) (by omega) (fun h' F' => ⟨rfl, by rw [ndR, if_pos ⟨eOk_nI hk, by rw [hxi]; omega, by rw [hxi]; omega⟩, nI_clamp (by omega), nI_clamp (by omega)], F'⟩) 15 h none (by omega) (by omega) ScrF.rf (fun m q1 q2 => absurd q2 (by omega))
        · refine E_lc 0 dX9_node_20 (by decide) ?_
          exact E_retl dX9_node_21 rfl (Nat.le_of_ble_eq_true rfl) (Nat.le_of_ble_eq_true rfl) ⟨rfl, by rw [i_le, h15] at c_17; rw [ndR, if_neg (fun z => by omega)], ScrF.rf⟩

