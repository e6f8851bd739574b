/-! the model: isToLose, begin -/
theorem shT_len (T : List Nat) (i : Nat) : (shT (T.take i)).length ≤ i := by
  unfold shT
  rw [List.length_map]
  exact Nat.le_trans (List.length_filter_le _ _) (by rw [List.length_take]; omega)
theorem shT_1 {T : List Nat} {i : Nat} (hi : i < T.length) (h : T.getD i 0 = 1) : shT (T.take (i + 1)) = shT (T.take i) := by
  rw [take_s hi, shT, List.filter_append, h]
  simp [shT]
theorem shT_n {T : List Nat} {i : Nat} (hi : i < T.length) (h : ¬ T.getD i 0 = 1) : shT (T.take (i + 1)) = shT (T.take i) ++ [T.getD i 0 - 1] := by
  rw [take_s hi, shT, List.filter_append]
  have : List.filter (fun t => decide (t ≠ 1)) [T.getD i 0] = [T.getD i 0] := by rw [List.filter_cons_of_pos (by simpa using h)]; rfl
  rw [this, List.map_append]
  rfl
theorem one_mem {T : List Nat} {i : Nat} (hi : i < T.length) : (1 ∈ T.take (i + 1)) ↔ (1 ∈ T.take i ∨ T.getD i 0 = 1) := by
  rw [take_s hi, List.mem_append, List.mem_singleton]
  constructor
  · rintro (q | q)
    · exact Or.inl q
    · exact Or.inr q.symm
  · rintro (q | q)
    · exact Or.inl q
    · exact Or.inr q.symm
theorem los_fin {b : Ab} {h h3 : Hp} {T : List Nat} (M : MRep b h) (hl : T.length ≤ 8) (h2 : h3.2 = h.2) (h1 : ∀ x, x ≠ 75 → h3.1 x = h.1 x) (hr : ∀ j, j < (shT T).length → h3.1 75 j = nI ((shT T).getD j 0)) : MRep (aN b 5 (shT T)) (sI h3 59 41 (nI (shT T).length)) := by
  have sl : (shT T).length ≤ T.length := by have := shT_len T T.length; rw [List.take_length] at this; exact this
  refine M.los (W := shT T) ⟨by simp [sI, u2], by omega, fun j hj => ?_⟩ h2 (fun x r1 r2 => by rw [← h1 x r2]; funext j; simp [sI, u2, r1]) (fun s r => by rw [← h1 59 (by decide)]; simp [sI, u2, r])
  rw [← hr j hj]
  simp [sI, u2]
theorem los_step {h h3 : Hp} {T : List Nat} {i n : Nat} {Q : QT} (hi : i < T.length) (e1 : ¬ T.getD i 0 = 1) (sl : (shT (T.take i)).length ≤ i) (h2 : h3.2 = h.2) (h1 : ∀ x, x ≠ 75 → h3.1 x = h.1 x) (hr : ∀ j, j < (shT (T.take i)).length → h3.1 75 j = nI ((shT (T.take i)).getD j 0)) (ho : ∀ j, i ≤ j → j < T.length → h3.1 75 j = nI (T.getD j 0)) (r1 : T.length - (i + 1) ≤ n) (r2 : i + 1 ≤ T.length) (ih : ∀ (i : Nat) (h3 : Hp), T.length - i ≤ n → i ≤ T.length → h3.2 = h.2 → (∀ x, x ≠ 75 → h3.1 x = h.1 x) → (∀ j, j < (shT (T.take i)).length → h3.1 75 j = nI ((shT (T.take i)).getD j 0)) → (∀ j, i ≤ j → j < T.length → h3.1 75 j = nI (T.getD j 0)) → E mX9_isToLose none Q 6 [some (.ref 59), some (.int (if 1 ∈ T.take i then 1 else 0)), some (.int (nI (shT (T.take i)).length)), some (.int (nI i))] [] SH h3 0 0) : E mX9_isToLose none Q 6 [some (.ref 59), some (.int (if 1 ∈ T.take i then 1 else 0)), some (.int (nI ((shT (T.take i)).length + 1))), some (.int (nI (i + 1)))] [] SH (sI h3 75 (shT (T.take i)).length (nI (T.getD i 0 - 1))) 0 0 := by
  have hs := shT_n hi e1
  have hn := ih (i + 1) (sI h3 75 (shT (T.take i)).length (nI (T.getD i 0 - 1))) r1 r2 h2 (fun x q => by rw [← h1 x q]; funext j; simp [sI, u2, q]) (fun j hj => by
    rw [hs] at hj ⊢
    rw [List.length_append, List.length_singleton] at hj
    by_cases z : j = (shT (T.take i)).length
    · subst z
      simp [sI, u2, List.getD]
    · have z2 : j < (shT (T.take i)).length := by omega
      have z3 := hr j z2
      simp only [List.getD, List.getElem?_append_left z2]
      simp only [sI, u2, z, and_false, if_false]
      exact z3) (fun j z1 z2 => by
    have z3 : j ≠ (shT (T.take i)).length := by omega
    simp only [sI, u2, z3, and_false, if_false]
    exact ho j (by omega) z2)
  have hm : (1 ∈ T.take (i + 1)) ↔ (1 ∈ T.take i) := by rw [one_mem hi]; exact ⟨fun z => z.elim id (fun y => absurd y e1), Or.inl⟩
  rw [hs, List.length_append, List.length_singleton] at hn
  simp only [hm] at hn
  exact hn
theorem m_isToLose {b : Ab} {h : Hp} (M : MRep b h) (hT : ∀ t ∈ b.2.2.1 5, 1 ≤ t ∧ t ≤ 50) : Sp0 mX9_isToLose [.ref 59] SH h (fun v h' => v = some (.int (if 1 ∈ b.2.2.1 5 then 1 else 0)) ∧ MRep (aN b 5 (shT (b.2.2.1 5))) h' ∧ MF h h') := by
  obtain ⟨q0, q1, q2, q3, q9, q10, q11, q13, q14, q22, q29, q33, q34, q36, q37, q40⟩ := id M.2.2.1
  have c9 := M.2.2.2.2.2.2.2.2.1
  generalize hTe : b.2.2.1 5 = T at hT c9 ⊢
  obtain ⟨f1, hl, fB⟩ := c9
  refine Sp0.of (by decide) (Nat.le_of_ble_eq_true rfl) ?_
  show E mX9_isToLose none _ 0 [some (.ref 59), none, none, none] [] SH h 0 0
  have loop : ∀ (n i : Nat) (h3 : Hp), T.length - i ≤ n → i ≤ T.length → h3.2 = h.2 → (∀ x, x ≠ 75 → h3.1 x = h.1 x) → (∀ j, j < (shT (T.take i)).length → h3.1 75 j = nI ((shT (T.take i)).getD j 0)) → (∀ j, i ≤ j → j < T.length → h3.1 75 j = nI (T.getD j 0)) → E mX9_isToLose none (fun v sh' h' => sh' = SH ∧ v = some (.int (if 1 ∈ T then 1 else 0)) ∧ MRep (aN b 5 (shT T)) h' ∧ MF h h') 6 [some (.ref 59), some (.int (if 1 ∈ T.take i then 1 else 0)), some (.int (nI (shT (T.take i)).length)), some (.int (nI i))] [] SH h3 0 0 := by
    intro n
    have done : ∀ (h3 : Hp), h3.2 = h.2 → (∀ x, x ≠ 75 → h3.1 x = h.1 x) → (∀ j, j < (shT (T.take T.length)).length → h3.1 75 j = nI ((shT (T.take T.length)).getD j 0)) → E mX9_isToLose none (fun v sh' h' => sh' = SH ∧ v = some (.int (if 1 ∈ T then 1 else 0)) ∧ MRep (aN b 5 (shT T)) h' ∧ MF h h') 6 [some (.ref 59), some (.int (if 1 ∈ T.take T.length then 1 else 0)), some (.int (nI (shT (T.take T.length)).length)), some (.int (nI T.length))] [] SH h3 0 0 := by
      intro h3 h2 h1 hr
      rw [List.take_length] at hr ⊢
      have M4 := los_fin M hl h2 h1 hr
      have F4 : MF h (sI h3 59 41 (nI (shT T).length)) := MF_sI ⟨by rw [h2], fun x q => ⟨h1 x (by omega), by rw [h2]⟩⟩ (by decide)
      refine E_iload_n dX9_isToLose_6 rfl ?_
      refine E_aload_n dX9_isToLose_7 rfl ?_
      refine E_getI dX9_isToLose_8 fl_X9_160 rfl rfl ?_
      rw [h1 59 (by decide), f1]
      refine E_icmp_ge 52 dX9_isToLose_11 (by decide) (fun c_11 => ?_) (fun c_11 => absurd (nI_le (by omega) (by omega)) c_11)
      refine E_aload_n dX9_isToLose_52 rfl ?_
      refine E_iload_n dX9_isToLose_53 rfl ?_
      refine E_putI dX9_isToLose_54 fl_X9_160 rfl rfl ?_
      refine E_iload_n dX9_isToLose_57 rfl ?_
      exact E_reti dX9_isToLose_58 rfl (by split <;> rfl) (Nat.le_of_ble_eq_true rfl) (Nat.le_of_ble_eq_true rfl) ⟨rfl, rfl, M4, F4⟩
    induction n with
    | zero =>
      intro i h3 r1 r2 h2 h1 hr ho
      have e : i = T.length := by omega
      subst e
      exact done h3 h2 h1 hr
    | succ n ih =>
      intro i h3 r1 r2 h2 h1 hr ho
      by_cases e : i = T.length
      · subst e
        exact done h3 h2 h1 hr
      · have hi : i < T.length := by omega
        have hti := hT _ (mem_yes hi rfl)
        have sl := shT_len T i
        have q40' : h3.2.2 59 40 = some 75 := by rw [h2]; exact q40
        by_cases e1 : T.getD i 0 = 1
        · have hn := ih (i + 1) h3 (by omega) (by omega) h2 h1 (by rw [shT_1 hi e1]; exact hr) (fun j z1 z2 => ho j (by omega) z2)
          rw [shT_1 hi e1, if_pos ((one_mem hi).mpr (Or.inr e1))] at hn
          refine E_iload_n dX9_isToLose_6 rfl ?_
          refine E_aload_n dX9_isToLose_7 rfl ?_
          refine E_getI dX9_isToLose_8 fl_X9_160 rfl rfl ?_
          rw [h1 59 (by decide), f1]
          refine E_icmp_ge 52 dX9_isToLose_11 (by decide) (fun c_11 => absurd c_11 (nI_ge hi (by omega))) (fun c_11 => ?_)
          refine E_aload_n dX9_isToLose_14 rfl ?_
          refine E_getR dX9_isToLose_15 fl_X9_58 rfl (by assumption) rfl ?_
          refine E_iload_n dX9_isToLose_18 rfl ?_
          refine E_iald dX9_isToLose_19 rfl (vp_in_nI (by omega) (by omega)) ?_
          rw [nI_clamp (by omega), ho i (Nat.le_refl _) hi, e1]
          refine E_ic 1 dX9_isToLose_20 (by decide) ?_
          refine E_icmp_ne 29 dX9_isToLose_21 (by decide) (fun c_21 => absurd (by decide) c_21) (fun c_21 => ?_)
          refine E_ic 1 dX9_isToLose_24 (by decide) ?_
          refine E_istore_n dX9_isToLose_25 (by decide) ?_
          refine E_goto 46 dX9_isToLose_26 (by decide) ?_
          refine E_iinc dX9_isToLose_46 rfl (by decide) ?_
          refine E_goto 6 dX9_isToLose_49 (by decide) ?_
          rw [nI_inc]
          exact hn
        · have hx : T.getD i 0 - 1 < 2 ^ 31 := by omega
          have hsub : nI (T.getD i 0) - 1 = nI (T.getD i 0 - 1) := by rw [show (1 : Int32) = nI 1 by decide, pk_sub hti.1]
          refine E_iload_n dX9_isToLose_6 rfl ?_
          refine E_aload_n dX9_isToLose_7 rfl ?_
          refine E_getI dX9_isToLose_8 fl_X9_160 rfl rfl ?_
          rw [h1 59 (by decide), f1]
          refine E_icmp_ge 52 dX9_isToLose_11 (by decide) (fun c_11 => absurd c_11 (nI_ge hi (by omega))) (fun c_11 => ?_)
          refine E_aload_n dX9_isToLose_14 rfl ?_
          refine E_getR dX9_isToLose_15 fl_X9_58 rfl (by assumption) rfl ?_
          refine E_iload_n dX9_isToLose_18 rfl ?_
          refine E_iald dX9_isToLose_19 rfl (vp_in_nI (by omega) (by omega)) ?_
          rw [nI_clamp (by omega), ho i (Nat.le_refl _) hi, show (1 : Int32) = nI 1 by decide]
          refine E_ic 1 dX9_isToLose_20 (by decide) ?_
          refine E_icmp_ne 29 dX9_isToLose_21 (by decide) (fun c_21 => ?_) (fun c_21 => absurd ((nI_eq (b := 1) (by omega) (by decide)).mp c_21) e1)
          refine E_aload_n dX9_isToLose_29 rfl ?_
          refine E_getR dX9_isToLose_30 fl_X9_58 rfl (by assumption) rfl ?_
          refine E_iload_n dX9_isToLose_33 rfl ?_
          refine E_aload_n dX9_isToLose_34 rfl ?_
          refine E_getR dX9_isToLose_35 fl_X9_58 rfl (by assumption) rfl ?_
          refine E_iload_n dX9_isToLose_38 rfl ?_
          refine E_iald dX9_isToLose_39 rfl (vp_in_nI (by omega) (by omega)) ?_
          rw [nI_clamp (by omega), ho i (Nat.le_refl _) hi]
          refine E_ic 1 dX9_isToLose_40 (by decide) ?_
          refine E_isub dX9_isToLose_41 ?_
          rw [show nI 1 = (1 : Int32) by decide, hsub]
          refine E_iast dX9_isToLose_42 rfl (vp_in_nI (by omega) (by omega)) ?_
          rw [nI_clamp (by omega)]
          refine E_iinc dX9_isToLose_43 rfl (by decide) ?_
          refine E_iinc dX9_isToLose_46 rfl (by decide) ?_
          refine E_goto 6 dX9_isToLose_49 (by decide) ?_
          rw [nI_inc, nI_inc]
          exact los_step hi e1 sl h2 h1 hr ho (by omega) (by omega) ih
  refine E_ic 0 dX9_isToLose_0 (by decide) ?_
  refine E_istore_n dX9_isToLose_1 (by decide) ?_
  refine E_ic 0 dX9_isToLose_2 (by decide) ?_
  refine E_istore_n dX9_isToLose_3 (by decide) ?_
  refine E_ic 0 dX9_isToLose_4 (by decide) ?_
  refine E_istore_n dX9_isToLose_5 (by decide) ?_
  exact loop T.length 0 h (by omega) (by omega) rfl (fun _ _ => rfl) (fun j hj => absurd hj (by simp [shT])) (fun j _ z2 => fB j z2)
/-- counts are set to zero, up to the i-th -/
def czero (b : Ab) (i : Nat) : Ab := (fun k => if (mloc k).1 = 64 ∧ (mloc k).2 < i then 0 else b.1 k, b.2)
theorem czero_step {b : Ab} {h : Hp} {i : Nat} (M : MRep (czero b i) h) : MRep (czero b (i + 1)) (sI h 64 i 0) := by
  have ne : ∀ x, x ≠ 64 → (sI h 64 i 0).1 x = h.1 x := fun x q => by funext j; simp [sI, u2, q]
  refine M.upd (fun x => x == 64) 12 rfl (fun x q _ => ne x (by simpa using q)) (fun s _ => by rw [ne 59 (by decide)]) (fun _ _ _ => rfl) (fun k hk => ?_) M.2.1 (Or.inl (M.2.2.2.1.off (ne _ (by decide)) (by rw [ne 59 (by decide)]))) (Or.inr ⟨rfl, rfl⟩) (Or.inr ⟨rfl, rfl⟩) (Or.inr ⟨rfl, by decide, rfl⟩) (Or.inr ⟨rfl, by decide, rfl⟩) (Or.inr ⟨rfl, by decide, rfl⟩) (Or.inr ⟨rfl, rfl, rfl⟩) (Or.inr ⟨rfl, rfl, by decide, rfl⟩) (Or.inr ⟨rfl, rfl, by decide, rfl⟩)
  have q := M.1 k hk
  by_cases e : (mloc k).1 = 64 ∧ (mloc k).2 = i
  · simp [sI, u2, e, czero]
  · have e2 : ((mloc k).1 = 64 ∧ (mloc k).2 < i + 1) ↔ ((mloc k).1 = 64 ∧ (mloc k).2 < i) := by omega
    simp only [sI, u2, if_neg e, q, czero, e2]
theorem czero_0 (b : Ab) : czero b 0 = b := by
  simp [czero]
def mBegin1 (b : Ab) (s B K r : Int32) : Ab := aI (aI (aI (aI (aI b 0 1) 1 s) 16 B) 18 r) 17 K
def mBegin2 (b : Ab) : Ab := aI (czero b 16) 8 (-2)
def mBegin3 (b : Ab) : Ab := aB (aB b 0 (clrB (b.2.2.2.2.1 0) 8)) 1 (clrB (b.2.2.2.2.1 1) 8)
def mBegin4 (b : Ab) : Ab := aN (aI (aI (aI (aN b 0 [1]) 12 0) 19 (-2)) 2 0) 1 []
def mBegin (b : Ab) (s B K r : Int32) : Ab := mBegin4 (mBegin3 (mBegin2 (mBegin1 b s B K r)))
theorem be_t4 {b : Ab} {h h3 : Hp} {Q : QT} {x1 x2 x3 x4 : Int32} (M3 : MRep b h3) (F3 : MF h h3) (kk : ∀ h', MRep (mBegin4 b) h' → MF h h' → Q (some (.int 1)) SH h') : E mX9_begin none Q 146 [some (.ref 59), some (.int x1), some (.int x2), some (.int x3), some (.int x4), some (.int (nI 8))] [] SH h3 0 0 := by
  obtain ⟨q0, q1, q2, q3, q9, q10, q11, q13, q14, q22, q29, q33, q34, q36, q37, q40⟩ := id M3.2.2.1
  refine E_aload_n dX9_begin_146 rfl ?_
  refine E_getR dX9_begin_147 fl_X9_30 rfl (by assumption) rfl ?_
  refine E_ic 0 dX9_begin_150 (by decide) ?_
  refine E_ic 1 dX9_begin_151 (by decide) ?_
  refine E_iast dX9_begin_152 rfl (vp_in_nI (n := 0) (by decide) (by decide)) ?_
  refine E_aload_n dX9_begin_153 rfl ?_
  refine E_ic 1 dX9_begin_154 (by decide) ?_
  refine E_putI dX9_begin_155 fl_X9_106 rfl rfl ?_
  have M4 : MRep (aN b 0 [1]) (sI (sI h3 66 (0 : Int32).toNatClampNeg 1) 59 12 1) := M3.wait ⟨by simp [sI, u2]; decide, by decide, fun j hj => by simp at hj; subst hj; rfl⟩ rfl (fun x r1 r2 => by funext j; simp [sI, u2, r1, r2]) (fun s r => by simp [sI, u2, r])
  have F4 : MF h (sI (sI h3 66 (0 : Int32).toNatClampNeg 1) 59 12 1) := MF_sI (MF_sI F3 (by decide)) (by decide)
  generalize sI (sI h3 66 (0 : Int32).toNatClampNeg 1) 59 12 1 = h4 at M4 F4
  refine E_aload_n dX9_begin_158 rfl ?_
  refine E_ic 0 dX9_begin_159 (by decide) ?_
  refine E_putI dX9_begin_160 fl_X9_109 rfl rfl ?_
  have M5 := M4.setI 12 0 (by decide)
  have F5 := MF_sI (b := 59) (k := 15) (x := 0) F4 (by decide)
  refine E_aload_n dX9_begin_163 rfl ?_
  refine E_bi (-2) dX9_begin_164 (by decide) ?_
  refine E_putI dX9_begin_166 fl_X9_112 rfl rfl ?_
  have M6 := M5.setI 19 (-2) (by decide)
  have F6 := MF_sI (b := 59) (k := 16) (x := -2) F5 (by decide)
  refine E_aload_n dX9_begin_169 rfl ?_
  refine E_ic 0 dX9_begin_170 (by decide) ?_
  refine E_putZ dX9_begin_171 fl_X9_115 rfl rfl (by decide) ?_
  have M7 := M6.setI 2 0 (by decide)
  have F7 := MF_sI (b := 59) (k := 31) (x := 0) F6 (by decide)
  refine E_aload_n dX9_begin_174 rfl ?_
  refine E_ic 0 dX9_begin_175 (by decide) ?_
  refine E_putI dX9_begin_176 fl_X9_119 rfl rfl ?_
  have M8 := MRep.built0 M7
  have F8 := MF_sI (b := 59) (k := 23) (x := 0) F7 (by decide)
  refine E_ic 1 dX9_begin_179 (by decide) ?_
  exact E_reti dX9_begin_180 rfl rfl (Nat.le_of_ble_eq_true rfl) (Nat.le_of_ble_eq_true rfl) (kk _ M8 F8)
theorem be_t3 {b : Ab} {h : Hp} {Q : QT} {x1 x2 x3 x4 : Int32} (kk : ∀ h', MRep (mBegin4 (mBegin3 b)) h' → MF h h' → Q (some (.int 1)) SH h') : ∀ (n i : Nat) (h3 : Hp), 8 - i ≤ n → i ≤ 8 → MRep (aB (aB b 0 (clrB (b.2.2.2.2.1 0) i)) 1 (clrB (b.2.2.2.2.1 1) i)) h3 → MF h h3 → E mX9_begin none Q 117 [some (.ref 59), some (.int x1), some (.int x2), some (.int x3), some (.int x4), some (.int (nI i))] [] SH h3 0 0 := by
  intro n
  induction n with
  | zero =>
    intro i h3 r1 r2 M3 F3
    have e : i = 8 := by omega
    subst e
    refine E_iload dX9_begin_117 rfl ?_
    refine E_bi 8 dX9_begin_119 (by decide) ?_
    refine E_icmp_ge 146 dX9_begin_121 (by decide) (fun c_121 => ?_) (fun c_121 => absurd (by decide) c_121)
    exact be_t4 M3 F3 kk
  | succ n ih =>
    intro i h3 r1 r2 M3 F3
    by_cases e : i = 8
    · subst e
      refine E_iload dX9_begin_117 rfl ?_
      refine E_bi 8 dX9_begin_119 (by decide) ?_
      refine E_icmp_ge 146 dX9_begin_121 (by decide) (fun c_121 => ?_) (fun c_121 => absurd (by decide) c_121)
      exact be_t4 M3 F3 kk
    · have q13 : h3.2.2 59 13 = some 67 := M3.2.2.1.2.2.2.2.2.2.2.1
      have q14 : h3.2.2 59 14 = some 68 := M3.2.2.1.2.2.2.2.2.2.2.2.1
      refine E_iload dX9_begin_117 rfl ?_
      refine E_bi 8 dX9_begin_119 (by decide) ?_
      rw [show (8 : Int32) = nI 8 by decide]
      refine E_icmp_ge 146 dX9_begin_121 (by decide) (fun c_121 => absurd c_121 (nI_ge (by omega) (by omega))) (fun c_121 => ?_)
      refine E_aload_n dX9_begin_124 rfl ?_
      refine E_getR dX9_begin_125 fl_X9_33 rfl q13 rfl ?_
      refine E_iload dX9_begin_128 rfl ?_
      refine E_ic 0 dX9_begin_130 (by decide) ?_
      refine E_zast dX9_begin_131 rfl (vp_in_nI (by omega) (by omega)) ?_
      rw [nI_clamp (by omega)]
      have M4 := M3.flag (j := 0) (f := i) (by decide) (by omega) false
      refine E_aload_n dX9_begin_132 rfl ?_
      refine E_getR dX9_begin_133 fl_X9_37 rfl q14 rfl ?_
      refine E_iload dX9_begin_136 rfl ?_
      refine E_ic 0 dX9_begin_138 (by decide) ?_
      refine E_zast dX9_begin_139 rfl (vp_in_nI (by omega) (by omega)) ?_
      refine E_iinc dX9_begin_140 rfl (by decide) ?_
      rw [nI_clamp (by omega)]
      have M5 := M4.flag (j := 1) (f := i) (by decide) (by omega) false
      refine E_goto 117 dX9_begin_143 (by decide) ?_
      rw [nI_inc]
      rw [aB2_step] at M5
      refine ih (i + 1) _ (by omega) (by omega) ?_ (MF_sI (MF_sI F3 (by decide)) (by decide))
      rw [← clrB_step, ← clrB_step]
      exact M5
theorem be_t2 {b : Ab} {h : Hp} {Q : QT} {x1 x2 x3 x4 : Int32} (kk : ∀ h', MRep (mBegin4 (mBegin3 (mBegin2 b))) h' → MF h h' → Q (some (.int 1)) SH h') : ∀ (n i : Nat) (h3 : Hp), 16 - i ≤ n → i ≤ 16 → MRep (czero b i) h3 → MF h h3 → E mX9_begin none Q 84 [some (.ref 59), some (.int x1), some (.int x2), some (.int x3), some (.int x4), some (.int (nI i))] [] SH h3 0 0 := by
  intro n
  have fin : ∀ (h3 : Hp), MRep (czero b 16) h3 → MF h h3 → E mX9_begin none Q 84 [some (.ref 59), some (.int x1), some (.int x2), some (.int x3), some (.int x4), some (.int (nI 16))] [] SH h3 0 0 := by
    intro h3 M3 F3
    have q9 : h3.2.2 59 9 = some 64 := M3.2.2.1.2.2.2.2.1
    refine E_iload dX9_begin_84 rfl ?_
    refine E_bi 16 dX9_begin_86 (by decide) ?_
    refine E_icmp_ge 105 dX9_begin_88 (by decide) (fun c_88 => ?_) (fun c_88 => absurd (by decide) c_88)
    refine E_aload_n dX9_begin_105 rfl ?_
    refine E_getR dX9_begin_106 fl_X9_24 rfl (by assumption) rfl ?_
    refine E_bi 14 dX9_begin_109 (by decide) ?_
    refine E_bi (-2) dX9_begin_111 (by decide) ?_
    refine E_iast dX9_begin_113 rfl (vp_in_nI (n := 14) (by decide) (by decide)) ?_
    have M4 := M3.setI 8 (-2) (by decide)
    have F4 := MF_sI (b := 64) (k := 14) (x := -2) F3 (by decide)
    refine E_ic 0 dX9_begin_114 (by decide) ?_
    refine E_istore dX9_begin_115 (by decide) ?_
    exact be_t3 kk 8 0 _ (by omega) (by omega) (by rw [clrB_0, clrB_0, aB_self, aB_self]; exact M4) F4
  induction n with
  | zero =>
    intro i h3 r1 r2 M3 F3
    have e : i = 16 := by omega
    subst e
    exact fin h3 M3 F3
  | succ n ih =>
    intro i h3 r1 r2 M3 F3
    by_cases e : i = 16
    · subst e
      exact fin h3 M3 F3
    · have q9 : h3.2.2 59 9 = some 64 := M3.2.2.1.2.2.2.2.1
      refine E_iload dX9_begin_84 rfl ?_
      refine E_bi 16 dX9_begin_86 (by decide) ?_
      rw [show (16 : Int32) = nI 16 by decide]
      refine E_icmp_ge 105 dX9_begin_88 (by decide) (fun c_88 => absurd c_88 (nI_ge (by omega) (by omega))) (fun c_88 => ?_)
      refine E_aload_n dX9_begin_91 rfl ?_
      refine E_getR dX9_begin_92 fl_X9_24 rfl (by assumption) rfl ?_
      refine E_iload dX9_begin_95 rfl ?_
      refine E_ic 0 dX9_begin_97 (by decide) ?_
      refine E_iast dX9_begin_98 rfl (vp_in_nI (by omega) (by omega)) ?_
      rw [nI_clamp (by omega)]
      refine E_iinc dX9_begin_99 rfl (by decide) ?_
      refine E_goto 84 dX9_begin_102 (by decide) ?_
      rw [nI_inc]
      exact ih (i + 1) _ (by omega) (by omega) (czero_step M3) (MF_sI F3 (by decide))
def mBe (b : Ab) (s B K r : Int32) : Ab := if beOk s B K r ∧ ¬ b.1 0 = 1 then mBegin b s B K r else b
theorem m_begin {b : Ab} {h : Hp} (M : MRep b h) (s B K r : Int32) : Sp0 mX9_begin [.ref 59, .int s, .int B, .int K, .int r] SH h (fun v h' => v = some (.int (beR b s B K r)) ∧ MRep (mBe b s B K r) h' ∧ MF h h') := by
  have g0 : h.1 59 4 = b.1 0 := M.1 0 (by decide)
  have h1 : (1 : Int32).toInt = 1 := by decide
  have h2 : (2 : Int32).toInt = 2 := by decide
  have h8 : (8 : Int32).toInt = 8 := by decide
  have h64 : (64 : Int32).toInt = 64 := by decide
  have hE := eOk_int s
  have bad : ¬ beOk s B K r → (some (Value.int (-1)) : Option Value) = some (.int (beR b s B K r)) ∧ MRep (mBe b s B K r) h ∧ MF h h := fun hb => ⟨by rw [beR, if_neg hb], by rw [mBe, if_neg (fun z => hb z.1)]; exact M, MF.rf⟩
  refine Sp0.of (by decide) (Nat.le_of_ble_eq_true rfl) ?_
  show E mX9_begin none _ 0 [some (.ref 59), some (.int s), some (.int B), some (.int K), some (.int r), none] [] SH h 0 0
  refine E_iload_n dX9_begin_0 rfl ?_
  refine E_if_lt 42 dX9_begin_1 (by decide) (fun c_1 => ?_) (fun c_1 => ?_)
  · refine E_ic (-1) dX9_begin_42 (by decide) ?_
    exact E_reti dX9_begin_43 rfl rfl (Nat.le_of_ble_eq_true rfl) (Nat.le_of_ble_eq_true rfl) ⟨rfl, bad (fun z => by rw [i_lt, i_0] at c_1; have := hE.mp z.1; omega)⟩
  · refine E_iload_n dX9_begin_4 rfl ?_
    refine E_ic 1 dX9_begin_5 (by decide) ?_
    refine E_icmp_gt 42 dX9_begin_6 (by decide) (fun c_6 => ?_) (fun c_6 => ?_)
    · refine E_ic (-1) dX9_begin_42 (by decide) ?_
      exact E_reti dX9_begin_43 rfl rfl (Nat.le_of_ble_eq_true rfl) (Nat.le_of_ble_eq_true rfl) ⟨rfl, bad (fun z => by rw [i_lt, h1] at c_6; have := hE.mp z.1; omega)⟩
    · refine E_iload_n dX9_begin_9 rfl ?_
      refine E_ic 1 dX9_begin_10 (by decide) ?_
      refine E_icmp_lt 42 dX9_begin_11 (by decide) (fun c_11 => ?_) (fun c_11 => ?_)
      · refine E_ic (-1) dX9_begin_42 (by decide) ?_
        exact E_reti dX9_begin_43 rfl rfl (Nat.le_of_ble_eq_true rfl) (Nat.le_of_ble_eq_true rfl) ⟨rfl, bad (fun z => by rw [i_lt, h1] at c_11; have := z.2.1; omega)⟩
      · refine E_iload_n dX9_begin_14 rfl ?_
        refine E_bi 64 dX9_begin_15 (by decide) ?_
        refine E_icmp_gt 42 dX9_begin_17 (by decide) (fun c_17 => ?_) (fun c_17 => ?_)
        · refine E_ic (-1) dX9_begin_42 (by decide) ?_
          exact E_reti dX9_begin_43 rfl rfl (Nat.le_of_ble_eq_true rfl) (Nat.le_of_ble_eq_true rfl) ⟨rfl, bad (fun z => by rw [i_lt, h64] at c_17; have := z.2.1; omega)⟩
        · refine E_iload_n dX9_begin_20 rfl ?_
          refine E_ic 1 dX9_begin_21 (by decide) ?_
          refine E_icmp_lt 42 dX9_begin_22 (by decide) (fun c_22 => ?_) (fun c_22 => ?_)
          · refine E_ic (-1) dX9_begin_42 (by decide) ?_
            exact E_reti dX9_begin_43 rfl rfl (Nat.le_of_ble_eq_true rfl) (Nat.le_of_ble_eq_true rfl) ⟨rfl, bad (fun z => by rw [i_lt, h1] at c_22; have := z.2.2.1; omega)⟩
          · refine E_iload_n dX9_begin_25 rfl ?_
            refine E_bi 8 dX9_begin_26 (by decide) ?_
            refine E_icmp_gt 42 dX9_begin_28 (by decide) (fun c_28 => ?_) (fun c_28 => ?_)
            · refine E_ic (-1) dX9_begin_42 (by decide) ?_
              exact E_reti dX9_begin_43 rfl rfl (Nat.le_of_ble_eq_true rfl) (Nat.le_of_ble_eq_true rfl) ⟨rfl, bad (fun z => by rw [i_lt, h8] at c_28; have := z.2.2.1; omega)⟩
            · refine E_iload dX9_begin_31 rfl ?_
              refine E_if_lt 42 dX9_begin_33 (by decide) (fun c_33 => ?_) (fun c_33 => ?_)
              · refine E_ic (-1) dX9_begin_42 (by decide) ?_
                exact E_reti dX9_begin_43 rfl rfl (Nat.le_of_ble_eq_true rfl) (Nat.le_of_ble_eq_true rfl) ⟨rfl, bad (fun z => by rw [i_lt, i_0] at c_33; have := z.2.2.2; omega)⟩
              · refine E_iload dX9_begin_36 rfl ?_
                refine E_ic 2 dX9_begin_38 (by decide) ?_
                refine E_icmp_le 44 dX9_begin_39 (by decide) (fun c_39 => ?_) (fun c_39 => ?_)
                · have ok : beOk s B K r := by rw [i_lt, i_0] at c_1 c_33; rw [i_lt, h1] at c_6 c_11 c_22; rw [i_lt, h64] at c_17; rw [i_lt, h8] at c_28; rw [i_le, h2] at c_39; exact ⟨hE.mpr (by omega), by omega, by omega, by omega⟩
                  refine E_aload_n dX9_begin_44 rfl ?_
                  refine E_getI dX9_begin_45 fl_X9_94 rfl rfl ?_
                  refine E_ic 1 dX9_begin_48 (by decide) ?_
                  rw [g0]
                  refine E_icmp_ne 55 dX9_begin_49 (by decide) (fun c_49 => ?_) (fun c_49 => ?_)
                  · rw [beR, if_pos ok, if_neg c_49, mBe, if_pos ⟨ok, c_49⟩]
                    refine E_aload_n dX9_begin_55 rfl ?_
                    refine E_ic 1 dX9_begin_56 (by decide) ?_
                    refine E_putI dX9_begin_57 fl_X9_94 rfl rfl ?_
                    have M1 := M.setI 0 1 (by decide)
                    have F1 : MF h (sI h 59 4 1) := MF_sI MF.rf (by decide)
                    refine E_aload_n dX9_begin_60 rfl ?_
                    refine E_iload_n dX9_begin_61 rfl ?_
                    refine E_putI dX9_begin_62 fl_X9_90 rfl rfl ?_
                    have M2 := M1.setI 1 s (by decide)
                    have F2 := MF_sI (b := 59) (k := 5) (x := s) F1 (by decide)
                    refine E_aload_n dX9_begin_65 rfl ?_
                    refine E_iload_n dX9_begin_66 rfl ?_
                    refine E_putI dX9_begin_67 fl_X9_97 rfl rfl ?_
                    have M3 := M2.setI 16 B (by decide)
                    have F3 := MF_sI (b := 59) (k := 6) (x := B) F2 (by decide)
                    refine E_aload_n dX9_begin_70 rfl ?_
                    refine E_iload dX9_begin_71 rfl ?_
                    refine E_putI dX9_begin_73 fl_X9_100 rfl rfl ?_
                    have M4 := M3.setI 18 r (by decide)
                    have F4 := MF_sI (b := 59) (k := 8) (x := r) F3 (by decide)
                    refine E_aload_n dX9_begin_76 rfl ?_
                    refine E_iload_n dX9_begin_77 rfl ?_
                    refine E_putI dX9_begin_78 fl_X9_103 rfl rfl ?_
                    have M5 := M4.setI 17 K (by decide)
                    have F5 := MF_sI (b := 59) (k := 7) (x := K) F4 (by decide)
                    refine E_ic 0 dX9_begin_81 (by decide) ?_
                    refine E_istore dX9_begin_82 (by decide) ?_
                    exact be_t2 (fun h' M' F' => ⟨rfl, rfl, M', F'⟩) 16 0 _ (by omega) (by omega) (by rw [czero_0]; exact M5) F5
                  · refine E_bi (-2) dX9_begin_52 (by decide) ?_
                    exact E_reti dX9_begin_54 rfl rfl (Nat.le_of_ble_eq_true rfl) (Nat.le_of_ble_eq_true rfl) ⟨rfl, by rw [beR, if_pos ok, if_pos c_49], by rw [mBe, if_neg (fun z => z.2 c_49)]; exact M, MF.rf⟩
                · refine E_ic (-1) dX9_begin_42 (by decide) ?_
                  exact E_reti dX9_begin_43 rfl rfl (Nat.le_of_ble_eq_true rfl) (Nat.le_of_ble_eq_true rfl) ⟨rfl, bad (fun z => by rw [i_le, h2] at c_39; have := z.2.2.2; omega)⟩

