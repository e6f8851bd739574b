/-! RollingSync: begin, step, cut, state, sent, built, sums -/
abbrev beOk (s B K r : Int32) : Prop := eOk s ∧ (1 ≤ B.toInt ∧ B.toInt ≤ 64) ∧ (1 ≤ K.toInt ∧ K.toInt ≤ 8) ∧ 0 ≤ r.toInt ∧ r.toInt ≤ 2
def beR (a : Ab) (s B K r : Int32) : Int32 := if beOk s B K r then (if a.1 0 = 1 then -2 else 1) else -1
def beS (a : Ab) (s B K r : Int32) : Ab := if beOk s B K r ∧ ¬ a.1 0 = 1 then beginA a s B K r else a
theorem be_bad {a : Ab} {h : Hp} {s B K r : Int32} (C : CRep a h) (hb : ¬ beOk s B K r) : (some (Value.int (-1)) : Option Value) = some (.int (beR a s B K r)) ∧ CRep (beS a s B K r) h ∧ CF h h := ⟨by rw [beR, if_neg hb], by rw [beS, if_neg (fun z => hb z.1)]; exact C, CF.rf⟩
theorem c_begin {a : Ab} {h : Hp} (C : CRep a h) (s B K r : Int32) : Sp0 mX8_begin [.ref 0, .int s, .int B, .int K, .int r] SH h (fun v h' => v = some (.int (beR a s B K r)) ∧ CRep (beS a s B K r) h' ∧ CF h h') := by
  obtain ⟨r00, r01, r02, r03, r420, r421, r422, r423, r424, r425, r430, r431, r490, r491, r530, r531, r532, r533, r534⟩ := id C.2.2.1
  have h1 : (1 : Int32).toInt = 1 := by decide
  have h2 : (2 : Int32).toInt = 2 := by decide
  have h8 : (8 : Int32).toInt = 8 := by decide
  have h64 : (64 : Int32).toInt = 64 := by decide
  refine Sp0.of (by decide) (Nat.le_of_ble_eq_true rfl) ?_
  show E mX8_begin none _ 0 [some (.ref 0), some (.int s), some (.int B), some (.int K), some (.int r)] [] SH h 0 0
  by_cases he : eOk s
  · refine E_iload_n dX8_begin_0 rfl ?_
    refine cS1 (N := mX8_isEnd) dX8_begin_1 cn_X8_isEnd lk_X8_35 ⟨Nat.le_of_ble_eq_true rfl, Nat.le_of_ble_eq_true rfl⟩ (Nat.le_of_ble_eq_true rfl) ⟨rfl, rfl⟩ (c_isEnd _) (fun v2 h2 ⟨hv2, hh2⟩ => ?_)
    rw [hv2, hh2, if_pos he]
    refine E_if_eq 18 dX8_begin_4 (by decide) (fun c_4 => absurd c_4 (by decide)) (fun c_4 => ?_)
    refine E_iload_n dX8_begin_7 rfl ?_
    refine E_ic 1 dX8_begin_8 (by decide) ?_
    refine E_icmp_lt 18 dX8_begin_9 (by decide) (fun c_9 => ?_) (fun c_9 => ?_)
    · refine E_ic (-1) dX8_begin_18 (by decide) ?_
      exact E_reti dX8_begin_19 rfl rfl (Nat.le_of_ble_eq_true rfl) (Nat.le_of_ble_eq_true rfl) ⟨rfl, be_bad C (fun z => by rw [i_lt, h1] at c_9; have := z.2.1; omega)⟩
    · refine E_iload_n dX8_begin_12 rfl ?_
      refine E_bi 64 dX8_begin_13 (by decide) ?_
      refine E_icmp_le 20 dX8_begin_15 (by decide) (fun c_15 => ?_) (fun c_15 => ?_)
      · refine E_iload_n dX8_begin_20 rfl ?_
        refine E_ic 1 dX8_begin_21 (by decide) ?_
        refine E_icmp_lt 42 dX8_begin_22 (by decide) (fun c_22 => ?_) (fun c_22 => ?_)
        · refine E_ic (-1) dX8_begin_42 (by decide) ?_
          exact E_reti dX8_begin_43 rfl rfl (Nat.le_of_ble_eq_true rfl) (Nat.le_of_ble_eq_true rfl) ⟨rfl, be_bad C (fun z => by rw [i_lt, h1] at c_22; have := z.2.2.1; omega)⟩
        · refine E_iload_n dX8_begin_25 rfl ?_
          refine E_bi 8 dX8_begin_26 (by decide) ?_
          refine E_icmp_gt 42 dX8_begin_28 (by decide) (fun c_28 => ?_) (fun c_28 => ?_)
          · refine E_ic (-1) dX8_begin_42 (by decide) ?_
            exact E_reti dX8_begin_43 rfl rfl (Nat.le_of_ble_eq_true rfl) (Nat.le_of_ble_eq_true rfl) ⟨rfl, be_bad C (fun z => by rw [i_lt, h8] at c_28; have := z.2.2.1; omega)⟩
          · refine E_iload dX8_begin_31 rfl ?_
            refine E_if_lt 42 dX8_begin_33 (by decide) (fun c_33 => ?_) (fun c_33 => ?_)
            · refine E_ic (-1) dX8_begin_42 (by decide) ?_
              exact E_reti dX8_begin_43 rfl rfl (Nat.le_of_ble_eq_true rfl) (Nat.le_of_ble_eq_true rfl) ⟨rfl, be_bad C (fun z => by rw [i_lt, i_0] at c_33; have := z.2.2.2; omega)⟩
            · refine E_iload dX8_begin_36 rfl ?_
              refine E_ic 2 dX8_begin_38 (by decide) ?_
              refine E_icmp_le 44 dX8_begin_39 (by decide) (fun c_39 => ?_) (fun c_39 => ?_)
              · have hok : beOk s B K r := ⟨he, by rw [i_lt, h1] at c_9; rw [i_le, h64] at c_15; omega, by rw [i_lt, h1] at c_22; rw [i_lt, h8] at c_28; omega, by rw [i_lt, i_0] at c_33; rw [i_le, show (2 : Int32).toInt = 2 by decide] at c_39; omega⟩
                refine E_aload_n dX8_begin_44 rfl ?_
                refine E_getR dX8_begin_45 fl_X8_31 rfl r03 rfl ?_
                refine cV0 (N := mX4_goes) dX8_begin_48 cn_X4_goes lk_X8_95 ⟨Nat.le_of_ble_eq_true rfl, Nat.le_of_ble_eq_true rfl⟩ rfl rfl (Nat.le_of_ble_eq_true rfl) ⟨rfl, rfl⟩ (c_goes C) (fun v3 h3 ⟨hv3, hh3⟩ => ?_)
                rw [hv3, hh3]
                refine E_if_eq 57 dX8_begin_51 (by decide) (fun c_51 => ?_) (fun c_51 => ?_)
                · have hp : ¬ a.1 0 = 1 := fun q => by rw [if_pos q] at c_51; exact absurd c_51 (by decide)
                  refine E_aload_n dX8_begin_57 rfl ?_
                  refine E_getR dX8_begin_58 fl_X8_31 rfl r03 rfl ?_
                  refine E_iload_n dX8_begin_61 rfl ?_
                  refine E_iload_n dX8_begin_62 rfl ?_
                  refine E_iload_n dX8_begin_63 rfl ?_
                  refine E_iload dX8_begin_64 rfl ?_
                  refine cV4 (N := mX4_start) dX8_begin_66 cn_X4_start lk_X8_99 ⟨Nat.le_of_ble_eq_true rfl, Nat.le_of_ble_eq_true rfl⟩ rfl rfl (Nat.le_of_ble_eq_true rfl) ⟨rfl, rfl⟩ (c_runStart C s B K r) (fun v4 h4 ⟨hv4, C4, F4⟩ => ?_)
                  rw [hv4]
                  refine E_ic 1 dX8_begin_69 (by decide) ?_
                  exact E_reti dX8_begin_70 rfl rfl (Nat.le_of_ble_eq_true rfl) (Nat.le_of_ble_eq_true rfl) ⟨rfl, by rw [beR, if_pos hok, if_neg hp], by rw [beS, if_pos ⟨hok, hp⟩]; exact C4, F4⟩
                · have hp : a.1 0 = 1 := by
                    rcases Decidable.em (a.1 0 = 1) with q | q
                    · exact q
                    · rw [if_neg q] at c_51; exact absurd rfl c_51
                  refine E_bi (-2) dX8_begin_54 (by decide) ?_
                  exact E_reti dX8_begin_56 rfl rfl (Nat.le_of_ble_eq_true rfl) (Nat.le_of_ble_eq_true rfl) ⟨rfl, by rw [beR, if_pos hok, if_pos hp], by rw [beS, if_neg (fun z => z.2 hp)]; exact C, CF.rf⟩
              · refine E_ic (-1) dX8_begin_42 (by decide) ?_
                exact E_reti dX8_begin_43 rfl rfl (Nat.le_of_ble_eq_true rfl) (Nat.le_of_ble_eq_true rfl) ⟨rfl, be_bad C (fun z => by rw [i_le, show (2 : Int32).toInt = 2 by decide] at c_39; have := z.2.2.2; omega)⟩
      · refine E_ic (-1) dX8_begin_18 (by decide) ?_
        exact E_reti dX8_begin_19 rfl rfl (Nat.le_of_ble_eq_true rfl) (Nat.le_of_ble_eq_true rfl) ⟨rfl, be_bad C (fun z => by rw [i_le, h64] at c_15; have := z.2.1; omega)⟩
  · refine E_iload_n dX8_begin_0 rfl ?_
    refine cS1 (N := mX8_isEnd) dX8_begin_1 cn_X8_isEnd lk_X8_35 ⟨Nat.le_of_ble_eq_true rfl, Nat.le_of_ble_eq_true rfl⟩ (Nat.le_of_ble_eq_true rfl) ⟨rfl, rfl⟩ (c_isEnd _) (fun v2 h2 ⟨hv2, hh2⟩ => ?_)
    rw [hv2, hh2, if_neg he]
    refine E_if_eq 18 dX8_begin_4 (by decide) (fun c_4 => ?_) (fun c_4 => absurd rfl c_4)
    refine E_ic (-1) dX8_begin_18 (by decide) ?_
    exact E_reti dX8_begin_19 rfl rfl (Nat.le_of_ble_eq_true rfl) (Nat.le_of_ble_eq_true rfl) ⟨rfl, be_bad C (fun z => he z.1)⟩
/-- at most n STEPS -/
def stepF : Nat → Ab → Nat × Ab
  | 0, a => (0, a)
  | n + 1, a => if a.1 0 = 1 then ((stepF n (oneA a)).1 + 1, (stepF n (oneA a)).2) else (0, a)
theorem stepF_le : ∀ (n : Nat) (a : Ab), (stepF n a).1 ≤ n
  | 0, a => Nat.le_refl 0
  | n + 1, a => by
    unfold stepF
    split
    · have := stepF_le n (oneA a); omega
    · exact Nat.zero_le _
abbrev stOk (n : Int32) : Prop := 1 ≤ n.toInt ∧ n.toInt ≤ 200
def stR (a : Ab) (n : Int32) : Int32 := if stOk n then (if a.1 0 = 1 then nI (stepF n.toNatClampNeg a).1 else -2) else -1
def stS (a : Ab) (n : Int32) : Ab := if stOk n ∧ a.1 0 = 1 then (stepF n.toNatClampNeg a).2 else a
theorem step_loop {I : Ab → Prop} (h1 : ∀ a, I a → a.1 0 = 1 → OnePre a) (h2 : ∀ a, I a → a.1 0 = 1 → I (oneA a)) {j : Nat} (hj : j ≤ 200) {h : Hp} {Q : QT} : ∀ (n i : Nat) (a : Ab) (h3 : Hp), n + i = j → CRep a h3 → I a → CF h h3 → (∀ h4, CRep (stepF n a).2 h4 → CF h h4 → Q (some (.int (nI (i + (stepF n a).1)))) SH h4) → E mX8_step none Q 29 [some (.ref 0), some (.int (nI j)), some (.int (nI i))] [] SH h3 0 0 := by
  intro n
  induction n with
  | zero =>
    intro i a h3 hn C hI F kk
    have e : i = j := by omega
    subst e
    refine E_iload_n dX8_step_29 rfl ?_
    refine E_iload_n dX8_step_30 rfl ?_
    refine E_icmp_ge 57 dX8_step_31 (by decide) (fun c_31 => ?_) (fun c_31 => absurd (nI_le (by omega) (by omega)) c_31)
    refine E_iload_n dX8_step_57 rfl ?_
    exact E_reti dX8_step_58 rfl rfl (Nat.le_of_ble_eq_true rfl) (Nat.le_of_ble_eq_true rfl) (kk h3 C F)
  | succ n ih =>
    intro i a h3 hn C hI F kk
    obtain ⟨r00, r01, r02, r03, r420, r421, r422, r423, r424, r425, r430, r431, r490, r491, r530, r531, r532, r533, r534⟩ := id C.2.2.1
    by_cases hp : a.1 0 = 1
    · rw [stepF, if_pos hp] at kk
      refine E_iload_n dX8_step_29 rfl ?_
      refine E_iload_n dX8_step_30 rfl ?_
      refine E_icmp_ge 57 dX8_step_31 (by decide) (fun c_31 => absurd c_31 (nI_ge (by omega) (by omega))) (fun c_31 => ?_)
      refine E_aload_n dX8_step_34 rfl ?_
      refine E_getR dX8_step_35 fl_X8_31 rfl r03 rfl ?_
      refine cV0 (N := mX4_goes) dX8_step_38 cn_X4_goes lk_X8_95 ⟨Nat.le_of_ble_eq_true rfl, Nat.le_of_ble_eq_true rfl⟩ rfl rfl (Nat.le_of_ble_eq_true rfl) ⟨rfl, rfl⟩ (c_goes C) (fun v4 h4 ⟨hv4, hh4⟩ => ?_)
      rw [hv4, hh4, if_pos hp]
      refine E_if_eq 57 dX8_step_41 (by decide) (fun c_41 => absurd c_41 (by decide)) (fun c_41 => ?_)
      refine E_aload_n dX8_step_44 rfl ?_
      refine E_getR dX8_step_45 fl_X8_31 rfl r03 rfl ?_
      refine cV0 (N := mX4_oneStep) dX8_step_48 cn_X4_oneStep lk_X8_103 ⟨Nat.le_of_ble_eq_true rfl, Nat.le_of_ble_eq_true rfl⟩ rfl rfl (Nat.le_of_ble_eq_true rfl) ⟨rfl, rfl⟩ (c_oneStep C (h1 a hI hp)) (fun v5 h5 ⟨hv5, C5, F5⟩ => ?_)
      rw [hv5]
      refine E_iinc dX8_step_51 rfl (by decide) ?_
      refine E_goto 29 dX8_step_54 (by decide) ?_
      rw [nI_inc]
      refine ih (i + 1) (oneA a) h5 (by omega) C5 (h2 a hI hp) (F.tr F5) (fun h6 C6 F6 => ?_)
      have z := kk h6 C6 F6
      rw [show i + ((stepF n (oneA a)).1 + 1) = i + 1 + (stepF n (oneA a)).1 by omega] at z
      exact z
    · rw [stepF, if_neg hp] at kk
      refine E_iload_n dX8_step_29 rfl ?_
      refine E_iload_n dX8_step_30 rfl ?_
      refine E_icmp_ge 57 dX8_step_31 (by decide) (fun c_31 => absurd c_31 (nI_ge (by omega) (by omega))) (fun c_31 => ?_)
      refine E_aload_n dX8_step_34 rfl ?_
      refine E_getR dX8_step_35 fl_X8_31 rfl r03 rfl ?_
      refine cV0 (N := mX4_goes) dX8_step_38 cn_X4_goes lk_X8_95 ⟨Nat.le_of_ble_eq_true rfl, Nat.le_of_ble_eq_true rfl⟩ rfl rfl (Nat.le_of_ble_eq_true rfl) ⟨rfl, rfl⟩ (c_goes C) (fun v4 h4 ⟨hv4, hh4⟩ => ?_)
      rw [hv4, hh4, if_neg hp]
      refine E_if_eq 57 dX8_step_41 (by decide) (fun c_41 => ?_) (fun c_41 => absurd rfl c_41)
      refine E_iload_n dX8_step_57 rfl ?_
      exact E_reti dX8_step_58 rfl rfl (Nat.le_of_ble_eq_true rfl) (Nat.le_of_ble_eq_true rfl) (kk h3 C F)
theorem c_step {I : Ab → Prop} (h1 : ∀ a, I a → a.1 0 = 1 → OnePre a) (h2 : ∀ a, I a → a.1 0 = 1 → I (oneA a)) {a : Ab} {h : Hp} (C : CRep a h) (hI : I a) (n : Int32) : Sp0 mX8_step [.ref 0, .int n] SH h (fun v h' => v = some (.int (stR a n)) ∧ CRep (stS a n) h' ∧ CF h h') := by
  obtain ⟨r00, r01, r02, r03, r420, r421, r422, r423, r424, r425, r430, r431, r490, r491, r530, r531, r532, r533, r534⟩ := id C.2.2.1
  have h1' : (1 : Int32).toInt = 1 := by decide
  have h200 : (200 : Int32).toInt = 200 := by decide
  have bad : ¬ stOk n → (some (Value.int (-1)) : Option Value) = some (.int (stR a n)) ∧ CRep (stS a n) h ∧ CF h h := fun hb => ⟨by rw [stR, if_neg hb], by rw [stS, if_neg (fun z => hb z.1)]; exact C, CF.rf⟩
  refine Sp0.of (by decide) (Nat.le_of_ble_eq_true rfl) ?_
  show E mX8_step none _ 0 [some (.ref 0), some (.int n), none] [] SH h 0 0
  refine E_iload_n dX8_step_0 rfl ?_
  refine E_ic 1 dX8_step_1 (by decide) ?_
  refine E_icmp_lt 12 dX8_step_2 (by decide) (fun c_2 => ?_) (fun c_2 => ?_)
  · refine E_ic (-1) dX8_step_12 (by decide) ?_
    exact E_reti dX8_step_13 rfl rfl (Nat.le_of_ble_eq_true rfl) (Nat.le_of_ble_eq_true rfl) ⟨rfl, bad (fun z => by rw [i_lt, h1'] at c_2; have := z.1; omega)⟩
  · refine E_iload_n dX8_step_5 rfl ?_
    refine E_si 200 dX8_step_6 (by decide) ?_
    refine E_icmp_le 14 dX8_step_9 (by decide) (fun c_9 => ?_) (fun c_9 => ?_)
    · have hok : stOk n := ⟨by rw [i_lt, h1'] at c_2; omega, by rw [i_le, h200] at c_9; exact c_9⟩
      refine E_aload_n dX8_step_14 rfl ?_
      refine E_getR dX8_step_15 fl_X8_31 rfl r03 rfl ?_
      refine cV0 (N := mX4_goes) dX8_step_18 cn_X4_goes lk_X8_95 ⟨Nat.le_of_ble_eq_true rfl, Nat.le_of_ble_eq_true rfl⟩ rfl rfl (Nat.le_of_ble_eq_true rfl) ⟨rfl, rfl⟩ (c_goes C) (fun v3 h3 ⟨hv3, hh3⟩ => ?_)
      rw [hv3, hh3]
      refine E_if_ne 27 dX8_step_21 (by decide) (fun c_21 => ?_) (fun c_21 => ?_)
      · refine E_ic 0 dX8_step_27 (by decide) ?_
        refine E_istore_n dX8_step_28 (by decide) ?_
        have hp : a.1 0 = 1 := by
          rcases Decidable.em (a.1 0 = 1) with q | q
          · exact q
          · rw [if_neg q] at c_21; exact absurd rfl c_21
        obtain ⟨j, hj, rfl⟩ := nI_of (x := n) (by rw [i_lt, i_0]; have := hok.1; omega)
        have hj2 : j ≤ 200 := by have := hok.2; rw [nI_toInt hj] at this; omega
        refine step_loop h1 h2 hj2 j 0 a h (by omega) C hI CF.rf (fun h4 C4 F4 => ⟨rfl, ?_, ?_, F4⟩)
        · rw [stR, if_pos hok, if_pos hp, nI_clamp hj, Nat.zero_add]
        · rw [stS, if_pos ⟨hok, hp⟩, nI_clamp hj]; exact C4
      · have hp : ¬ a.1 0 = 1 := fun q => by rw [if_pos q] at c_21; exact absurd c_21 (by decide)
        refine E_bi (-2) dX8_step_24 (by decide) ?_
        exact E_reti dX8_step_26 rfl rfl (Nat.le_of_ble_eq_true rfl) (Nat.le_of_ble_eq_true rfl) ⟨rfl, by rw [stR, if_pos hok, if_neg hp], by rw [stS, if_neg (fun z => hp z.2)]; exact C, CF.rf⟩
    · refine E_ic (-1) dX8_step_12 (by decide) ?_
      exact E_reti dX8_step_13 rfl rfl (Nat.le_of_ble_eq_true rfl) (Nat.le_of_ble_eq_true rfl) ⟨rfl, bad (fun z => by rw [i_le, h200] at c_9; have := z.2; omega)⟩
def cuR (a : Ab) : Int32 := if a.1 0 = 1 then a.1 4 else -2
def cuS (a : Ab) : Ab := if a.1 0 = 1 then stopA a else a
theorem c_cut {a : Ab} {h : Hp} (C : CRep a h) : Sp0 mX8_cut [.ref 0] SH h (fun v h' => v = some (.int (cuR a)) ∧ CRep (cuS a) h' ∧ CF h h') := by
  obtain ⟨r00, r01, r02, r03, r420, r421, r422, r423, r424, r425, r430, r431, r490, r491, r530, r531, r532, r533, r534⟩ := id C.2.2.1
  refine Sp0.of (by decide) (Nat.le_of_ble_eq_true rfl) ?_
  show E mX8_cut none _ 0 [some (.ref 0)] [] SH h 0 0
  by_cases hp : a.1 0 = 1
  · refine E_aload_n dX8_cut_0 rfl ?_
    refine E_getR dX8_cut_1 fl_X8_31 rfl r03 rfl ?_
    refine cV0 (N := mX4_goes) dX8_cut_4 cn_X4_goes lk_X8_95 ⟨Nat.le_of_ble_eq_true rfl, Nat.le_of_ble_eq_true rfl⟩ rfl rfl (Nat.le_of_ble_eq_true rfl) ⟨rfl, rfl⟩ (c_goes C) (fun v3 h3 ⟨hv3, hh3⟩ => ?_)
    rw [hv3, hh3, if_pos hp]
    refine E_if_eq 20 dX8_cut_7 (by decide) (fun c_7 => absurd c_7 (by decide)) (fun c_7 => ?_)
    refine E_aload_n dX8_cut_10 rfl ?_
    refine E_getR dX8_cut_11 fl_X8_31 rfl r03 rfl ?_
    refine cV0 (N := mX4_stop) dX8_cut_14 cn_X4_stop lk_X8_109 ⟨Nat.le_of_ble_eq_true rfl, Nat.le_of_ble_eq_true rfl⟩ rfl rfl (Nat.le_of_ble_eq_true rfl) ⟨rfl, rfl⟩ (c_stop C) (fun v4 h4 ⟨hv4, C4, F4⟩ => ?_)
    rw [hv4]
    refine E_goto 22 dX8_cut_17 (by decide) ?_
    exact E_reti dX8_cut_22 rfl rfl (Nat.le_of_ble_eq_true rfl) (Nat.le_of_ble_eq_true rfl) ⟨rfl, by rw [cuR, if_pos hp], by rw [cuS, if_pos hp]; exact C4, F4⟩
  · refine E_aload_n dX8_cut_0 rfl ?_
    refine E_getR dX8_cut_1 fl_X8_31 rfl r03 rfl ?_
    refine cV0 (N := mX4_goes) dX8_cut_4 cn_X4_goes lk_X8_95 ⟨Nat.le_of_ble_eq_true rfl, Nat.le_of_ble_eq_true rfl⟩ rfl rfl (Nat.le_of_ble_eq_true rfl) ⟨rfl, rfl⟩ (c_goes C) (fun v3 h3 ⟨hv3, hh3⟩ => ?_)
    rw [hv3, hh3, if_neg hp]
    refine E_if_eq 20 dX8_cut_7 (by decide) (fun c_7 => ?_) (fun c_7 => absurd rfl c_7)
    refine E_bi (-2) dX8_cut_20 (by decide) ?_
    exact E_reti dX8_cut_22 rfl rfl (Nat.le_of_ble_eq_true rfl) (Nat.le_of_ble_eq_true rfl) ⟨rfl, by rw [cuR, if_neg hp], by rw [cuS, if_neg hp]; exact C, CF.rf⟩
theorem c_state {a : Ab} {h : Hp} (C : CRep a h) (w : Int32) : Sp0 mX8_state [.ref 0, .int w] SH h (fun v h' => v = some (.int (tellA a w)) ∧ h' = h) := by
  obtain ⟨r00, r01, r02, r03, r420, r421, r422, r423, r424, r425, r430, r431, r490, r491, r530, r531, r532, r533, r534⟩ := id C.2.2.1
  refine Sp0.of (by decide) (Nat.le_of_ble_eq_true rfl) ?_
  show E mX8_state none _ 0 [some (.ref 0), some (.int w)] [] SH h 0 0
  refine E_aload_n dX8_state_0 rfl ?_
  refine E_getR dX8_state_1 fl_X8_31 rfl r03 rfl ?_
  refine E_iload_n dX8_state_4 rfl ?_
  refine cV1 (N := mX4_tell) dX8_state_5 cn_X4_tell lk_X8_112 ⟨Nat.le_of_ble_eq_true rfl, Nat.le_of_ble_eq_true rfl⟩ rfl rfl (Nat.le_of_ble_eq_true rfl) ⟨rfl, rfl⟩ (c_tell C _) (fun v4 h4 ⟨hv4, hh4⟩ => ?_)
  rw [hv4, hh4]
  exact E_reti dX8_state_8 rfl rfl (Nat.le_of_ble_eq_true rfl) (Nat.le_of_ble_eq_true rfl) ⟨rfl, rfl, rfl⟩
def seR (a : Ab) (e : Int32) : Int64 := if eOk e then (if e = 0 then a.2.1 1 else a.2.1 2) else -1
theorem c_sent {a : Ab} {h : Hp} (C : CRep a h) (e : Int32) : Sp0 mX8_sent [.ref 0, .int e] SH h (fun v h' => v = some (.long (seR a e)) ∧ h' = h) := by
  obtain ⟨r00, r01, r02, r03, r420, r421, r422, r423, r424, r425, r430, r431, r490, r491, r530, r531, r532, r533, r534⟩ := id C.2.2.1
  have l1 : h.2.1 41 1 = a.2.1 1 := C.2.1 1 (by decide)
  have l2 : h.2.1 41 2 = a.2.1 2 := C.2.1 2 (by decide)
  refine Sp0.of (by decide) (Nat.le_of_ble_eq_true rfl) ?_
  show E mX8_sent none _ 0 [some (.ref 0), some (.int e)] [] SH h 0 0
  by_cases he : eOk e
  · refine E_iload_n dX8_sent_0 rfl ?_
    refine cS1 (N := mX8_isEnd) dX8_sent_1 cn_X8_isEnd lk_X8_35 ⟨Nat.le_of_ble_eq_true rfl, Nat.le_of_ble_eq_true rfl⟩ (Nat.le_of_ble_eq_true rfl) ⟨rfl, rfl⟩ (c_isEnd _) (fun v2 h2 ⟨hv2, hh2⟩ => ?_)
    rw [hv2, hh2, if_pos he]
    refine E_if_eq 18 dX8_sent_4 (by decide) (fun c_4 => absurd c_4 (by decide)) (fun c_4 => ?_)
    refine E_aload_n dX8_sent_7 rfl ?_
    refine E_getR dX8_sent_8 fl_X8_22 rfl r02 rfl ?_
    refine E_iload_n dX8_sent_11 rfl ?_
    refine cV1 (N := mX0_bytesBy) dX8_sent_12 cn_X0_bytesBy lk_X8_115 ⟨Nat.le_of_ble_eq_true rfl, Nat.le_of_ble_eq_true rfl⟩ rfl rfl (Nat.le_of_ble_eq_true rfl) ⟨rfl, rfl⟩ (c_bytesBy rfl _) (fun v3 h3 ⟨hv3, hh3⟩ => ?_)
    rw [hv3, hh3, l1, l2]
    refine E_goto 21 dX8_sent_15 (by decide) ?_
    exact E_retl dX8_sent_21 rfl (Nat.le_of_ble_eq_true rfl) (Nat.le_of_ble_eq_true rfl) ⟨rfl, by rw [seR, if_pos he], rfl⟩
  · refine E_iload_n dX8_sent_0 rfl ?_
    refine cS1 (N := mX8_isEnd) dX8_sent_1 cn_X8_isEnd lk_X8_35 ⟨Nat.le_of_ble_eq_true rfl, Nat.le_of_ble_eq_true rfl⟩ (Nat.le_of_ble_eq_true rfl) ⟨rfl, rfl⟩ (c_isEnd _) (fun v2 h2 ⟨hv2, hh2⟩ => ?_)
    rw [hv2, hh2, if_neg he]
    refine E_if_eq 18 dX8_sent_4 (by decide) (fun c_4 => ?_) (fun c_4 => absurd rfl c_4)
    refine E_ldc2 dX8_sent_18 kl_X8_118 ?_
    exact E_retl dX8_sent_21 rfl (Nat.le_of_ble_eq_true rfl) (Nat.le_of_ble_eq_true rfl) ⟨rfl, by rw [seR, if_neg he], rfl⟩
theorem c_built {a : Ab} {h : Hp} (C : CRep a h) (i : Int32) : Sp0 mX8_built [.ref 0, .int i] SH h (fun v h' => v = some (.int (gI (a.2.2.1 1) i)) ∧ h' = h) := by
  obtain ⟨r00, r01, r02, r03, r420, r421, r422, r423, r424, r425, r430, r431, r490, r491, r530, r531, r532, r533, r534⟩ := id C.2.2.1
  refine Sp0.of (by decide) (Nat.le_of_ble_eq_true rfl) ?_
  show E mX8_built none _ 0 [some (.ref 0), some (.int i)] [] SH h 0 0
  refine E_aload_n dX8_built_0 rfl ?_
  refine E_getR dX8_built_1 fl_X8_31 rfl r03 rfl ?_
  refine E_iload_n dX8_built_4 rfl ?_
  refine cV1 (N := mX4_builtByte) dX8_built_5 cn_X4_builtByte lk_X8_120 ⟨Nat.le_of_ble_eq_true rfl, Nat.le_of_ble_eq_true rfl⟩ rfl rfl (Nat.le_of_ble_eq_true rfl) ⟨rfl, rfl⟩ (c_builtByte C _) (fun v4 h4 ⟨hv4, hh4⟩ => ?_)
  rw [hv4, hh4]
  exact E_reti dX8_built_8 rfl rfl (Nat.le_of_ble_eq_true rfl) (Nat.le_of_ble_eq_true rfl) ⟨rfl, rfl, rfl⟩
theorem c_sums {a : Ab} {h : Hp} (C : CRep a h) (i w : Int32) : Sp0 mX8_sums [.ref 0, .int i, .int w] SH h (fun v h' => v = some (.long (sumA (a.2.2.2.2.2 1) i w)) ∧ h' = h) := by
  obtain ⟨r00, r01, r02, r03, r420, r421, r422, r423, r424, r425, r430, r431, r490, r491, r530, r531, r532, r533, r534⟩ := id C.2.2.1
  refine Sp0.of (by decide) (Nat.le_of_ble_eq_true rfl) ?_
  show E mX8_sums none _ 0 [some (.ref 0), some (.int i), some (.int w)] [] SH h 0 0
  refine E_aload_n dX8_sums_0 rfl ?_
  refine E_getR dX8_sums_1 fl_X8_31 rfl r03 rfl ?_
  refine E_iload_n dX8_sums_4 rfl ?_
  refine E_iload_n dX8_sums_5 rfl ?_
  refine cV2 (N := mX4_sumOf) dX8_sums_6 cn_X4_sumOf lk_X8_123 ⟨Nat.le_of_ble_eq_true rfl, Nat.le_of_ble_eq_true rfl⟩ rfl rfl (Nat.le_of_ble_eq_true rfl) ⟨rfl, rfl⟩ (c_runSum C _ _) (fun v4 h4 ⟨hv4, hh4⟩ => ?_)
  rw [hv4, hh4]
  exact E_retl dX8_sums_9 rfl (Nat.le_of_ble_eq_true rfl) (Nat.le_of_ble_eq_true rfl) ⟨rfl, rfl, rfl⟩

