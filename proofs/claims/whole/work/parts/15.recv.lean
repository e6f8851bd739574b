/-! RollingSync$Receiver over the abstract state -/
def tg (a : Ab) : Nat := if a.1 1 = 0 then 1 else 0
def sr (a : Ab) : Nat := if a.1 1 = 0 then 0 else 1
def tF (a : Ab) : FS := a.2.2.2.1 (tg a)
def sF (a : Ab) : FS := a.2.2.2.1 (sr a)
theorem CRep.side {a : Ab} {h : Hp} (C : CRep a h) (e : Nat) (he : e < 2) : SideA SH h (sid e) (a.2.2.2.1 e) := by
  rcases (show e = 0 ∨ e = 1 by omega) with rfl | rfl
  · exact C.2.2.2.2.2.2.2.2.1
  · exact C.2.2.2.2.2.2.2.2.2.1
theorem tg_lt (a : Ab) : tg a < 2 := by unfold tg; split <;> decide
theorem sr_lt (a : Ab) : sr a < 2 := by unfold sr; split <;> decide
theorem sid_tg (a : Ab) : (if a.1 1 = 0 then 21 else 1) = sid (tg a) := by unfold tg sid; split <;> rfl
theorem sid_sr (a : Ab) : (if a.1 1 = 0 then 1 else 21) = sid (sr a) := by unfold sr sid; split <;> rfl
theorem sid_in (e : Nat) : sid e = 1 ∨ sid e = 21 := by unfold sid; split <;> simp
theorem CRep.rT {a : Ab} {h : Hp} (C : CRep a h) : h.2.2 53 4 = some (sid (tg a)) := by
  obtain ⟨r00, r01, r02, r03, r420, r421, r422, r423, r424, r425, r430, r431, r490, r491, r530, r531, r532, r533, r534⟩ := id C.2.2.1
  rw [← sid_tg]; exact r534
theorem CRep.rS {a : Ab} {h : Hp} (C : CRep a h) : h.2.2 49 1 = some (sid (sr a)) := by
  obtain ⟨r00, r01, r02, r03, r420, r421, r422, r423, r424, r425, r430, r431, r490, r491, r530, r531, r532, r533, r534⟩ := id C.2.2.1
  rw [← sid_sr]; exact r491
def ltd (T : Nat → Bool) : Int32 := match (List.range 8).find? T with
  | none => -2
  | some f => nI f
theorem ltd_none {T : Nat → Bool} (h : ∀ j, j < 8 → T j = false) : ltd T = -2 := by
  unfold ltd
  rw [List.find?_eq_none.mpr (fun x hx => by simp [h x (List.mem_range.mp hx)])]
theorem ltd_some {T : Nat → Bool} {i : Nat} (hi : i < 8) (h : ∀ j, j < i → T j = false) (h1 : T i = true) : ltd T = nI i := by
  unfold ltd
  have : (List.range 8).find? T = some i := by
    rw [List.find?_range_eq_some]
    exact ⟨h1, List.mem_range.mpr hi, fun j hj => by simp [h j hj]⟩
  rw [this]
theorem c_leastToDo {a : Ab} {h : Hp} (C : CRep a h) : Sp0 mX2_leastToDo [.ref 53] SH h (fun v h' => v = some (.int (ltd (a.2.2.2.2.1 0))) ∧ h' = h) := by
  obtain ⟨r00, r01, r02, r03, r420, r421, r422, r423, r424, r425, r430, r431, r490, r491, r530, r531, r532, r533, r534⟩ := id C.2.2.1
  have c5 := C.2.2.2.2.1
  generalize a.2.2.2.2.1 0 = T at c5 ⊢
  refine Sp0.of (by decide) (Nat.le_of_ble_eq_true rfl) ?_
  show E mX2_leastToDo none _ 0 [some (.ref 53), none] [] SH h 0 0
  have loop : ∀ (n i : Nat), 8 - i ≤ n → i ≤ 8 → (∀ j, j < i → T j = false) → E mX2_leastToDo none (fun v sh' h' => sh' = SH ∧ v = some (.int (ltd T)) ∧ h' = h) 2 [some (.ref 53), some (.int (nI i))] [] SH h 0 0 := by
    intro n
    induction n with
    | zero =>
      intro i h1 h2 h3
      have e : i = 8 := by omega
      subst e
      refine E_iload_n dX2_leastToDo_2 rfl ?_
      refine E_bi 8 dX2_leastToDo_3 (by decide) ?_
      refine E_icmp_ge 25 dX2_leastToDo_5 (by decide) (fun c_5 => ?_) (fun c_5 => absurd (by decide) c_5)
      refine E_bi (-2) dX2_leastToDo_25 (by decide) ?_
      exact E_reti dX2_leastToDo_27 rfl rfl (Nat.le_of_ble_eq_true rfl) (Nat.le_of_ble_eq_true rfl) ⟨rfl, by rw [ltd_none h3], rfl⟩
    | succ n ih =>
      intro i h1 h2 h3
      by_cases e : i = 8
      · subst e
        refine E_iload_n dX2_leastToDo_2 rfl ?_
        refine E_bi 8 dX2_leastToDo_3 (by decide) ?_
        refine E_icmp_ge 25 dX2_leastToDo_5 (by decide) (fun c_5 => ?_) (fun c_5 => absurd (by decide) c_5)
        refine E_bi (-2) dX2_leastToDo_25 (by decide) ?_
        exact E_reti dX2_leastToDo_27 rfl rfl (Nat.le_of_ble_eq_true rfl) (Nat.le_of_ble_eq_true rfl) ⟨rfl, by rw [ltd_none h3], rfl⟩
      · cases hT : T i with
        | true =>
          refine E_iload_n dX2_leastToDo_2 rfl ?_
          refine E_bi 8 dX2_leastToDo_3 (by decide) ?_
          rw [show (8 : Int32) = nI 8 by decide]
          refine E_icmp_ge 25 dX2_leastToDo_5 (by decide) (fun c_5 => absurd c_5 (nI_ge (by omega) (by omega))) (fun c_5 => ?_)
          refine E_aload_n dX2_leastToDo_8 rfl ?_
          refine E_getR dX2_leastToDo_9 fl_X2_15 (by first | assumption | rfl) (by assumption) rfl ?_
          refine E_iload_n dX2_leastToDo_12 rfl ?_
          refine E_zald dX2_leastToDo_13 (by first | assumption | rfl) (vp_in_nI (by omega) (by omega)) ?_
          rw [nI_clamp (by omega), c5 i (by omega), hT]
          refine E_if_eq 19 dX2_leastToDo_14 (by decide) (fun c_14 => absurd c_14 (by simp)) (fun c_14 => ?_)
          refine E_iload_n dX2_leastToDo_17 rfl ?_
          exact E_reti dX2_leastToDo_18 rfl rfl (Nat.le_of_ble_eq_true rfl) (Nat.le_of_ble_eq_true rfl) ⟨rfl, by rw [ltd_some (by omega) h3 hT], rfl⟩
        | false =>
          refine E_iload_n dX2_leastToDo_2 rfl ?_
          refine E_bi 8 dX2_leastToDo_3 (by decide) ?_
          rw [show (8 : Int32) = nI 8 by decide]
          refine E_icmp_ge 25 dX2_leastToDo_5 (by decide) (fun c_5 => absurd c_5 (nI_ge (by omega) (by omega))) (fun c_5 => ?_)
          refine E_aload_n dX2_leastToDo_8 rfl ?_
          refine E_getR dX2_leastToDo_9 fl_X2_15 (by first | assumption | rfl) (by assumption) rfl ?_
          refine E_iload_n dX2_leastToDo_12 rfl ?_
          refine E_zald dX2_leastToDo_13 (by first | assumption | rfl) (vp_in_nI (by omega) (by omega)) ?_
          rw [nI_clamp (by omega), c5 i (by omega), hT]
          refine E_if_eq 19 dX2_leastToDo_14 (by decide) (fun c_14 => ?_) (fun c_14 => absurd (by simp) c_14)
          refine E_iinc dX2_leastToDo_19 rfl (by decide) ?_
          refine E_goto 2 dX2_leastToDo_22 (by decide) ?_
          rw [nI_inc]
          exact ih (i + 1) (by omega) (by omega) (fun j hj => by rcases Nat.lt_or_ge j i with q | q; exact h3 j q; rw [show j = i by omega]; exact hT)
  refine E_ic 0 dX2_leastToDo_0 (by decide) ?_
  refine E_istore_n dX2_leastToDo_1 (by decide) ?_
  exact loop 8 0 (by omega) (by omega) (by omega)
def tcount (T : Nat → Bool) : Nat → Nat
  | 0 => 0
  | i + 1 => tcount T i + (if T i then 1 else 0)
theorem tcount_le (T : Nat → Bool) : ∀ i, tcount T i ≤ i
  | 0 => by simp [tcount]
  | i + 1 => by have := tcount_le T i; simp [tcount]; split <;> omega
theorem c_toDoCount {a : Ab} {h : Hp} (C : CRep a h) : Sp0 mX2_toDoCount [.ref 53] SH h (fun v h' => v = some (.int (nI (tcount (a.2.2.2.2.1 0) 8))) ∧ h' = h) := by
  obtain ⟨r00, r01, r02, r03, r420, r421, r422, r423, r424, r425, r430, r431, r490, r491, r530, r531, r532, r533, r534⟩ := id C.2.2.1
  have c5 := C.2.2.2.2.1
  generalize a.2.2.2.2.1 0 = T at c5 ⊢
  refine Sp0.of (by decide) (Nat.le_of_ble_eq_true rfl) ?_
  show E mX2_toDoCount none _ 0 [some (.ref 53), none, none] [] SH h 0 0
  have loop : ∀ (n i : Nat), 8 - i ≤ n → i ≤ 8 → E mX2_toDoCount none (fun v sh' h' => sh' = SH ∧ v = some (.int (nI (tcount T 8))) ∧ h' = h) 4 [some (.ref 53), some (.int (nI (tcount T i))), some (.int (nI i))] [] SH h 0 0 := by
    intro n
    induction n with
    | zero =>
      intro i h1 h2
      have e : i = 8 := by omega
      subst e
      refine E_iload_n dX2_toDoCount_4 rfl ?_
      refine E_bi 8 dX2_toDoCount_5 (by decide) ?_
      refine E_icmp_ge 33 dX2_toDoCount_7 (by decide) (fun c_7 => ?_) (fun c_7 => absurd (by decide) c_7)
      refine E_iload_n dX2_toDoCount_33 rfl ?_
      exact E_reti dX2_toDoCount_34 rfl rfl (Nat.le_of_ble_eq_true rfl) (Nat.le_of_ble_eq_true rfl) ⟨rfl, rfl, rfl⟩
    | succ n ih =>
      intro i h1 h2
      by_cases e : i = 8
      · subst e
        refine E_iload_n dX2_toDoCount_4 rfl ?_
        refine E_bi 8 dX2_toDoCount_5 (by decide) ?_
        refine E_icmp_ge 33 dX2_toDoCount_7 (by decide) (fun c_7 => ?_) (fun c_7 => absurd (by decide) c_7)
        refine E_iload_n dX2_toDoCount_33 rfl ?_
        exact E_reti dX2_toDoCount_34 rfl rfl (Nat.le_of_ble_eq_true rfl) (Nat.le_of_ble_eq_true rfl) ⟨rfl, rfl, rfl⟩
      · have hi := ih (i + 1) (by omega) (by omega)
        cases hT : T i with
        | true =>
          rw [show tcount T (i + 1) = tcount T i + 1 by simp [tcount, hT]] at hi
          refine E_iload_n dX2_toDoCount_4 rfl ?_
          refine E_bi 8 dX2_toDoCount_5 (by decide) ?_
          rw [show (8 : Int32) = nI 8 by decide]
          refine E_icmp_ge 33 dX2_toDoCount_7 (by decide) (fun c_7 => absurd c_7 (nI_ge (by omega) (by omega))) (fun c_7 => ?_)
          refine E_iload_n dX2_toDoCount_10 rfl ?_
          refine E_aload_n dX2_toDoCount_11 rfl ?_
          refine E_getR dX2_toDoCount_12 fl_X2_15 (by first | assumption | rfl) (by assumption) rfl ?_
          refine E_iload_n dX2_toDoCount_15 rfl ?_
          refine E_zald dX2_toDoCount_16 (by first | assumption | rfl) (vp_in_nI (by omega) (by omega)) ?_
          rw [nI_clamp (by omega), c5 i (by omega), hT]
          refine E_if_eq 24 dX2_toDoCount_17 (by decide) (fun c_17 => absurd c_17 (by simp)) (fun c_17 => ?_)
          refine E_ic 1 dX2_toDoCount_20 (by decide) ?_
          refine E_goto 25 dX2_toDoCount_21 (by decide) ?_
          refine E_iadd dX2_toDoCount_25 ?_
          refine E_istore_n dX2_toDoCount_26 (by decide) ?_
          refine E_iinc dX2_toDoCount_27 rfl (by decide) ?_
          refine E_goto 4 dX2_toDoCount_30 (by decide) ?_
          rw [nI_inc, nI_1]
          exact hi
        | false =>
          rw [show tcount T (i + 1) = tcount T i + 0 by simp [tcount, hT]] at hi
          refine E_iload_n dX2_toDoCount_4 rfl ?_
          refine E_bi 8 dX2_toDoCount_5 (by decide) ?_
          rw [show (8 : Int32) = nI 8 by decide]
          refine E_icmp_ge 33 dX2_toDoCount_7 (by decide) (fun c_7 => absurd c_7 (nI_ge (by omega) (by omega))) (fun c_7 => ?_)
          refine E_iload_n dX2_toDoCount_10 rfl ?_
          refine E_aload_n dX2_toDoCount_11 rfl ?_
          refine E_getR dX2_toDoCount_12 fl_X2_15 (by first | assumption | rfl) (by assumption) rfl ?_
          refine E_iload_n dX2_toDoCount_15 rfl ?_
          refine E_zald dX2_toDoCount_16 (by first | assumption | rfl) (vp_in_nI (by omega) (by omega)) ?_
          rw [nI_clamp (by omega), c5 i (by omega), hT]
          refine E_if_eq 24 dX2_toDoCount_17 (by decide) (fun c_17 => ?_) (fun c_17 => absurd (by simp) c_17)
          refine E_ic 0 dX2_toDoCount_24 (by decide) ?_
          refine E_iadd dX2_toDoCount_25 ?_
          refine E_istore_n dX2_toDoCount_26 (by decide) ?_
          refine E_iinc dX2_toDoCount_27 rfl (by decide) ?_
          refine E_goto 4 dX2_toDoCount_30 (by decide) ?_
          rw [nI_inc, show (0 : Int32) = nI 0 by decide, nI_add]
          exact hi
  refine E_ic 0 dX2_toDoCount_0 (by decide) ?_
  refine E_istore_n dX2_toDoCount_1 (by decide) ?_
  refine E_ic 0 dX2_toDoCount_2 (by decide) ?_
  refine E_istore_n dX2_toDoCount_3 (by decide) ?_
  exact loop 8 0 (by omega) (by omega)
def wants (a : Ab) : Prop := 0 < (a.2.2.1 0).length ∨ ¬ ltd (a.2.2.2.2.1 0) = -2
theorem c_wantsMore {a : Ab} {h : Hp} (C : CRep a h) : Sp0 mX2_wantsMore [.ref 53] SH h (fun v h' => (v = some (.int 1) ∧ wants a ∨ v = some (.int 0) ∧ ¬ wants a) ∧ h' = h) := by
  have hW := C.2.2.2.1
  refine Sp0.of (by decide) (Nat.le_of_ble_eq_true rfl) ?_
  show E mX2_wantsMore none _ 0 [some (.ref 53)] [] SH h 0 0
  refine E_aload_n dX2_wantsMore_0 rfl ?_
  refine E_getI dX2_wantsMore_1 fl_X2_48 (by first | assumption | rfl) rfl ?_
  rw [hW.1]
  have b := hW.2.1
  refine E_if_gt 16 dX2_wantsMore_4 (by decide) (fun c_4 => ?_) (fun c_4 => ?_)
  · refine E_ic 1 dX2_wantsMore_16 (by decide) ?_
    refine E_goto 21 dX2_wantsMore_17 (by decide) ?_
    exact E_reti dX2_wantsMore_21 rfl rfl (Nat.le_of_ble_eq_true rfl) (Nat.le_of_ble_eq_true rfl) ⟨rfl, Or.inl ⟨rfl, Or.inl (Nat.pos_of_ne_zero fun q => by rw [q] at c_4; exact absurd c_4 (by decide))⟩, rfl⟩
  · refine E_aload_n dX2_wantsMore_7 rfl ?_
    refine cV0 (N := mX2_leastToDo) dX2_wantsMore_8 cn_X2_leastToDo lk_X2_72 ⟨Nat.le_of_ble_eq_true rfl, Nat.le_of_ble_eq_true rfl⟩ (by first | assumption | rfl) rfl (Nat.le_of_ble_eq_true rfl) ⟨rfl, rfl⟩ (c_leastToDo C) (fun v2 h2 ⟨hv2, hh2⟩ => ?_)
    rw [hv2, hh2]
    refine E_bi (-2) dX2_wantsMore_11 (by decide) ?_
    refine E_icmp_eq 20 dX2_wantsMore_13 (by decide) (fun c_13 => ?_) (fun c_13 => ?_)
    · refine E_ic 0 dX2_wantsMore_20 (by decide) ?_
      exact E_reti dX2_wantsMore_21 rfl rfl (Nat.le_of_ble_eq_true rfl) (Nat.le_of_ble_eq_true rfl) ⟨rfl, Or.inr ⟨rfl, fun q => q.elim (fun q => c_4 (by rw [show (0 : Int32) = nI 0 by decide]; exact nI_lt q (by omega))) (fun q => q c_13)⟩, rfl⟩
    · refine E_ic 1 dX2_wantsMore_16 (by decide) ?_
      refine E_goto 21 dX2_wantsMore_17 (by decide) ?_
      exact E_reti dX2_wantsMore_21 rfl rfl (Nat.le_of_ble_eq_true rfl) (Nat.le_of_ble_eq_true rfl) ⟨rfl, Or.inl ⟨rfl, Or.inr c_13⟩, rfl⟩
theorem c_putToWait {a : Ab} {h : Hp} (C : CRep a h) {x : Nat} (hw : (a.2.2.1 0).length < 16) : Sp0 mX2_putToWait [.ref 53, .int (nI x)] SH h (fun v h' => v = none ∧ CRep (aN a 0 (a.2.2.1 0 ++ [x])) h' ∧ CF h h') := by
  obtain ⟨r00, r01, r02, r03, r420, r421, r422, r423, r424, r425, r430, r431, r490, r491, r530, r531, r532, r533, r534⟩ := id C.2.2.1
  have hW := C.2.2.2.1
  have C0 := C
  generalize hWe : a.2.2.1 0 = W at hW hw ⊢
  refine Sp0.of (by decide) (Nat.le_of_ble_eq_true rfl) ?_
  show E mX2_putToWait none _ 0 [some (.ref 53), some (.int (nI x))] [] SH h 0 0
  refine E_aload_n dX2_putToWait_0 rfl ?_
  refine E_getI dX2_putToWait_1 fl_X2_48 (by first | assumption | rfl) rfl ?_
  rw [hW.1]
  refine E_if_lt 36 dX2_putToWait_4 (by decide) (fun c_4 => absurd c_4 (nI_pos (by omega))) (fun c_4 => ?_)
  refine E_aload_n dX2_putToWait_7 rfl ?_
  refine E_getI dX2_putToWait_8 fl_X2_48 (by first | assumption | rfl) rfl ?_
  refine E_bi 16 dX2_putToWait_11 (by decide) ?_
  rw [hW.1, show (16 : Int32) = nI 16 by decide]
  refine E_icmp_ge 36 dX2_putToWait_13 (by decide) (fun c_13 => absurd c_13 (nI_ge (by omega) (by omega))) (fun c_13 => ?_)
  refine E_aload_n dX2_putToWait_16 rfl ?_
  refine E_getR dX2_putToWait_17 fl_X2_9 (by first | assumption | rfl) (by assumption) rfl ?_
  refine E_aload_n dX2_putToWait_20 rfl ?_
  refine E_getI dX2_putToWait_21 fl_X2_48 (by first | assumption | rfl) rfl ?_
  refine E_iload_n dX2_putToWait_24 rfl ?_
  rw [hW.1]
  refine E_iast dX2_putToWait_25 (by first | assumption | rfl) (vp_in_nI (by omega) (by omega)) ?_
  rw [nI_clamp (by omega)]
  refine E_aload_n dX2_putToWait_26 rfl ?_
  refine E_dup rfl dX2_putToWait_27 ?_
  refine E_getI dX2_putToWait_28 fl_X2_48 (by first | assumption | rfl) rfl ?_
  refine E_ic 1 dX2_putToWait_31 (by decide) ?_
  refine E_iadd dX2_putToWait_32 ?_
  refine E_putI dX2_putToWait_33 fl_X2_48 (by first | assumption | rfl) rfl ?_
  rw [show (sI h 54 W.length (nI x)).1 53 5 = nI W.length by simp [sI, u2, hW.1], nI_1]
  refine E_retv dX2_putToWait_36 rfl (Nat.le_of_ble_eq_true rfl) (Nat.le_of_ble_eq_true rfl) ?_
  refine ⟨rfl, rfl, C0.wait ⟨by simp [sI, u2], by simp; omega, fun j hj => ?_⟩ rfl (fun y h1 h2 => by funext j; simp [sI, u2, h1, h2]) (fun k hk => by simp [sI, u2, hk]), CF_sI (CF_sI CF.rf (by decide)) (by decide)⟩
  simp at hj
  by_cases e : j = W.length
  · subst e; simp [sI, u2, List.getD]
  · have h2 : j < W.length := by omega
    have h1 := hW.2.2 j h2
    simp [sI, u2, e, List.getD, List.getElem?_append_left h2] at h1 ⊢
    exact h1
theorem c_forgetBuilt {a : Ab} {h : Hp} (C : CRep a h) : Sp0 mX2_forgetBuilt [.ref 53] SH h (fun v h' => v = none ∧ CRep (aN a 1 []) h' ∧ CF h h') := by
  obtain ⟨r00, r01, r02, r03, r420, r421, r422, r423, r424, r425, r430, r431, r490, r491, r530, r531, r532, r533, r534⟩ := id C.2.2.1
  have c7 := C.2.2.2.2.2.2.1
  refine Sp0.of (by decide) (Nat.le_of_ble_eq_true rfl) ?_
  show E mX2_forgetBuilt none _ 0 [some (.ref 53)] [] SH h 0 0
  refine E_aload_n dX2_forgetBuilt_0 rfl ?_
  refine E_getR dX2_forgetBuilt_1 fl_X2_27 (by first | assumption | rfl) (by assumption) rfl ?_
  refine E_ic 0 dX2_forgetBuilt_4 (by decide) ?_
  rw [show (0 : Int32) = nI 0 by decide]
  refine cV1 (N := mX3_keep) dX2_forgetBuilt_5 cn_X3_keep lk_X2_150 ⟨Nat.le_of_ble_eq_true rfl, Nat.le_of_ble_eq_true rfl⟩ (by first | assumption | rfl) rfl (Nat.le_of_ble_eq_true rfl) ⟨rfl, rfl⟩ (c_Row_keep c7.1 (by omega)) (fun v2 h2 ⟨hv2, R2, F2⟩ => ?_)
  rw [hv2]
  exact E_retv dX2_forgetBuilt_8 rfl (Nat.le_of_ble_eq_true rfl) (Nat.le_of_ble_eq_true rfl) ⟨rfl, rfl, C.built (by simpa using R2) F2 (fun x hx => by cases hx), CF_row CF.rf F2 (by decide) (by decide)⟩
theorem c_settle {a : Ab} {h : Hp} (C : CRep a h) {f : Nat} (hf : f < 8) (hF : a.1 19 = nI f) : Sp0 mX2_settle [.ref 53] SH h (fun v h' => v = none ∧ CRep (aB a 0 (va_up (a.2.2.2.2.1 0) f false)) h' ∧ CF h h') := by
  obtain ⟨r00, r01, r02, r03, r420, r421, r422, r423, r424, r425, r430, r431, r490, r491, r530, r531, r532, r533, r534⟩ := id C.2.2.1
  have e19 : h.1 53 9 = a.1 19 := C.1 19 (by decide)
  rw [hF] at e19
  refine Sp0.of (by decide) (Nat.le_of_ble_eq_true rfl) ?_
  show E mX2_settle none _ 0 [some (.ref 53)] [] SH h 0 0
  refine E_aload_n dX2_settle_0 rfl ?_
  refine E_getI dX2_settle_1 fl_X2_31 (by first | assumption | rfl) rfl ?_
  rw [e19]
  refine cS1 (N := mX8_isFile) dX2_settle_4 cn_X8_isFile lk_X2_120 ⟨Nat.le_of_ble_eq_true rfl, Nat.le_of_ble_eq_true rfl⟩ (Nat.le_of_ble_eq_true rfl) ⟨rfl, rfl⟩ (c_isFile _) (fun v2 h2 ⟨hv2, hh2⟩ => ?_)
  rw [hv2, hh2]
  rw [if_pos (show 0 ≤ (nI f).toInt ∧ (nI f).toInt < 8 from isF_nI hf)]
  refine E_if_eq 20 dX2_settle_7 (by decide) (fun c_7 => absurd c_7 (by decide)) (fun c_7 => ?_)
  refine E_aload_n dX2_settle_10 rfl ?_
  refine E_getR dX2_settle_11 fl_X2_15 (by first | assumption | rfl) (by assumption) rfl ?_
  refine E_aload_n dX2_settle_14 rfl ?_
  refine E_getI dX2_settle_15 fl_X2_31 (by first | assumption | rfl) rfl ?_
  rw [e19]
  refine E_ic 0 dX2_settle_18 (by decide) ?_
  refine E_zast dX2_settle_19 (by first | assumption | rfl) (vp_in_nI hf (by omega)) ?_
  rw [nI_clamp (by omega)]
  exact E_retv dX2_settle_20 rfl (Nat.le_of_ble_eq_true rfl) (Nat.le_of_ble_eq_true rfl) ⟨rfl, rfl, C.flag (j := 0) (by decide) hf false, CF_sI CF.rf (by decide)⟩

