/-! Receiver: what it does with a MESSAGE -/
theorem aN_aN (a : Ab) (k : Nat) (x y : List Nat) : aN (aN a k x) k y = aN a k y := by
  simp only [aN]
  congr 3
  funext j
  simp [va_up]
  split <;> rfl
theorem aN_at (a : Ab) (k : Nat) (x : List Nat) : (aN a k x).2.2.1 k = x := by simp [aN, va_up]
theorem aF_aF (a : Ab) (k : Nat) (x y : FS) : aF (aF a k x) k y = aF a k y := by
  simp only [aF]
  congr 4
  funext j
  simp [va_up]
  split <;> rfl
theorem aF_at (a : Ab) (k : Nat) (x : FS) : (aF a k x).2.2.2.1 k = x := by simp [aF, va_up]
theorem aF_self (a : Ab) (k : Nat) : aF a k (a.2.2.2.1 k) = a := by
  simp only [aF]
  congr 4
  funext j
  simp [va_up]
  intro e
  rw [e]
def takeNodeA (a : Ab) (x : Nat) (d : Int64) : Ab := if nodeF (tF a) x = d then a else if x < 8 then aN a 0 (a.2.2.1 0 ++ [2 * x + 1, 2 * x]) else aB a 0 (va_up (a.2.2.2.2.1 0) (x - 8) true)
theorem c_takeNode {a : Ab} {h : Hp} (C : CRep a h) {x : Nat} (d : Int64) (h1 : 1 ≤ x) (h2 : x < 16) (hw : (a.2.2.1 0).length + 2 ≤ 16) : Sp0 mX2_takeNode [.ref 53, .int (nI x), .long d] SH h (fun v h' => v = none ∧ CRep (takeNodeA a x d) h' ∧ CF h h') := by
  obtain ⟨r00, r01, r02, r03, r420, r421, r422, r423, r424, r425, r430, r431, r490, r491, r530, r531, r532, r533, r534⟩ := id C.2.2.1
  have rT := C.rT
  have S := C.side (tg a) (tg_lt a)
  have hsid := sid_in (tg a)
  have hX : (nI x).toInt = x := nI_toInt (by omega)
  refine Sp0.of (by decide) (Nat.le_of_ble_eq_true rfl) ?_
  show E mX2_takeNode none _ 0 [some (.ref 53), some (.int (nI x)), some (.long d), none] [] SH h 0 0
  refine E_aload_n dX2_takeNode_0 rfl ?_
  refine E_getR dX2_takeNode_1 fl_X2_35 (by first | assumption | rfl) (by assumption) rfl ?_
  refine E_iload_n dX2_takeNode_4 rfl ?_
  refine cV1 (N := mX6_digestAt) dX2_takeNode_5 cn_X6_digestAt lk_X2_110 ⟨Nat.le_of_ble_eq_true rfl, Nat.le_of_ble_eq_true rfl⟩ S.1.1.1 rfl (Nat.le_of_ble_eq_true rfl) ⟨rfl, rfl⟩ (c_digestAt S.1.1 S.2 _) (fun v2 h2 ⟨hv2, hh2⟩ => ?_)
  rw [hv2, hh2, if_pos (by rw [hX]; omega), nI_clamp (by omega)]
  refine E_lload_n dX2_takeNode_8 rfl ?_
  refine E_lcmp dX2_takeNode_9 ?_
  refine E_if_ne 14 dX2_takeNode_10 (by decide) (fun c_10 => ?_) (fun c_10 => ?_)
  · have hne : ¬ nodeF (tF a) x = d := fun q => c_10 ((lg_cmp_eq _ _).mpr q)
    refine E_iload_n dX2_takeNode_14 rfl ?_
    refine E_bi 8 dX2_takeNode_15 (by decide) ?_
    rw [show (8 : Int32) = nI 8 by decide]
    refine E_icmp_ge 39 dX2_takeNode_17 (by decide) (fun c_17 => ?_) (fun c_17 => ?_)
    · refine E_iload_n dX2_takeNode_39 rfl ?_
      refine E_bi 16 dX2_takeNode_40 (by decide) ?_
      have hx8 : 8 ≤ x := (nI_leI (by omega) (by omega)).mp c_17
      rw [show (16 : Int32) = nI 16 by decide]
      refine E_icmp_ge 55 dX2_takeNode_42 (by decide) (fun c_42 => absurd c_42 (nI_ge (by omega) (by omega))) (fun c_42 => ?_)
      refine E_aload_n dX2_takeNode_45 rfl ?_
      refine E_getR dX2_takeNode_46 fl_X2_15 (by first | assumption | rfl) (by assumption) rfl ?_
      refine E_iload_n dX2_takeNode_49 rfl ?_
      refine E_bi 8 dX2_takeNode_50 (by decide) ?_
      refine E_isub dX2_takeNode_52 ?_
      refine E_ic 1 dX2_takeNode_53 (by decide) ?_
      rw [show (8 : Int32) = nI 8 by decide, pk_sub hx8]
      refine E_zast dX2_takeNode_54 (by first | assumption | rfl) (vp_in_nI (by omega) (by omega)) ?_
      rw [nI_clamp (by omega)]
      exact E_retv dX2_takeNode_55 rfl (Nat.le_of_ble_eq_true rfl) (Nat.le_of_ble_eq_true rfl) ⟨rfl, rfl, by rw [takeNodeA, if_neg hne, if_neg (by omega)]; exact C.flag (j := 0) (by decide) (by omega) true, CF_sI CF.rf (by decide)⟩
    · have hx8 : x < 8 := Nat.lt_of_not_le fun q => c_17 (nI_le q (by omega))
      refine E_aload_n dX2_takeNode_20 rfl ?_
      refine E_ic 2 dX2_takeNode_21 (by decide) ?_
      refine E_iload_n dX2_takeNode_22 rfl ?_
      refine E_imul dX2_takeNode_23 ?_
      refine E_ic 1 dX2_takeNode_24 (by decide) ?_
      refine E_iadd dX2_takeNode_25 ?_
      rw [show (2 : Int32) = nI 2 by decide, pk_mul, nI_1]
      refine cV1 (N := mX2_putToWait) dX2_takeNode_26 cn_X2_putToWait lk_X2_51 ⟨Nat.le_of_ble_eq_true rfl, Nat.le_of_ble_eq_true rfl⟩ (by first | assumption | rfl) rfl (Nat.le_of_ble_eq_true rfl) ⟨rfl, rfl⟩ (c_putToWait C (by omega)) (fun v3 h3 ⟨hv3, C3, F3⟩ => ?_)
      rw [hv3]
      refine E_aload_n dX2_takeNode_29 rfl ?_
      refine E_ic 2 dX2_takeNode_30 (by decide) ?_
      refine E_iload_n dX2_takeNode_31 rfl ?_
      refine E_imul dX2_takeNode_32 ?_
      rw [show (2 : Int32) = nI 2 by decide, pk_mul]
      refine cV1 (N := mX2_putToWait) dX2_takeNode_33 cn_X2_putToWait lk_X2_51 ⟨Nat.le_of_ble_eq_true rfl, Nat.le_of_ble_eq_true rfl⟩ (by first | assumption | rfl) rfl (Nat.le_of_ble_eq_true rfl) ⟨rfl, rfl⟩ (c_putToWait C3 (by rw [aN_at]; simp; omega)) (fun v4 h4 ⟨hv4, C4, F4⟩ => ?_)
      rw [hv4]
      refine E_goto 55 dX2_takeNode_36 (by decide) ?_
      exact E_retv dX2_takeNode_55 rfl (Nat.le_of_ble_eq_true rfl) (Nat.le_of_ble_eq_true rfl) ⟨rfl, rfl, by rw [aN_aN, aN_at, List.append_assoc] at C4; rw [takeNodeA, if_neg hne, if_pos hx8]; exact C4, F3.tr F4⟩
  · exact E_retv dX2_takeNode_13 rfl (Nat.le_of_ble_eq_true rfl) (Nat.le_of_ble_eq_true rfl) ⟨rfl, rfl, by rw [takeNodeA, if_pos (show nodeF (tF a) x = d from (lg_cmp_eq _ _).mp c_10)]; exact C, CF.rf⟩
theorem sid_59 (e : Nat) : sid e + 20 ≤ 59 := by rcases sid_in e with q | q <;> rw [q] <;> decide
def takeGoneA (a : Ab) (f : Nat) : Ab := if a.1 18 = 1 then aF (aB a 0 (va_up (a.2.2.2.2.1 0) f false)) (tg a) (setF (tF a) f none) else if a.1 18 = 2 then aB (aB a 0 (va_up (a.2.2.2.2.1 0) f false)) 1 (va_up (a.2.2.2.2.1 1) f true) else aB a 0 (va_up (a.2.2.2.2.1 0) f false)
theorem c_takeGone {a : Ab} {h : Hp} (C : CRep a h) {f : Nat} (hf : f < 8) (hF : a.1 19 = nI f) : Sp0 mX2_takeGone [.ref 53] SH h (fun v h' => v = none ∧ CRep (takeGoneA a f) h' ∧ CF h h') := by
  refine Sp0.of (by decide) (Nat.le_of_ble_eq_true rfl) ?_
  show E mX2_takeGone none _ 0 [some (.ref 53)] [] SH h 0 0
  refine E_aload_n dX2_takeGone_0 rfl ?_
  refine cV0 (N := mX2_settle) dX2_takeGone_1 cn_X2_settle lk_X2_114 ⟨Nat.le_of_ble_eq_true rfl, Nat.le_of_ble_eq_true rfl⟩ (by first | assumption | rfl) rfl (Nat.le_of_ble_eq_true rfl) ⟨rfl, rfl⟩ (c_settle C hf hF) (fun v2 h2 ⟨hv2, C2, F2⟩ => ?_)
  rw [hv2]
  have e18 : h2.1 53 8 = a.1 18 := C2.1 18 (by decide)
  have e19 : h2.1 53 9 = nI f := (C2.1 19 (by decide)).trans hF
  have rT := C2.rT
  have S := C2.side (tg a) (tg_lt a)
  have r56 : h2.2.2 53 2 = some 56 := C2.2.2.1.2.2.2.2.2.2.2.2.2.2.2.2.2.2.2.2.1
  refine E_aload_n dX2_takeGone_4 rfl ?_
  refine E_getI dX2_takeGone_5 fl_X2_45 (by first | assumption | rfl) rfl ?_
  refine E_ic 1 dX2_takeGone_8 (by decide) ?_
  rw [e18]
  refine E_icmp_ne 26 dX2_takeGone_9 (by decide) (fun c_9 => ?_) (fun c_9 => ?_)
  · refine E_aload_n dX2_takeGone_26 rfl ?_
    refine E_getI dX2_takeGone_27 fl_X2_45 (by first | assumption | rfl) rfl ?_
    refine E_ic 2 dX2_takeGone_30 (by decide) ?_
    rw [e18]
    refine E_icmp_ne 54 dX2_takeGone_31 (by decide) (fun c_31 => ?_) (fun c_31 => ?_)
    · exact E_retv dX2_takeGone_54 rfl (Nat.le_of_ble_eq_true rfl) (Nat.le_of_ble_eq_true rfl) ⟨rfl, rfl, by rw [takeGoneA, if_neg c_9, if_neg c_31]; exact C2, F2⟩
    · refine E_aload_n dX2_takeGone_34 rfl ?_
      refine E_getI dX2_takeGone_35 fl_X2_31 (by first | assumption | rfl) rfl ?_
      rw [e19]
      refine cS1 (N := mX8_isFile) dX2_takeGone_38 cn_X8_isFile lk_X2_120 ⟨Nat.le_of_ble_eq_true rfl, Nat.le_of_ble_eq_true rfl⟩ (Nat.le_of_ble_eq_true rfl) ⟨rfl, rfl⟩ (c_isFile _) (fun v3 h3 ⟨hv3, hh3⟩ => ?_)
      rw [hv3, hh3]
      rw [if_pos (show 0 ≤ (nI f).toInt ∧ (nI f).toInt < 8 from isF_nI hf)]
      refine E_if_eq 54 dX2_takeGone_41 (by decide) (fun c_41 => absurd c_41 (by decide)) (fun c_41 => ?_)
      refine E_aload_n dX2_takeGone_44 rfl ?_
      refine E_getR dX2_takeGone_45 fl_X2_19 (by first | assumption | rfl) (by assumption) rfl ?_
      refine E_aload_n dX2_takeGone_48 rfl ?_
      refine E_getI dX2_takeGone_49 fl_X2_31 (by first | assumption | rfl) rfl ?_
      rw [e19]
      refine E_ic 1 dX2_takeGone_52 (by decide) ?_
      refine E_zast dX2_takeGone_53 (by first | assumption | rfl) (vp_in_nI hf (by omega)) ?_
      rw [nI_clamp (by omega)]
      exact E_retv dX2_takeGone_54 rfl (Nat.le_of_ble_eq_true rfl) (Nat.le_of_ble_eq_true rfl) ⟨rfl, rfl, by rw [takeGoneA, if_neg c_9, if_pos c_31]; exact C2.flag (j := 1) (by decide) hf true, CF_sI F2 (by decide)⟩
  · refine E_aload_n dX2_takeGone_12 rfl ?_
    refine E_getR dX2_takeGone_13 fl_X2_35 (by first | assumption | rfl) (by assumption) rfl ?_
    refine E_aload_n dX2_takeGone_16 rfl ?_
    refine E_getI dX2_takeGone_17 fl_X2_31 (by first | assumption | rfl) rfl ?_
    rw [e19]
    refine cV1 (N := mX6_remove) dX2_takeGone_20 cn_X6_remove lk_X2_117 ⟨Nat.le_of_ble_eq_true rfl, Nat.le_of_ble_eq_true rfl⟩ S.1.1.1 rfl (Nat.le_of_ble_eq_true rfl) ⟨rfl, rfl⟩ (c_remove S hf) (fun v3 h3 ⟨hv3, S3, F3⟩ => ?_)
    rw [hv3]
    refine E_goto 54 dX2_takeGone_23 (by decide) ?_
    exact E_retv dX2_takeGone_54 rfl (Nat.le_of_ble_eq_true rfl) (Nat.le_of_ble_eq_true rfl) ⟨rfl, rfl, by rw [takeGoneA, if_pos c_9]; exact C2.setF (tg_lt a) S3 F3, F2.tr (CF_fr CF.rf F3 (sid_59 _))⟩
def takeBytesA (a : Ab) : Ab := aN (aI a 26 (a.1 26 + nI (a.2.2.1 2).length)) 1 ((a.2.2.1 1 ++ a.2.2.1 2).take 500)
theorem take_lt {xs : List Nat} {n : Nat} (h : ∀ x ∈ xs, x < 256) : ∀ x ∈ xs.take n, x < 256 := fun x hx => h x (List.mem_of_mem_take hx)
theorem app_lt {xs ys : List Nat} (h : ∀ x ∈ xs, x < 256) (h2 : ∀ x ∈ ys, x < 256) : ∀ x ∈ xs ++ ys, x < 256 := fun x hx => (List.mem_append.mp hx).elim (h x) (h2 x)
theorem c_takeBytes {a : Ab} {h : Hp} (C : CRep a h) : Sp0 mX2_takeBytes [.ref 53, .ref 44] SH h (fun v h' => v = none ∧ CRep (takeBytesA a) h' ∧ CF h h') := by
  have e26 : h.1 53 16 = a.1 26 := C.1 26 (by decide)
  have c8 := C.2.2.2.2.2.2.2.1
  refine Sp0.of (by decide) (Nat.le_of_ble_eq_true rfl) ?_
  show E mX2_takeBytes none _ 0 [some (.ref 53), some (.ref 44)] [] SH h 0 0
  refine E_aload_n dX2_takeBytes_0 rfl ?_
  refine E_dup rfl dX2_takeBytes_1 ?_
  refine E_getI dX2_takeBytes_2 fl_X2_69 (by first | assumption | rfl) rfl ?_
  refine E_aload_n dX2_takeBytes_5 rfl ?_
  refine cV0 (N := mX3_count) dX2_takeBytes_6 cn_X3_count lk_X2_124 ⟨Nat.le_of_ble_eq_true rfl, Nat.le_of_ble_eq_true rfl⟩ (by first | assumption | rfl) rfl (Nat.le_of_ble_eq_true rfl) ⟨rfl, rfl⟩ (c_Row_count rfl) (fun v2 h2 ⟨hv2, hh2⟩ => ?_)
  rw [hv2, hh2]
  rw [e26, c8.1.2.2.2.1]
  refine E_iadd dX2_takeBytes_9 ?_
  refine E_putI dX2_takeBytes_10 fl_X2_69 (by first | assumption | rfl) rfl ?_
  have C2 := C.setI 26 (a.1 26 + nI (a.2.2.1 2).length) (by decide) (by decide)
  have F2 : CF h (sI h (loc 26).1 (loc 26).2 (a.1 26 + nI (a.2.2.1 2).length)) := CF_sI CF.rf (by decide)
  have c7 := C2.2.2.2.2.2.2.1
  have c8' := C2.2.2.2.2.2.2.2.1
  have r3 : (sI h (loc 26).1 (loc 26).2 (a.1 26 + nI (a.2.2.1 2).length)).2.2 53 3 = some 57 := C2.2.2.1.2.2.2.2.2.2.2.2.2.2.2.2.2.2.2.2.2.1
  refine E_aload_n dX2_takeBytes_13 rfl ?_
  refine E_getR dX2_takeBytes_14 fl_X2_27 (by first | assumption | rfl) (by assumption) rfl ?_
  refine E_aload_n dX2_takeBytes_17 rfl ?_
  refine cV1 (N := mX3_addAll) dX2_takeBytes_18 cn_X3_addAll lk_X2_125 ⟨Nat.le_of_ble_eq_true rfl, Nat.le_of_ble_eq_true rfl⟩ (by first | assumption | rfl) rfl (Nat.le_of_ble_eq_true rfl) ⟨rfl, rfl⟩ (c_Row_addAll c7.1 c8'.1 (by decide) (by decide)) (fun v3 h3 ⟨hv3, R3, F3⟩ => ?_)
  rw [hv3]
  exact E_retv dX2_takeBytes_21 rfl (Nat.le_of_ble_eq_true rfl) (Nat.le_of_ble_eq_true rfl) ⟨rfl, rfl, C2.built R3 F3 (take_lt (app_lt c7.2 c8'.2)), CF_row F2 F3 (by decide) (by decide)⟩
def takeBlockA (a : Ab) (j B f : Nat) : Ab := match tF a f with
  | none => aI a 25 (a.1 25 + 1)
  | some own => aN (aI a 25 (a.1 25 + 1)) 1 ((a.2.2.1 1 ++ (own.drop (j * B)).take B).take 500)
theorem c_takeBlock {a : Ab} {h : Hp} (C : CRep a h) {j B f : Nat} (hj : j ≤ 500) (hB : a.1 16 = nI B) (hB2 : B ≤ 64) (hf : f < 8) (hF : a.1 19 = nI f) : Sp0 mX2_takeBlock [.ref 53, .int (nI j)] SH h (fun v h' => v = none ∧ CRep (takeBlockA a j B f) h' ∧ CF h h') := by
  have e25 : h.1 53 15 = a.1 25 := C.1 25 (by decide)
  have hjB : j * B ≤ 32000 := Nat.mul_le_mul hj hB2
  have C1 := C.setI 25 (a.1 25 + 1) (by decide) (by decide)
  have F1 : CF h (sI h 53 15 (a.1 25 + 1)) := CF_sI CF.rf (by decide)
  generalize hh1 : sI h (loc 25).1 (loc 25).2 (a.1 25 + 1) = h1 at C1
  have hh1' : sI h 53 15 (a.1 25 + 1) = h1 := hh1
  rw [hh1'] at F1
  have rT := C1.rT
  have S := C1.side (tg (aI a 25 (a.1 25 + 1))) (tg_lt _)
  have e19 : h1.1 53 9 = nI f := (C1.1 19 (by decide)).trans hF
  have hown : (aI a 25 (a.1 25 + 1)).2.2.2.1 (tg (aI a 25 (a.1 25 + 1))) = tF a := rfl
  rw [hown] at S
  refine Sp0.of (by decide) (Nat.le_of_ble_eq_true rfl) ?_
  show E mX2_takeBlock none _ 0 [some (.ref 53), some (.int (nI j)), none, none, none] [] SH h 0 0
  cases hx : tF a f with
  | none =>
    refine E_aload_n dX2_takeBlock_0 rfl ?_
    refine E_dup rfl dX2_takeBlock_1 ?_
    refine E_getI dX2_takeBlock_2 fl_X2_66 (by first | assumption | rfl) rfl ?_
    rw [e25]
    refine E_ic 1 dX2_takeBlock_5 (by decide) ?_
    refine E_iadd dX2_takeBlock_6 ?_
    refine E_putI dX2_takeBlock_7 fl_X2_66 (by first | assumption | rfl) rfl ?_
    rw [hh1']
    refine E_aload_n dX2_takeBlock_10 rfl ?_
    refine E_getR dX2_takeBlock_11 fl_X2_35 (by first | assumption | rfl) (by assumption) rfl ?_
    refine E_aload_n dX2_takeBlock_14 rfl ?_
    refine E_getI dX2_takeBlock_15 fl_X2_31 (by first | assumption | rfl) rfl ?_
    rw [e19]
    refine cV1 (N := mX6_existing) dX2_takeBlock_18 cn_X6_existing lk_X2_95 ⟨Nat.le_of_ble_eq_true rfl, Nat.le_of_ble_eq_true rfl⟩ S.1.1.1 rfl (Nat.le_of_ble_eq_true rfl) ⟨rfl, rfl⟩ (c_existing S.1 _) (fun v2 h2 ⟨hv2, hh2⟩ => ?_)
    rw [hv2, hh2, exF_none hf hx]
    refine E_astore_nN dX2_takeBlock_21 (by decide) ?_
    refine E_aload_nN dX2_takeBlock_22 rfl ?_
    refine E_ifnonnullN dX2_takeBlock_23 ?_
    exact E_retv dX2_takeBlock_26 rfl (Nat.le_of_ble_eq_true rfl) (Nat.le_of_ble_eq_true rfl) ⟨rfl, rfl, by rw [takeBlockA, hx]; exact C1, F1⟩
  | some own =>
    have R := S.1.2.1 f hf
    rw [hx] at R
    have hO : ∀ x ∈ own, x < 256 := S.1.2.2.2 f own hx
    have hol : own.length ≤ 500 := R.2.2.2.2.1
    have c7 := C1.2.2.2.2.2.2.1
    generalize hbl : (aI a 25 (a.1 25 + 1)).2.2.1 1 = bl at c7
    have n1 : rId (sid (tg (aI a 25 (a.1 25 + 1)))) f ≠ 57 := by have := sid_in (tg (aI a 25 (a.1 25 + 1))); unfold rId; omega
    have n2 : rId (sid (tg (aI a 25 (a.1 25 + 1)))) f ≠ 58 := by have := sid_in (tg (aI a 25 (a.1 25 + 1))); unfold rId; omega
    have n3 : cId (sid (tg (aI a 25 (a.1 25 + 1)))) f ≠ 57 := by have := sid_in (tg (aI a 25 (a.1 25 + 1))); unfold cId; omega
    have n4 : cId (sid (tg (aI a 25 (a.1 25 + 1)))) f ≠ 58 := by have := sid_in (tg (aI a 25 (a.1 25 + 1))); unfold cId; omega
    generalize hr : rId (sid (tg (aI a 25 (a.1 25 + 1)))) f = r at R n1 n2
    generalize cId (sid (tg (aI a 25 (a.1 25 + 1)))) f = c at R n3 n4
    have loop : ∀ (n t : Nat) (h3 : Hp), B - t ≤ n → t ≤ B → (0 < t → j * B + t ≤ own.length) → RowL SH h3 57 58 500 ((bl ++ (own.drop (j * B)).take t).take 500) → RowF h1 h3 57 58 → E mX2_takeBlock none (fun v sh' h' => sh' = SH ∧ v = none ∧ CRep (takeBlockA a j B f) h' ∧ CF h h') 37 [some (.ref 53), some (.int (nI j)), some (.ref r), some (.int (nI (j * B))), some (.int (nI (j * B + t)))] [] SH h3 0 0 := by
      intro n
      have fin : ∀ (h3 : Hp), RowL SH h3 57 58 500 ((bl ++ (own.drop (j * B)).take B).take 500) → RowF h1 h3 57 58 → CRep (takeBlockA a j B f) h3 ∧ CF h h3 := by
        intro h3 R3 F3
        refine ⟨?_, CF_row F1 F3 (by decide) (by decide)⟩
        rw [takeBlockA, hx]
        have hbl' : a.2.2.1 1 = bl := hbl
        show CRep (aN (aI a 25 (a.1 25 + 1)) 1 ((a.2.2.1 1 ++ (own.drop (j * B)).take B).take 500)) h3
        rw [hbl']
        exact C1.built R3 F3 (take_lt (app_lt c7.2 (fun x hx => hO x (List.mem_of_mem_drop (List.mem_of_mem_take hx)))))
      induction n with
      | zero =>
        intro t h3 q1 q2 q0 R3 F3
        have e : t = B := by omega
        subst e
        have e16 : h3.1 53 6 = nI t := by rw [F3.2 53 (by decide) (by decide)]; exact (C1.1 16 (by decide)).trans hB
        refine E_iload dX2_takeBlock_37 rfl ?_
        refine E_iload_n dX2_takeBlock_39 rfl ?_
        refine E_aload_n dX2_takeBlock_40 rfl ?_
        refine E_getI dX2_takeBlock_41 fl_X2_39 (by first | assumption | rfl) rfl ?_
        refine E_iadd dX2_takeBlock_44 ?_
        rw [e16, nI_add]
        refine E_icmp_ge 76 dX2_takeBlock_45 (by decide) (fun c_45 => ?_) (fun c_45 => absurd (nI_le (by omega) (by omega)) c_45)
        exact E_retv dX2_takeBlock_76 rfl (Nat.le_of_ble_eq_true rfl) (Nat.le_of_ble_eq_true rfl) ⟨rfl, rfl, fin h3 R3 F3⟩
      | succ n ih =>
        intro t h3 q1 q2 q0 R3 F3
        have e16 : h3.1 53 6 = nI B := by rw [F3.2 53 (by decide) (by decide)]; exact (C1.1 16 (by decide)).trans hB
        have R4 := R.other F3 n1 n2 n3 n4
        have r3 : h3.2.2 53 3 = some 57 := by rw [F3.1]; exact C1.2.2.1.2.2.2.2.2.2.2.2.2.2.2.2.2.2.2.2.2.1
        by_cases e : t = B
        · subst e
          refine E_iload dX2_takeBlock_37 rfl ?_
          refine E_iload_n dX2_takeBlock_39 rfl ?_
          refine E_aload_n dX2_takeBlock_40 rfl ?_
          refine E_getI dX2_takeBlock_41 fl_X2_39 (by first | assumption | rfl) rfl ?_
          refine E_iadd dX2_takeBlock_44 ?_
          rw [e16, nI_add]
          refine E_icmp_ge 76 dX2_takeBlock_45 (by decide) (fun c_45 => ?_) (fun c_45 => absurd (nI_le (by omega) (by omega)) c_45)
          exact E_retv dX2_takeBlock_76 rfl (Nat.le_of_ble_eq_true rfl) (Nat.le_of_ble_eq_true rfl) ⟨rfl, rfl, fin h3 R3 F3⟩
        · refine E_iload dX2_takeBlock_37 rfl ?_
          refine E_iload_n dX2_takeBlock_39 rfl ?_
          refine E_aload_n dX2_takeBlock_40 rfl ?_
          refine E_getI dX2_takeBlock_41 fl_X2_39 (by first | assumption | rfl) rfl ?_
          refine E_iadd dX2_takeBlock_44 ?_
          rw [e16, nI_add]
          refine E_icmp_ge 76 dX2_takeBlock_45 (by decide) (fun c_45 => absurd c_45 (nI_ge (by omega) (by omega))) (fun c_45 => ?_)
          refine E_iload dX2_takeBlock_48 rfl ?_
          refine E_aload_n dX2_takeBlock_50 rfl ?_
          refine cV0 (N := mX3_count) dX2_takeBlock_51 cn_X3_count lk_X2_124 ⟨Nat.le_of_ble_eq_true rfl, Nat.le_of_ble_eq_true rfl⟩ R4.1 rfl (Nat.le_of_ble_eq_true rfl) ⟨rfl, rfl⟩ (c_Row_count R4.1) (fun v5 h5 ⟨hv5, hh5⟩ => ?_)
          rw [hv5, hh5, R4.2.2.2.1]
          refine E_icmp_ge 76 dX2_takeBlock_54 (by decide) (fun c_54 => ?_) (fun c_54 => ?_)
          · exact E_retv dX2_takeBlock_76 rfl (Nat.le_of_ble_eq_true rfl) (Nat.le_of_ble_eq_true rfl) ⟨rfl, rfl, fin h3 (by have hge := (nI_leI (by show ((some own).getD []).length < _; simp; omega) (by omega)).mp c_54; rw [List.take_of_length_le (l := own.drop (j * B)) (by simp at hge ⊢; omega)] at R3 ⊢; exact R3) F3⟩
          · have hlt : j * B + t < own.length := Nat.lt_of_not_le fun q => c_54 (nI_le q (by omega))
            refine E_aload_n dX2_takeBlock_57 rfl ?_
            refine E_getR dX2_takeBlock_58 fl_X2_27 (by first | assumption | rfl) (by assumption) rfl ?_
            refine E_aload_n dX2_takeBlock_61 rfl ?_
            refine E_iload dX2_takeBlock_62 rfl ?_
            refine cV1 (N := mX3_get) dX2_takeBlock_64 cn_X3_get lk_X2_129 ⟨Nat.le_of_ble_eq_true rfl, Nat.le_of_ble_eq_true rfl⟩ R4.1 rfl (Nat.le_of_ble_eq_true rfl) ⟨rfl, rfl⟩ (c_Row_get R4 _) (fun v6 h6 ⟨hv6, hh6⟩ => ?_)
            rw [hv6, hh6, gI, if_pos (by rw [nI_toInt (by omega)]; exact ⟨by omega, by show ((j * B + t : Nat) : Int) < own.length; omega⟩), nI_clamp (by omega)]
            refine cV1 (N := mX3_add) dX2_takeBlock_67 cn_X3_add lk_X2_133 ⟨Nat.le_of_ble_eq_true rfl, Nat.le_of_ble_eq_true rfl⟩ (by first | assumption | rfl) rfl (Nat.le_of_ble_eq_true rfl) ⟨rfl, rfl⟩ (c_Row_add R3 _) (fun v7 h7 ⟨hv7, R7, F7⟩ => ?_)
            rw [hv7]
            refine E_iinc dX2_takeBlock_70 rfl (by decide) ?_
            refine E_goto 37 dX2_takeBlock_73 (by decide) ?_
            rw [nI_inc]
            have h8 : t < (own.drop (j * B)).length := by simp; omega
            have h9 : own.getD (j * B + t) 0 = (own.drop (j * B)).getD t 0 := by simp [List.getD]
            rw [show (some own).getD [] = own from rfl, h9, addAll_step h8] at R7
            exact ih (t + 1) h7 (by omega) (by omega) (fun _ => by omega) R7 (F3.tr F7)
    refine E_aload_n dX2_takeBlock_0 rfl ?_
    refine E_dup rfl dX2_takeBlock_1 ?_
    refine E_getI dX2_takeBlock_2 fl_X2_66 (by first | assumption | rfl) rfl ?_
    rw [e25]
    refine E_ic 1 dX2_takeBlock_5 (by decide) ?_
    refine E_iadd dX2_takeBlock_6 ?_
    refine E_putI dX2_takeBlock_7 fl_X2_66 (by first | assumption | rfl) rfl ?_
    rw [hh1']
    refine E_aload_n dX2_takeBlock_10 rfl ?_
    refine E_getR dX2_takeBlock_11 fl_X2_35 (by first | assumption | rfl) (by assumption) rfl ?_
    refine E_aload_n dX2_takeBlock_14 rfl ?_
    refine E_getI dX2_takeBlock_15 fl_X2_31 (by first | assumption | rfl) rfl ?_
    rw [e19]
    refine cV1 (N := mX6_existing) dX2_takeBlock_18 cn_X6_existing lk_X2_95 ⟨Nat.le_of_ble_eq_true rfl, Nat.le_of_ble_eq_true rfl⟩ S.1.1.1 rfl (Nat.le_of_ble_eq_true rfl) ⟨rfl, rfl⟩ (c_existing S.1 _) (fun v2 h2 ⟨hv2, hh2⟩ => ?_)
    rw [hv2, hh2, exF_of hf hx]
    refine E_astore_n dX2_takeBlock_21 (by decide) ?_
    refine E_aload_n dX2_takeBlock_22 rfl ?_
    refine E_ifnonnull 27 dX2_takeBlock_23 (by decide) ?_
    refine E_iload_n dX2_takeBlock_27 rfl ?_
    refine E_aload_n dX2_takeBlock_28 rfl ?_
    refine E_getI dX2_takeBlock_29 fl_X2_39 (by first | assumption | rfl) rfl ?_
    refine E_imul dX2_takeBlock_32 ?_
    rw [show h1.1 53 6 = nI B from (C1.1 16 (by decide)).trans hB, pk_mul]
    refine E_istore_n dX2_takeBlock_33 (by decide) ?_
    refine E_iload_n dX2_takeBlock_34 rfl ?_
    refine E_istore dX2_takeBlock_35 (by decide) ?_
    rw [hr]
    exact loop B 0 h1 (by omega) (by omega) (by omega) (by have := c7.1; simpa [List.take_of_length_le c7.1.2.2.2.2.1] using this) RowF.rf
def kTwice (k : Int32) : Int32 := if 2 * k < 8 then 2 * k else 8
def takeEndA (a : Ab) (d : Int64) (f : Nat) : Ab := if dig (a.2.2.1 1) = d then aB (aI (aF a (tg a) (setF (tF a) f (some (a.2.2.1 1)))) 22 (a.1 22 + 1)) 0 (va_up (a.2.2.2.2.1 0) f false) else if a.1 21 + 1 < 3 then aI (aI (aI a 24 (a.1 24 + 1)) 21 (a.1 21 + 1)) 20 (kTwice (a.1 20)) else aB (aI (aI (aI (aI a 24 (a.1 24 + 1)) 21 (a.1 21 + 1)) 20 (kTwice (a.1 20))) 23 (a.1 23 + 1)) 0 (va_up (a.2.2.2.2.1 0) f false)
theorem c_takeEnd {a : Ab} {h : Hp} (C : CRep a h) (d : Int64) {f : Nat} (hf : f < 8) (hF : a.1 19 = nI f) : Sp0 mX2_takeEnd [.ref 53, .long d] SH h (fun v h' => v = none ∧ CRep (takeEndA a d f) h' ∧ CF h h') := by
  obtain ⟨r00, r01, r02, r03, r420, r421, r422, r423, r424, r425, r430, r431, r490, r491, r530, r531, r532, r533, r534⟩ := id C.2.2.1
  have e19 : h.1 53 9 = a.1 19 := C.1 19 (by decide)
  have e20 : h.1 53 10 = a.1 20 := C.1 20 (by decide)
  have e21 : h.1 53 11 = a.1 21 := C.1 21 (by decide)
  have e22 : h.1 53 12 = a.1 22 := C.1 22 (by decide)
  have e23 : h.1 53 13 = a.1 23 := C.1 23 (by decide)
  have e24 : h.1 53 14 = a.1 24 := C.1 24 (by decide)
  have c7 := C.2.2.2.2.2.2.1
  have hbl := c7.1.2.2.2.2.1
  have rT := C.rT
  have S := C.side (tg a) (tg_lt a)
  have hsid := sid_in (tg a)
  refine Sp0.of (by decide) (Nat.le_of_ble_eq_true rfl) ?_
  show E mX2_takeEnd none _ 0 [some (.ref 53), some (.long d), none] [] SH h 0 0
  refine E_aload_n dX2_takeEnd_0 rfl ?_
  refine E_getR dX2_takeEnd_1 fl_X2_27 (by first | assumption | rfl) (by assumption) rfl ?_
  refine E_ic 0 dX2_takeEnd_4 (by decide) ?_
  refine E_si 500 dX2_takeEnd_5 (by decide) ?_
  rw [show (0 : Int32) = nI 0 by decide, show (500 : Int32) = nI 500 by decide]
  refine cV2 (N := mX3_digestOf) dX2_takeEnd_8 cn_X3_digestOf lk_X2_136 ⟨Nat.le_of_ble_eq_true rfl, Nat.le_of_ble_eq_true rfl⟩ (by first | assumption | rfl) rfl (Nat.le_of_ble_eq_true rfl) ⟨rfl, rfl⟩ (c_Row_digestOf c7.1 (by omega) (by omega)) (fun v2 h2 ⟨hv2, hh2⟩ => ?_)
  rw [hv2, hh2, List.drop_zero, List.take_of_length_le hbl]
  refine E_lload_n dX2_takeEnd_11 rfl ?_
  refine E_lcmp dX2_takeEnd_12 ?_
  refine E_if_ne 46 dX2_takeEnd_13 (by decide) (fun c_13 => ?_) (fun c_13 => ?_)
  · have hne : ¬ dig (a.2.2.1 1) = d := fun q => c_13 ((lg_cmp_eq _ _).mpr q)
    refine E_aload_n dX2_takeEnd_46 rfl ?_
    refine E_dup rfl dX2_takeEnd_47 ?_
    refine E_getI dX2_takeEnd_48 fl_X2_63 (by first | assumption | rfl) rfl ?_
    rw [e24]
    refine E_ic 1 dX2_takeEnd_51 (by decide) ?_
    refine E_iadd dX2_takeEnd_52 ?_
    refine E_putI dX2_takeEnd_53 fl_X2_63 (by first | assumption | rfl) rfl ?_
    have C3 := C.setI 24 (a.1 24 + 1) (by decide) (by decide)
    have F3 : CF h (sI h 53 14 (a.1 24 + 1)) := CF_sI CF.rf (by decide)
    refine E_aload_n dX2_takeEnd_56 rfl ?_
    refine E_dup rfl dX2_takeEnd_57 ?_
    refine E_getI dX2_takeEnd_58 fl_X2_88 (by first | assumption | rfl) rfl ?_
    rw [show (sI h 53 14 (a.1 24 + 1)).1 53 11 = a.1 21 from C3.1 21 (by decide)]
    refine E_ic 1 dX2_takeEnd_61 (by decide) ?_
    refine E_iadd dX2_takeEnd_62 ?_
    refine E_putI dX2_takeEnd_63 fl_X2_88 (by first | assumption | rfl) rfl ?_
    have C4 := C3.setI 21 (a.1 21 + 1) (by decide) (by decide)
    have F4 : CF h (sI (sI h 53 14 (a.1 24 + 1)) 53 11 (a.1 21 + 1)) := CF_sI F3 (by decide)
    have g20 : (sI (sI h 53 14 (a.1 24 + 1)) 53 11 (a.1 21 + 1)).1 53 10 = a.1 20 := C4.1 20 (by decide)
    refine E_aload_n dX2_takeEnd_66 rfl ?_
    refine E_bi 8 dX2_takeEnd_67 (by decide) ?_
    refine E_ic 2 dX2_takeEnd_69 (by decide) ?_
    refine E_aload_n dX2_takeEnd_70 rfl ?_
    refine E_getI dX2_takeEnd_71 fl_X2_85 (by first | assumption | rfl) rfl ?_
    refine E_imul dX2_takeEnd_74 ?_
    rw [g20]
    refine cS2 (N := mJ9_min_7cf53) dX2_takeEnd_75 cn_J9_min_7cf53 lk_X2_144 ⟨Nat.le_of_ble_eq_true rfl, Nat.le_of_ble_eq_true rfl⟩ (Nat.le_of_ble_eq_true rfl) ⟨rfl, rfl⟩ (c_min _ _) (fun v6 h6 ⟨hv6, hh6⟩ => ?_)
    rw [hv6, hh6]
    refine E_putI dX2_takeEnd_78 fl_X2_85 (by first | assumption | rfl) rfl ?_
    have C7 := C4.setI 20 (kTwice (a.1 20)) (by decide) (by decide)
    have F7 : CF h (sI (sI (sI h 53 14 (a.1 24 + 1)) 53 11 (a.1 21 + 1)) 53 10 (kTwice (a.1 20))) := CF_sI F4 (by decide)
    have g21 : (sI (sI (sI h 53 14 (a.1 24 + 1)) 53 11 (a.1 21 + 1)) 53 10 (kTwice (a.1 20))).1 53 11 = a.1 21 + 1 := C7.1 21 (by decide)
    have g23 : (sI (sI (sI h 53 14 (a.1 24 + 1)) 53 11 (a.1 21 + 1)) 53 10 (kTwice (a.1 20))).1 53 13 = a.1 23 := C7.1 23 (by decide)
    rw [show (if 2 * a.1 20 < 8 then 2 * a.1 20 else 8) = kTwice (a.1 20) from rfl]
    refine E_aload_n dX2_takeEnd_81 rfl ?_
    refine E_getI dX2_takeEnd_82 fl_X2_88 (by first | assumption | rfl) rfl ?_
    rw [g21]
    refine E_ic 3 dX2_takeEnd_85 (by decide) ?_
    refine E_icmp_lt 103 dX2_takeEnd_86 (by decide) (fun c_86 => ?_) (fun c_86 => ?_)
    · exact E_retv dX2_takeEnd_103 rfl (Nat.le_of_ble_eq_true rfl) (Nat.le_of_ble_eq_true rfl) ⟨rfl, rfl, by rw [takeEndA, if_neg hne, if_pos c_86]; exact C7, F7⟩
    · refine E_aload_n dX2_takeEnd_89 rfl ?_
      refine E_dup rfl dX2_takeEnd_90 ?_
      refine E_getI dX2_takeEnd_91 fl_X2_60 (by first | assumption | rfl) rfl ?_
      rw [g23]
      refine E_ic 1 dX2_takeEnd_94 (by decide) ?_
      refine E_iadd dX2_takeEnd_95 ?_
      refine E_putI dX2_takeEnd_96 fl_X2_60 (by first | assumption | rfl) rfl ?_
      have C8 := C7.setI 23 (a.1 23 + 1) (by decide) (by decide)
      refine E_aload_n dX2_takeEnd_99 rfl ?_
      refine cV0 (N := mX2_settle) dX2_takeEnd_100 cn_X2_settle lk_X2_114 ⟨Nat.le_of_ble_eq_true rfl, Nat.le_of_ble_eq_true rfl⟩ (by first | assumption | rfl) rfl (Nat.le_of_ble_eq_true rfl) ⟨rfl, rfl⟩ (c_settle C8 hf hF) (fun v9 h9 ⟨hv9, C9, F9⟩ => ?_)
      rw [hv9]
      exact E_retv dX2_takeEnd_103 rfl (Nat.le_of_ble_eq_true rfl) (Nat.le_of_ble_eq_true rfl) ⟨rfl, rfl, by rw [takeEndA, if_neg hne, if_neg c_86]; exact C9, (CF_sI F7 (by decide)).tr F9⟩
  · have heq : dig (a.2.2.1 1) = d := (lg_cmp_eq _ _).mp c_13
    refine E_aload_n dX2_takeEnd_16 rfl ?_
    refine E_getR dX2_takeEnd_17 fl_X2_35 (by first | assumption | rfl) (by assumption) rfl ?_
    refine E_aload_n dX2_takeEnd_20 rfl ?_
    refine E_getI dX2_takeEnd_21 fl_X2_31 (by first | assumption | rfl) rfl ?_
    refine E_aload_n dX2_takeEnd_24 rfl ?_
    refine E_getR dX2_takeEnd_25 fl_X2_27 (by first | assumption | rfl) (by assumption) rfl ?_
    rw [e19, hF]
    refine cV2 (N := mX6_replace) dX2_takeEnd_28 cn_X6_replace lk_X2_140 ⟨Nat.le_of_ble_eq_true rfl, Nat.le_of_ble_eq_true rfl⟩ S.1.1.1 rfl (Nat.le_of_ble_eq_true rfl) ⟨rfl, rfl⟩ (c_replace S hf c7.1 (by unfold rId; omega) (by unfold cId; omega) c7.2) (fun v3 h3 ⟨hv3, S3, F3⟩ => ?_)
    rw [hv3]
    have C3 := C.setF (tg_lt a) S3 F3
    have g22 : h3.1 53 12 = a.1 22 := C3.1 22 (by decide)
    refine E_aload_n dX2_takeEnd_31 rfl ?_
    refine E_dup rfl dX2_takeEnd_32 ?_
    refine E_getI dX2_takeEnd_33 fl_X2_57 (by first | assumption | rfl) rfl ?_
    rw [g22]
    refine E_ic 1 dX2_takeEnd_36 (by decide) ?_
    refine E_iadd dX2_takeEnd_37 ?_
    refine E_putI dX2_takeEnd_38 fl_X2_57 (by first | assumption | rfl) rfl ?_
    have C4 := C3.setI 22 (a.1 22 + 1) (by decide) (by decide)
    refine E_aload_n dX2_takeEnd_41 rfl ?_
    refine cV0 (N := mX2_settle) dX2_takeEnd_42 cn_X2_settle lk_X2_114 ⟨Nat.le_of_ble_eq_true rfl, Nat.le_of_ble_eq_true rfl⟩ (by first | assumption | rfl) rfl (Nat.le_of_ble_eq_true rfl) ⟨rfl, rfl⟩ (c_settle C4 hf hF) (fun v5 h5 ⟨hv5, C5, F5⟩ => ?_)
    rw [hv5]
    exact E_retv dX2_takeEnd_45 rfl (Nat.le_of_ble_eq_true rfl) (Nat.le_of_ble_eq_true rfl) ⟨rfl, rfl, by rw [takeEndA, if_pos heq]; exact C5, (CF_sI (CF_fr CF.rf F3 (sid_59 _)) (by decide)).tr F5⟩
def dropF (D : Nat → Bool) (F : FS) (i : Nat) : FS := fun g => if g < i ∧ D g = true then none else F g
theorem dropF_no {D : Nat → Bool} {F : FS} {i : Nat} (h : D i = false) : dropF D F (i + 1) = dropF D F i := by
  funext g
  by_cases q : g = i
  · subst q
    simp [dropF, h]
  · have q2 : (g < i + 1) ↔ (g < i) := by omega
    simp [dropF, q2]
theorem dropF_yes {D : Nat → Bool} {F : FS} {i : Nat} (h : D i = true) : dropF D F (i + 1) = setF (dropF D F i) i none := by
  funext g
  by_cases q : g = i
  · subst q
    simp [dropF, setF, h]
  · have q2 : (g < i + 1) ↔ (g < i) := by omega
    simp [dropF, setF, q, q2]
theorem c_dropTold {a : Ab} {h : Hp} (C : CRep a h) : Sp0 mX2_dropTold [.ref 53] SH h (fun v h' => v = none ∧ CRep (aF a (tg a) (dropF (a.2.2.2.2.1 1) (tF a) 8)) h' ∧ CF h h') := by
  refine Sp0.of (by decide) (Nat.le_of_ble_eq_true rfl) ?_
  show E mX2_dropTold none _ 0 [some (.ref 53), none] [] SH h 0 0
  have loop : ∀ (n i : Nat) (h3 : Hp), 8 - i ≤ n → i ≤ 8 → CRep (aF a (tg a) (dropF (a.2.2.2.2.1 1) (tF a) i)) h3 → CF h h3 → E mX2_dropTold none (fun v sh' h' => sh' = SH ∧ v = none ∧ CRep (aF a (tg a) (dropF (a.2.2.2.2.1 1) (tF a) 8)) h' ∧ CF h h') 2 [some (.ref 53), some (.int (nI i))] [] SH h3 0 0 := by
    intro n
    induction n with
    | zero =>
      intro i h3 h1 h2 C3 F3
      have e : i = 8 := by omega
      subst e
      refine E_iload_n dX2_dropTold_2 rfl ?_
      refine E_bi 8 dX2_dropTold_3 (by decide) ?_
      refine E_icmp_ge 31 dX2_dropTold_5 (by decide) (fun c_5 => ?_) (fun c_5 => absurd (by decide) c_5)
      exact E_retv dX2_dropTold_31 rfl (Nat.le_of_ble_eq_true rfl) (Nat.le_of_ble_eq_true rfl) ⟨rfl, rfl, C3, F3⟩
    | succ n ih =>
      intro i h3 h1 h2 C3 F3
      by_cases e : i = 8
      · subst e
        refine E_iload_n dX2_dropTold_2 rfl ?_
        refine E_bi 8 dX2_dropTold_3 (by decide) ?_
        refine E_icmp_ge 31 dX2_dropTold_5 (by decide) (fun c_5 => ?_) (fun c_5 => absurd (by decide) c_5)
        exact E_retv dX2_dropTold_31 rfl (Nat.le_of_ble_eq_true rfl) (Nat.le_of_ble_eq_true rfl) ⟨rfl, rfl, C3, F3⟩
      · have c6 := C3.2.2.2.2.2.1 i (by omega)
        have r56 : h3.2.2 53 2 = some 56 := C3.2.2.1.2.2.2.2.2.2.2.2.2.2.2.2.2.2.2.2.1
        have rT := C3.rT
        have S := C3.side (tg a) (tg_lt a)
        cases hD : a.2.2.2.2.1 1 i with
        | true =>
          have c6' : h3.1 56 i = 1 := by rw [c6]; show (if a.2.2.2.2.1 1 i = true then (1 : Int32) else 0) = 1; rw [hD]; rfl
          refine E_iload_n dX2_dropTold_2 rfl ?_
          refine E_bi 8 dX2_dropTold_3 (by decide) ?_
          rw [show (8 : Int32) = nI 8 by decide]
          refine E_icmp_ge 31 dX2_dropTold_5 (by decide) (fun c_5 => absurd c_5 (nI_ge (by omega) (by omega))) (fun c_5 => ?_)
          refine E_aload_n dX2_dropTold_8 rfl ?_
          refine E_getR dX2_dropTold_9 fl_X2_19 (by first | assumption | rfl) (by assumption) rfl ?_
          refine E_iload_n dX2_dropTold_12 rfl ?_
          refine E_zald dX2_dropTold_13 (by first | assumption | rfl) (vp_in_nI (by omega) (by omega)) ?_
          rw [nI_clamp (by omega), c6']
          refine E_if_eq 25 dX2_dropTold_14 (by decide) (fun c_14 => absurd c_14 (by decide)) (fun c_14 => ?_)
          refine E_aload_n dX2_dropTold_17 rfl ?_
          refine E_getR dX2_dropTold_18 fl_X2_35 (by first | assumption | rfl) (by assumption) rfl ?_
          refine E_iload_n dX2_dropTold_21 rfl ?_
          refine cV1 (N := mX6_remove) dX2_dropTold_22 cn_X6_remove lk_X2_117 ⟨Nat.le_of_ble_eq_true rfl, Nat.le_of_ble_eq_true rfl⟩ S.1.1.1 rfl (Nat.le_of_ble_eq_true rfl) ⟨rfl, rfl⟩ (c_remove S (by omega)) (fun v4 h4 ⟨hv4, S4, F4⟩ => ?_)
          rw [hv4]
          refine E_iinc dX2_dropTold_25 rfl (by decide) ?_
          refine E_goto 2 dX2_dropTold_28 (by decide) ?_
          rw [nI_inc]
          have C5 := C3.setF (tg_lt a) S4 F4
          rw [aF_aF, aF_at] at C5
          refine ih (i + 1) h4 (by omega) (by omega) ?_ (CF_fr F3 F4 (sid_59 _))
          rw [dropF_yes hD]
          exact C5
        | false =>
          have c6' : h3.1 56 i = 0 := by rw [c6]; show (if a.2.2.2.2.1 1 i = true then (1 : Int32) else 0) = 0; rw [hD]; rfl
          refine E_iload_n dX2_dropTold_2 rfl ?_
          refine E_bi 8 dX2_dropTold_3 (by decide) ?_
          rw [show (8 : Int32) = nI 8 by decide]
          refine E_icmp_ge 31 dX2_dropTold_5 (by decide) (fun c_5 => absurd c_5 (nI_ge (by omega) (by omega))) (fun c_5 => ?_)
          refine E_aload_n dX2_dropTold_8 rfl ?_
          refine E_getR dX2_dropTold_9 fl_X2_19 (by first | assumption | rfl) (by assumption) rfl ?_
          refine E_iload_n dX2_dropTold_12 rfl ?_
          refine E_zald dX2_dropTold_13 (by first | assumption | rfl) (vp_in_nI (by omega) (by omega)) ?_
          rw [nI_clamp (by omega), c6']
          refine E_if_eq 25 dX2_dropTold_14 (by decide) (fun c_14 => ?_) (fun c_14 => absurd rfl c_14)
          refine E_iinc dX2_dropTold_25 rfl (by decide) ?_
          refine E_goto 2 dX2_dropTold_28 (by decide) ?_
          rw [nI_inc]
          refine ih (i + 1) h3 (by omega) (by omega) ?_ F3
          rw [dropF_no hD]
          exact C3
  refine E_ic 0 dX2_dropTold_0 (by decide) ?_
  refine E_istore_n dX2_dropTold_1 (by decide) ?_
  exact loop 8 0 h (by omega) (by omega) (by rw [show dropF (a.2.2.2.2.1 1) (tF a) 0 = a.2.2.2.1 (tg a) by funext g; simp [dropF, tF], aF_self]; exact C) CF.rf

