/-! what `new` makes: rows, sums, the message, the sender, the receiver, the run -/
theorem ln (k : Nat) (h : k ≤ 76) : (SH.take k).length = k := by
  rw [List.length_take]
  exact Nat.min_eq_left h
theorem tks {k k' : Nat} {s : Sh} (h : SH[k]? = some s) (e : k + 1 = k') : SH.take k ++ [s] = SH.take k' := by
  subst e
  rw [List.take_add_one, h]
  rfl
def rwH (h : Hp) (a n : Nat) : Hp := sR (clr h n) a 0 (some n)
def smH (h : Hp) (a n : Nat) : Hp := sR (clr (sR (clr h n) a 0 (some n)) (n + 1)) a 1 (some (n + 1))
theorem i_Row {sh : List Sh} {h : Hp} {a m : Nat} (hm : m = 16 ∨ m = 500) (hs : sh[a]? = some (.inr 3)) : Sp mX3_init [.ref a, .int (nI m)] sh h (fun v sh' h' => v = none ∧ sh' = sh ++ [.inl (.int, m)] ∧ h' = rwH h a sh.length) := by
  have ha : a < sh.length := (List.getElem?_eq_some_iff.mp hs).1
  have hx : sh.length < (sh ++ [(.inl (.int, m) : Sh)]).length := by simp
  have hs' : (sh ++ [(.inl (.int, m) : Sh)])[a]? = some (.inr 3) := by rw [List.getElem?_append_left ha]; exact hs
  refine Sp.of (by decide) (Nat.le_of_ble_eq_true rfl) ?_
  show E mX3_init none _ 0 [some (.ref a), some (.int (nI m))] [] sh h 0 0
  rcases hm with rfl | rfl
  · refine E_aload_n dX3_init_0 rfl ?_
    refine E_objInit dX3_init_1 oi_X3 oi_inst oi_code (by decide) (Nat.le_of_ble_eq_true rfl) ?_
    refine E_aload_n dX3_init_4 rfl ?_
    refine E_ic 0 dX3_init_5 (by decide) ?_
    refine E_iload_n dX3_init_6 rfl ?_
    refine cS2 (N := mJ9_max_7cf53) dX3_init_7 cn_J9_max_7cf53 lk_X3_9 ⟨Nat.le_of_ble_eq_true rfl, Nat.le_of_ble_eq_true rfl⟩ (Nat.le_of_ble_eq_true rfl) ⟨rfl, rfl⟩ (c_max _ _) (fun v2 h2 ⟨hv2, hh2⟩ => ?_)
    rw [hv2, hh2, if_pos (show (0 : Int32) < nI 16 by decide)]
    refine E_newa_i dX3_init_10 ar_int (by decide) (nI_clamp (n := 16) (by decide)) (by decide) (by decide) (by decide) (by simp [old, ha]) (by simp [old, ha]) ?_
    refine E_putF dX3_init_12 ff_X3_15 hs' rfl hx (Or.inr ⟨_, rfl⟩) ?_
    exact E_retv dX3_init_15 rfl (Nat.le_of_ble_eq_true rfl) (Nat.le_of_ble_eq_true rfl) ⟨rfl, rfl, rfl⟩
  · refine E_aload_n dX3_init_0 rfl ?_
    refine E_objInit dX3_init_1 oi_X3 oi_inst oi_code (by decide) (Nat.le_of_ble_eq_true rfl) ?_
    refine E_aload_n dX3_init_4 rfl ?_
    refine E_ic 0 dX3_init_5 (by decide) ?_
    refine E_iload_n dX3_init_6 rfl ?_
    refine cS2 (N := mJ9_max_7cf53) dX3_init_7 cn_J9_max_7cf53 lk_X3_9 ⟨Nat.le_of_ble_eq_true rfl, Nat.le_of_ble_eq_true rfl⟩ (Nat.le_of_ble_eq_true rfl) ⟨rfl, rfl⟩ (c_max _ _) (fun v2 h2 ⟨hv2, hh2⟩ => ?_)
    rw [hv2, hh2, if_pos (show (0 : Int32) < nI 500 by decide)]
    refine E_newa_i dX3_init_10 ar_int (by decide) (nI_clamp (n := 500) (by decide)) (by decide) (by decide) (by decide) (by simp [old, ha]) (by simp [old, ha]) ?_
    refine E_putF dX3_init_12 ff_X3_15 hs' rfl hx (Or.inr ⟨_, rfl⟩) ?_
    exact E_retv dX3_init_15 rfl (Nat.le_of_ble_eq_true rfl) (Nat.le_of_ble_eq_true rfl) ⟨rfl, rfl, rfl⟩
theorem i_Line {sh : List Sh} {h : Hp} {a : Nat} : Sp mX0_init [.ref a] sh h (fun v sh' h' => v = none ∧ sh' = sh ∧ h' = h) := by
  refine Sp.of (by decide) (Nat.le_of_ble_eq_true rfl) ?_
  show E mX0_init none _ 0 [some (.ref a)] [] sh h 0 0
  refine E_aload_n dX0_init_0 rfl ?_
  refine E_objInit dX0_init_1 oi_X0 oi_inst oi_code (by decide) (Nat.le_of_ble_eq_true rfl) ?_
  exact E_retv dX0_init_4 rfl (Nat.le_of_ble_eq_true rfl) (Nat.le_of_ble_eq_true rfl) ⟨rfl, rfl, rfl⟩
theorem i_Sums {sh : List Sh} {h : Hp} {a : Nat} (hs : sh[a]? = some (.inr 7)) : Sp mX7_init [.ref a] sh h (fun v sh' h' => v = none ∧ sh' = sh ++ [.inl (.long, 500)] ++ [.inl (.long, 500)] ∧ h' = smH h a sh.length) := by
  have ha : a < sh.length := (List.getElem?_eq_some_iff.mp hs).1
  have hl : (sh ++ [(.inl (.long, 500) : Sh)]).length = sh.length + 1 := by simp
  have hx : sh.length < (sh ++ [(.inl (.long, 500) : Sh)]).length := by simp
  have hs' : (sh ++ [(.inl (.long, 500) : Sh)])[a]? = some (.inr 7) := by rw [List.getElem?_append_left ha]; exact hs
  have hx2 : sh.length + 1 < (sh ++ [(.inl (.long, 500) : Sh)] ++ [(.inl (.long, 500) : Sh)]).length := by simp
  have hs2 : (sh ++ [(.inl (.long, 500) : Sh)] ++ [(.inl (.long, 500) : Sh)])[a]? = some (.inr 7) := by rw [List.getElem?_append_left (by rw [hl]; omega)]; exact hs'
  have ha2 : a < (sh ++ [(.inl (.long, 500) : Sh)]).length := by rw [hl]; omega
  refine Sp.of (by decide) (Nat.le_of_ble_eq_true rfl) ?_
  show E mX7_init none _ 0 [some (.ref a)] [] sh h 0 0
  refine E_aload_n dX7_init_0 rfl ?_
  refine E_objInit dX7_init_1 oi_X7 oi_inst oi_code (by decide) (Nat.le_of_ble_eq_true rfl) ?_
  refine E_aload_n dX7_init_4 rfl ?_
  refine E_si 500 dX7_init_5 (by decide) ?_
  refine E_newa_l (N := 500) dX7_init_8 ar_long (by decide) rfl (by decide) (by decide) (by decide) (by simp [old, ha]) (by simp [old, ha]) ?_
  refine E_putF dX7_init_10 ff_X7_9 hs' rfl hx (Or.inr ⟨_, rfl⟩) ?_
  refine E_aload_n dX7_init_13 rfl ?_
  refine E_si 500 dX7_init_14 (by decide) ?_
  refine E_newa_l (N := 500) dX7_init_17 ar_long (by decide) rfl (by decide) (by decide) (by decide) (by intro v hv; rw [List.mem_singleton] at hv; rw [hv]; exact ha2) (by intro v hv; rw [List.mem_singleton] at hv; rw [Option.some.inj hv]; exact ha2) ?_
  rw [hl]
  refine E_putF dX7_init_19 ff_X7_15 hs2 rfl hx2 (Or.inr ⟨_, rfl⟩) ?_
  exact E_retv dX7_init_22 rfl (Nat.le_of_ble_eq_true rfl) (Nat.le_of_ble_eq_true rfl) ⟨rfl, rfl, rfl⟩
def msgH (h : Hp) : Hp := sI (sR (smH (clr (sR (rwH (clr h 44) 44 45) 43 0 (some 44)) 46) 46 47) 43 1 (some 46)) 43 2 (-2)
theorem i_Message {h : Hp} : Sp mX1_init [.ref 43] (SH.take 44) h (fun v sh' h' => v = none ∧ sh' = SH.take 49 ∧ h' = msgH h) := by
  refine Sp.of (by decide) (Nat.le_of_ble_eq_true rfl) ?_
  show E mX1_init none _ 0 [some (.ref 43)] [] (SH.take 44) h 0 0
  refine E_aload_n dX1_init_0 rfl ?_
  refine E_objInit dX1_init_1 oi_X1 oi_inst oi_code (by decide) (Nat.le_of_ble_eq_true rfl) ?_
  refine E_aload_n dX1_init_4 rfl ?_
  refine E_new dX1_init_5 nw_X1_9 (by decide) (by decide) (by rw [ln 44 (by decide)]; simp [old]) (by rw [ln 44 (by decide)]; simp [old]) ?_
  rw [ln 44 (by decide), tks (k := 44) (k' := 45) rfl rfl]
  refine E_dup rfl dX1_init_8 ?_
  refine E_bi 16 dX1_init_9 (by decide) ?_
  rw [show (16 : Int32) = nI 16 by decide]
  refine cI1 (N := mX3_init) dX1_init_11 cn_X3_init lk_X1_11 ⟨Nat.le_of_ble_eq_true rfl, Nat.le_of_ble_eq_true rfl⟩ (Nat.le_of_ble_eq_true rfl) ⟨by decide, by decide⟩ (by rw [ln 45 (by decide)]; simp [old]) (by rw [ln 45 (by decide)]; simp [old]) (i_Row (Or.inl rfl) rfl) (fun v2 sh2 h2 ⟨hv2, hs2, hh2⟩ => ?_)
  rw [hv2, hs2, hh2, ln 45 (by decide), tks (k := 45) (k' := 46) rfl rfl]
  refine E_putF dX1_init_14 ff_X1_14 rfl rfl (by decide) (Or.inl ⟨_, rfl⟩) ?_
  refine E_aload_n dX1_init_17 rfl ?_
  refine E_new dX1_init_18 nw_X1_20 (by decide) (by decide) (by rw [ln 46 (by decide)]; simp [old]) (by rw [ln 46 (by decide)]; simp [old]) ?_
  rw [ln 46 (by decide), tks (k := 46) (k' := 47) rfl rfl]
  refine E_dup rfl dX1_init_21 ?_
  refine cI0 (N := mX7_init) dX1_init_22 cn_X7_init lk_X1_22 ⟨Nat.le_of_ble_eq_true rfl, Nat.le_of_ble_eq_true rfl⟩ (Nat.le_of_ble_eq_true rfl) ⟨by decide, by decide⟩ (by rw [ln 47 (by decide)]; simp [old]) (by rw [ln 47 (by decide)]; simp [old]) (i_Sums rfl) (fun v3 sh3 h3 ⟨hv3, hs3, hh3⟩ => ?_)
  rw [hv3, hs3, hh3, ln 47 (by decide), tks (k := 47) (k' := 48) rfl rfl, tks (k := 48) (k' := 49) rfl rfl]
  refine E_putF dX1_init_25 ff_X1_23 rfl rfl (by decide) (Or.inl ⟨_, rfl⟩) ?_
  refine E_aload_n dX1_init_28 rfl ?_
  refine E_bi (-2) dX1_init_29 (by decide) ?_
  refine E_putI dX1_init_31 fl_X1_27 rfl rfl ?_
  exact E_retv dX1_init_34 rfl (Nat.le_of_ble_eq_true rfl) (Nat.le_of_ble_eq_true rfl) ⟨rfl, rfl, rfl⟩
def sndH (h : Hp) : Hp := sR (sR (smH (clr h 50) 50 51) 49 0 (some 50)) 49 1 (some 1)
theorem i_Sender {h : Hp} : Sp mX5_init [.ref 49, .ref 1] (SH.take 50) h (fun v sh' h' => v = none ∧ sh' = SH.take 53 ∧ h' = sndH h) := by
  refine Sp.of (by decide) (Nat.le_of_ble_eq_true rfl) ?_
  show E mX5_init none _ 0 [some (.ref 49), some (.ref 1)] [] (SH.take 50) h 0 0
  refine E_aload_n dX5_init_0 rfl ?_
  refine E_objInit dX5_init_1 oi_X5 oi_inst oi_code (by decide) (Nat.le_of_ble_eq_true rfl) ?_
  refine E_aload_n dX5_init_4 rfl ?_
  refine E_new dX5_init_5 nw_X5_9 (by decide) (by decide) (by rw [ln 50 (by decide)]; simp [old]) (by rw [ln 50 (by decide)]; simp [old]) ?_
  rw [ln 50 (by decide), tks (k := 50) (k' := 51) rfl rfl]
  refine E_dup rfl dX5_init_8 ?_
  refine cI0 (N := mX7_init) dX5_init_9 cn_X7_init lk_X5_11 ⟨Nat.le_of_ble_eq_true rfl, Nat.le_of_ble_eq_true rfl⟩ (Nat.le_of_ble_eq_true rfl) ⟨by decide, by decide⟩ (by rw [ln 51 (by decide)]; simp [old]) (by rw [ln 51 (by decide)]; simp [old]) (i_Sums rfl) (fun v3 sh3 h3 ⟨hv3, hs3, hh3⟩ => ?_)
  rw [hv3, hs3, hh3, ln 51 (by decide), tks (k := 51) (k' := 52) rfl rfl, tks (k := 52) (k' := 53) rfl rfl]
  refine E_putF dX5_init_12 ff_X5_12 rfl rfl (by decide) (Or.inl ⟨_, rfl⟩) ?_
  refine E_aload_n dX5_init_15 rfl ?_
  refine E_aload_n dX5_init_16 rfl ?_
  refine E_putR dX5_init_17 fl_X5_18 rfl rfl (by decide) ?_
  exact E_retv dX5_init_20 rfl (Nat.le_of_ble_eq_true rfl) (Nat.le_of_ble_eq_true rfl) ⟨rfl, rfl, rfl⟩
def rcvH (h : Hp) : Hp := sR (sI (sR (rwH (clr (sR (clr (sR (clr (sR (clr h 54) 53 0 (some 54)) 55) 53 1 (some 55)) 56) 53 2 (some 56)) 57) 57 58) 53 3 (some 57)) 53 9 (-2)) 53 4 (some 21)
theorem i_Receiver {h : Hp} : Sp mX2_init [.ref 53, .ref 21] (SH.take 54) h (fun v sh' h' => v = none ∧ sh' = SH.take 59 ∧ h' = rcvH h) := by
  refine Sp.of (by decide) (Nat.le_of_ble_eq_true rfl) ?_
  show E mX2_init none _ 0 [some (.ref 53), some (.ref 21)] [] (SH.take 54) h 0 0
  refine E_aload_n dX2_init_0 rfl ?_
  refine E_objInit dX2_init_1 oi_X2 oi_inst oi_code (by decide) (Nat.le_of_ble_eq_true rfl) ?_
  refine E_aload_n dX2_init_4 rfl ?_
  refine E_bi 16 dX2_init_5 (by decide) ?_
  refine E_newa_i (N := 16) dX2_init_7 ar_int (by decide) rfl (by decide) (by decide) (by decide) (by rw [ln 54 (by decide)]; simp [old]) (by rw [ln 54 (by decide)]; simp [old]) ?_
  rw [ln 54 (by decide), tks (k := 54) (k' := 55) rfl rfl]
  refine E_putF dX2_init_9 ff_X2_9 rfl rfl (by decide) (Or.inr ⟨_, rfl⟩) ?_
  refine E_aload_n dX2_init_12 rfl ?_
  refine E_bi 8 dX2_init_13 (by decide) ?_
  refine E_newa_z (N := 8) dX2_init_15 ar_boolean (by decide) rfl (by decide) (by decide) (by decide) (by rw [ln 55 (by decide)]; simp [old]) (by rw [ln 55 (by decide)]; simp [old]) ?_
  rw [ln 55 (by decide), tks (k := 55) (k' := 56) rfl rfl]
  refine E_putF dX2_init_17 ff_X2_15 rfl rfl (by decide) (Or.inr ⟨_, rfl⟩) ?_
  refine E_aload_n dX2_init_20 rfl ?_
  refine E_bi 8 dX2_init_21 (by decide) ?_
  refine E_newa_z (N := 8) dX2_init_23 ar_boolean (by decide) rfl (by decide) (by decide) (by decide) (by rw [ln 56 (by decide)]; simp [old]) (by rw [ln 56 (by decide)]; simp [old]) ?_
  rw [ln 56 (by decide), tks (k := 56) (k' := 57) rfl rfl]
  refine E_putF dX2_init_25 ff_X2_19 rfl rfl (by decide) (Or.inr ⟨_, rfl⟩) ?_
  refine E_aload_n dX2_init_28 rfl ?_
  refine E_new dX2_init_29 nw_X2_22 (by decide) (by decide) (by rw [ln 57 (by decide)]; simp [old]) (by rw [ln 57 (by decide)]; simp [old]) ?_
  rw [ln 57 (by decide), tks (k := 57) (k' := 58) rfl rfl]
  refine E_dup rfl dX2_init_32 ?_
  refine E_si 500 dX2_init_33 (by decide) ?_
  rw [show (500 : Int32) = nI 500 by decide]
  refine cI1 (N := mX3_init) dX2_init_36 cn_X3_init lk_X2_24 ⟨Nat.le_of_ble_eq_true rfl, Nat.le_of_ble_eq_true rfl⟩ (Nat.le_of_ble_eq_true rfl) ⟨by decide, by decide⟩ (by rw [ln 58 (by decide)]; simp [old]) (by rw [ln 58 (by decide)]; simp [old]) (i_Row (Or.inr rfl) rfl) (fun v2 sh2 h2 ⟨hv2, hs2, hh2⟩ => ?_)
  rw [hv2, hs2, hh2, ln 58 (by decide), tks (k := 58) (k' := 59) rfl rfl]
  refine E_putF dX2_init_39 ff_X2_27 rfl rfl (by decide) (Or.inl ⟨_, rfl⟩) ?_
  refine E_aload_n dX2_init_42 rfl ?_
  refine E_bi (-2) dX2_init_43 (by decide) ?_
  refine E_putI dX2_init_45 fl_X2_31 rfl rfl ?_
  refine E_aload_n dX2_init_48 rfl ?_
  refine E_aload_n dX2_init_49 rfl ?_
  refine E_putR dX2_init_50 fl_X2_35 rfl rfl (by decide) ?_
  exact E_retv dX2_init_53 rfl (Nat.le_of_ble_eq_true rfl) (Nat.le_of_ble_eq_true rfl) ⟨rfl, rfl, rfl⟩
def runH (h : Hp) : Hp := sR (rcvH (clr (sR (sndH (clr (sR (sR (sR (sI (sI (sR (msgH (clr h 43)) 42 5 (some 43)) 42 6 0) 42 14 (-2)) 42 0 (some 1)) 42 1 (some 21)) 42 2 (some 41)) 49)) 42 3 (some 49)) 53)) 42 4 (some 53)
theorem i_Run {h : Hp} : Sp mX4_init [.ref 42, .ref 1, .ref 21, .ref 41] (SH.take 43) h (fun v sh' h' => v = none ∧ sh' = SH.take 59 ∧ h' = runH h) := by
  refine Sp.of (by decide) (Nat.le_of_ble_eq_true rfl) ?_
  show E mX4_init none _ 0 [some (.ref 42), some (.ref 1), some (.ref 21), some (.ref 41)] [] (SH.take 43) h 0 0
  refine E_aload_n dX4_init_0 rfl ?_
  refine E_objInit dX4_init_1 oi_X4 oi_inst oi_code (by decide) (Nat.le_of_ble_eq_true rfl) ?_
  refine E_aload_n dX4_init_4 rfl ?_
  refine E_new dX4_init_5 nw_X4_9 (by decide) (by decide) (by rw [ln 43 (by decide)]; simp [old]) (by rw [ln 43 (by decide)]; simp [old]) ?_
  rw [ln 43 (by decide), tks (k := 43) (k' := 44) rfl rfl]
  refine E_dup rfl dX4_init_8 ?_
  refine cI0 (N := mX1_init) dX4_init_9 cn_X1_init lk_X4_11 ⟨Nat.le_of_ble_eq_true rfl, Nat.le_of_ble_eq_true rfl⟩ (Nat.le_of_ble_eq_true rfl) ⟨by decide, by decide⟩ (by rw [ln 44 (by decide)]; simp [old]) (by rw [ln 44 (by decide)]; simp [old]) i_Message (fun v2 sh2 h2 ⟨hv2, hs2, hh2⟩ => ?_)
  rw [hv2, hs2, hh2]
  refine E_putF dX4_init_12 ff_X4_12 rfl rfl (by decide) (Or.inl ⟨_, rfl⟩) ?_
  refine E_aload_n dX4_init_15 rfl ?_
  refine E_ic 0 dX4_init_16 (by decide) ?_
  refine E_putI dX4_init_17 fl_X4_18 rfl rfl ?_
  refine E_aload_n dX4_init_20 rfl ?_
  refine E_bi (-2) dX4_init_21 (by decide) ?_
  refine E_putI dX4_init_23 fl_X4_22 rfl rfl ?_
  refine E_aload_n dX4_init_26 rfl ?_
  refine E_aload_n dX4_init_27 rfl ?_
  refine E_putF dX4_init_28 ff_X4_25 rfl rfl (by decide) (Or.inl ⟨_, rfl⟩) ?_
  refine E_aload_n dX4_init_31 rfl ?_
  refine E_aload_n dX4_init_32 rfl ?_
  refine E_putF dX4_init_33 ff_X4_29 rfl rfl (by decide) (Or.inl ⟨_, rfl⟩) ?_
  refine E_aload_n dX4_init_36 rfl ?_
  refine E_aload_n dX4_init_37 rfl ?_
  refine E_putF dX4_init_38 ff_X4_32 rfl rfl (by decide) (Or.inl ⟨_, rfl⟩) ?_
  refine E_aload_n dX4_init_41 rfl ?_
  refine E_new dX4_init_42 nw_X4_36 (by decide) (by decide) (by rw [ln 49 (by decide)]; simp [old]) (by rw [ln 49 (by decide)]; simp [old]) ?_
  rw [ln 49 (by decide), tks (k := 49) (k' := 50) rfl rfl]
  refine E_dup rfl dX4_init_45 ?_
  refine E_aload_n dX4_init_46 rfl ?_
  refine cI1 (N := mX5_init) dX4_init_47 cn_X5_init lk_X4_38 ⟨Nat.le_of_ble_eq_true rfl, Nat.le_of_ble_eq_true rfl⟩ (Nat.le_of_ble_eq_true rfl) ⟨by decide, by decide⟩ (by rw [ln 50 (by decide)]; simp [old]) (by rw [ln 50 (by decide)]; simp [old]) i_Sender (fun v3 sh3 h3 ⟨hv3, hs3, hh3⟩ => ?_)
  rw [hv3, hs3, hh3]
  refine E_putF dX4_init_50 ff_X4_41 rfl rfl (by decide) (Or.inl ⟨_, rfl⟩) ?_
  refine E_aload_n dX4_init_53 rfl ?_
  refine E_new dX4_init_54 nw_X4_45 (by decide) (by decide) (by rw [ln 53 (by decide)]; simp [old]) (by rw [ln 53 (by decide)]; simp [old]) ?_
  rw [ln 53 (by decide), tks (k := 53) (k' := 54) rfl rfl]
  refine E_dup rfl dX4_init_57 ?_
  refine E_aload_n dX4_init_58 rfl ?_
  refine cI1 (N := mX2_init) dX4_init_59 cn_X2_init lk_X4_47 ⟨Nat.le_of_ble_eq_true rfl, Nat.le_of_ble_eq_true rfl⟩ (Nat.le_of_ble_eq_true rfl) ⟨by decide, by decide⟩ (by rw [ln 54 (by decide)]; simp [old]) (by rw [ln 54 (by decide)]; simp [old]) i_Receiver (fun v4 sh4 h4 ⟨hv4, hs4, hh4⟩ => ?_)
  rw [hv4, hs4, hh4]
  refine E_putF dX4_init_62 ff_X4_48 rfl rfl (by decide) (Or.inl ⟨_, rfl⟩) ?_
  exact E_retv dX4_init_65 rfl (Nat.le_of_ble_eq_true rfl) (Nat.le_of_ble_eq_true rfl) ⟨rfl, rfl, rfl⟩

