/-! what `new` makes: the system and the model -/
theorem Ow_msgH {h h1 : Hp} {lo : Nat} (F : Ow lo h h1) (hl : lo ≤ 43) : Ow lo h (msgH h1) := Ow_sI (Ow_sR (Ow_smH (Ow_clr (Ow_sR (Ow_rwH (Ow_clr F (by omega)) (by omega) (by omega)) (by omega)) (by omega)) (by omega) (by omega)) (by omega)) (by omega)
theorem Ow_sndH {h h1 : Hp} {lo : Nat} (F : Ow lo h h1) (hl : lo ≤ 49) : Ow lo h (sndH h1) := Ow_sR (Ow_sR (Ow_smH (Ow_clr F (by omega)) (by omega) (by omega)) (by omega)) (by omega)
theorem Ow_rcvH {h h1 : Hp} {lo : Nat} (F : Ow lo h h1) (hl : lo ≤ 53) : Ow lo h (rcvH h1) := Ow_sR (Ow_sI (Ow_sR (Ow_rwH (Ow_clr (Ow_sR (Ow_clr (Ow_sR (Ow_clr (Ow_sR (Ow_clr F (by omega)) (by omega)) (by omega)) (by omega)) (by omega)) (by omega)) (by omega)) (by omega) (by omega)) (by omega)) (by omega)) (by omega)
theorem Ow_runH {h h1 : Hp} {lo : Nat} (F : Ow lo h h1) (hl : lo ≤ 42) : Ow lo h (runH h1) := Ow_sR (Ow_rcvH (Ow_clr (Ow_sR (Ow_sndH (Ow_clr (Ow_sR (Ow_sR (Ow_sR (Ow_sI (Ow_sI (Ow_sR (Ow_msgH (Ow_clr F (by omega)) (by omega)) (by omega)) (by omega)) (by omega)) (by omega)) (by omega)) (by omega)) (by omega)) (by omega)) (by omega)) (by omega)) (by omega)) (by omega)
/-- cells of one stretch stay -/
def Ox (lo hi : Nat) (h h' : Hp) : Prop := ∀ x, lo ≤ x → x < hi → h'.1 x = h.1 x ∧ h'.2.1 x = h.2.1 x ∧ h'.2.2 x = h.2.2 x
theorem Ox.tr {lo hi : Nat} {h h1 h2 : Hp} (a : Ox lo hi h h1) (b : Ox lo hi h1 h2) : Ox lo hi h h2 := fun x p q => ⟨(b x p q).1.trans (a x p q).1, (b x p q).2.1.trans (a x p q).2.1, (b x p q).2.2.trans (a x p q).2.2⟩
theorem Ow.ox {lo hi l : Nat} {h h1 : Hp} (a : Ow hi h h1) (hl : l ≤ hi) : Ox lo l h h1 := fun x _ q => a x (by omega)
theorem Ox_sR {lo hi n k : Nat} {x : Option Nat} {h : Hp} (hn : n < lo) : Ox lo hi h (sR h n k x) := by
  intro y q _
  have ne : y ≠ n := by omega
  exact ⟨rfl, rfl, by funext j; simp [sR, u2, ne]⟩
theorem Ox_clr {lo hi n : Nat} {h : Hp} (hn : hi ≤ n) : Ox lo hi h (clr h n) := (Ow_clr (lo := hi) Ow.rf hn).ox (Nat.le_refl _)
theorem SP.ox {a : Nat} {h h1 h2 : Hp} (S : SP a 8 h h1) (O : Ox a (a + 20) h1 h2) : SP a 8 h2 h2 := by
  obtain ⟨⟨s1, s2, s3⟩, s4, s5, s6⟩ := S
  have oa := O a (by omega) (by omega)
  have ob := O (a + 1) (by omega) (by omega)
  refine ⟨⟨by rw [oa.2.2]; exact s1, by rw [oa.2.2]; exact s2, by rw [oa.2.2]; exact s3⟩, fun f hf => ?_, fun f => by rw [(O (a + 2) (by omega) (by omega)).1]; exact s5 f, Ow.rf⟩
  have oc := O (a + 4 + 2 * f) (by omega) (by omega)
  obtain ⟨t1, t2, t3⟩ := s4 f hf
  exact ⟨by rw [ob.2.2]; exact t1, by rw [oc.2.2]; exact t2, by rw [oc.1]; exact t3⟩
/-- the state at the start -/
def a0 : Ab := (fun k => if k = 8 ∨ k = 9 ∨ k = 19 then -2 else 0, fun _ => 0, fun k => if k = 3 ∨ k = 4 then [0, 0] else [], fun _ => mt, fun _ _ => false, fun _ => [])
def b0 : Ab := (fun _ => 0, fun _ => 0, fun _ => [], fun _ => mt, fun _ _ => false, fun _ => [])
theorem R0 : R a0 b0 := by
  refine ⟨⟨fun k hk => ?_, fun _ _ _ => rfl, fun k hk => ?_, rfl⟩, rfl, ⟨fun _ _ _ _ => Nat.zero_le _, Nat.zero_le _, Nat.zero_le _, Nat.zero_le _⟩, ⟨fun t ht => (nomatch ht), List.nodup_nil, Nat.zero_le _, rfl⟩, Or.inl rfl, ⟨0, rfl, by decide⟩, ⟨fun _ => rfl, fun z => absurd rfl z⟩, fun z => absurd (show (0 : Int32) = 1 from z) (by decide)⟩
  · have h8 : ¬ (k = 8 ∨ k = 9 ∨ k = 19) := by
      rintro (e | e | e) <;> rw [e] at hk <;> exact absurd hk (by decide)
    exact if_neg h8
  · have h3 : ¬ (k = 3 ∨ k = 4) := by
      rintro (e | e) <;> rw [e] at hk <;> exact absurd hk (by decide)
    exact if_neg h3
def topH (h : Hp) : Hp := sR (runH (clr (sR (clr (sR h 0 1 (some 21)) 41) 0 2 (some 41)) 42)) 0 3 (some 42)
theorem loc27 {P : Nat → Prop} (h0 : P 0) (h1 : P 1) (h2 : P 2) (h3 : P 3) (h4 : P 4) (h5 : P 5) (h6 : P 6) (h7 : P 7) (h8 : P 8) (h9 : P 9) (h10 : P 10) (h11 : P 11) (h12 : P 12) (h13 : P 13) (h14 : P 14) (h15 : P 15) (h16 : P 16) (h17 : P 17) (h18 : P 18) (h19 : P 19) (h20 : P 20) (h21 : P 21) (h22 : P 22) (h23 : P 23) (h24 : P 24) (h25 : P 25) (h26 : P 26) : ∀ k, k < 27 → P k := by
  intro k hk
  rcases (show k = 0 ∨ k = 1 ∨ k = 2 ∨ k = 3 ∨ k = 4 ∨ k = 5 ∨ k = 6 ∨ k = 7 ∨ k = 8 ∨ k = 9 ∨ k = 10 ∨ k = 11 ∨ k = 12 ∨ k = 13 ∨ k = 14 ∨ k = 15 ∨ k = 16 ∨ k = 17 ∨ k = 18 ∨ k = 19 ∨ k = 20 ∨ k = 21 ∨ k = 22 ∨ k = 23 ∨ k = 24 ∨ k = 25 ∨ k = 26 by omega) with rfl | rfl | rfl | rfl | rfl | rfl | rfl | rfl | rfl | rfl | rfl | rfl | rfl | rfl | rfl | rfl | rfl | rfl | rfl | rfl | rfl | rfl | rfl | rfl | rfl | rfl | rfl <;> assumption
theorem top_ints (h : Hp) : ∀ k, k < 27 → (topH h).1 (loc k).1 (loc k).2 = a0.1 k := loc27 rfl rfl rfl rfl rfl rfl rfl rfl rfl rfl rfl rfl rfl rfl rfl rfl rfl rfl rfl rfl rfl rfl rfl rfl rfl rfl rfl
theorem top_longs (h : Hp) : ∀ k, k < 4 → (topH h).2.1 (locL k).1 (locL k).2 = a0.2.1 k := by
  intro k hk
  rcases (show k = 0 ∨ k = 1 ∨ k = 2 ∨ k = 3 by omega) with rfl | rfl | rfl | rfl <;> rfl
theorem top_sums0 (h : Hp) : SumsR SH (topH h) 46 [] 0 0 := ⟨rfl, rfl, rfl, rfl, rfl, rfl, Nat.zero_le _, rfl, rfl, fun j hj => absurd hj (Nat.not_lt_zero j)⟩
theorem top_sums1 (h : Hp) : SumsR SH (topH h) 50 [] 0 0 := ⟨rfl, rfl, rfl, rfl, rfl, rfl, Nat.zero_le _, rfl, rfl, fun j hj => absurd hj (Nat.not_lt_zero j)⟩
theorem top_row0 (h : Hp) : RowL SH (topH h) 57 58 500 [] := ⟨rfl, rfl, rfl, rfl, Nat.zero_le _, Nat.le_refl _, fun j hj => absurd hj (Nat.not_lt_zero j)⟩
theorem top_row1 (h : Hp) : RowL SH (topH h) 44 45 16 [] := ⟨rfl, rfl, rfl, rfl, Nat.zero_le _, by decide, fun j hj => absurd hj (Nat.not_lt_zero j)⟩
theorem top_refs {h : Hp} (h0 : h.2.2 0 0 = some 1) : RefC (topH h).2.2 0 := ⟨h0, rfl, rfl, rfl, rfl, rfl, rfl, rfl, rfl, rfl, rfl, rfl, rfl, rfl, rfl, rfl, rfl, rfl, rfl⟩
theorem top_ox {h : Hp} {lo hi : Nat} (hl : 1 ≤ lo) (hh : hi ≤ 41) : Ox lo hi h (topH h) :=
  ((((Ox_sR (lo := lo) (hi := hi) (k := 1) (x := some 21) (h := h) (n := 0) (by omega)).tr (Ox_clr (by omega))).tr (Ox_sR (by omega))).tr ((Ow_runH (Ow_clr (lo := 41) Ow.rf (by decide)) (by decide)).ox (by omega))).tr (Ox_sR (by omega))
theorem top_rep {g1 g2 h1 h2 : Hp} (S1 : SP 1 8 g1 h1) (S2 : SP 21 8 g2 h2) (O : Ox 1 21 h1 h2) (h00 : h2.2.2 0 0 = some 1) {N1 N2 : Nat → Int64} (e1 : h1.2.1 4 = rfA mx 8 N1) (e2 : h2.2.1 24 = rfA mx 8 N2) : CRep a0 (topH h2) := by
  have O1 : Ox 1 21 h1 (topH h2) := O.tr (top_ox (by decide) (by decide))
  have O2 : Ox 21 41 h2 (topH h2) := top_ox (by decide) (by decide)
  have A1 : SideA SH (topH h2) 1 mt := (S1.ox O1).side (Or.inl rfl) (N0 := N1) ((O1 4 (by decide) (by decide)).2.1.trans e1)
  have A2 : SideA SH (topH h2) 21 mt := (S2.ox O2).side (Or.inr rfl) (N0 := N2) ((O2 24 (by decide) (by decide)).2.1.trans e2)
  exact ⟨top_ints h2, top_longs h2, top_refs h00, ⟨rfl, Nat.zero_le _, fun j hj => absurd hj (Nat.not_lt_zero j)⟩, fun _ _ => rfl, fun _ _ => rfl, ⟨top_row0 h2, fun x hx => nomatch hx⟩, ⟨top_row1 h2, fun x hx => nomatch hx⟩, A1, A2, ⟨0, 0, rfl, top_sums0 h2⟩, ⟨0, 0, rfl, top_sums1 h2⟩⟩
theorem i_Top {h : Hp} : Sp mX8_init [.ref 0] (SH.take 1) h (fun v sh' h' => v = none ∧ sh' = SH.take 59 ∧ CRep a0 h') := by
  refine Sp.of (by decide) (Nat.le_of_ble_eq_true rfl) ?_
  show E mX8_init none _ 0 [some (.ref 0)] [] (SH.take 1) h 0 0
  refine E_aload_n dX8_init_0 rfl ?_
  refine E_objInit dX8_init_1 oi_X8 oi_inst oi_code (by decide) (Nat.le_of_ble_eq_true rfl) ?_
  refine E_aload_n dX8_init_4 rfl ?_
  refine E_new dX8_init_5 nw_X8_9 (by decide) (by decide) (by rw [ln 1 (by decide)]; simp [old]) (by rw [ln 1 (by decide)]; simp [old]) ?_
  rw [ln 1 (by decide), tks (k := 1) (k' := 2) rfl rfl]
  refine E_dup rfl dX8_init_8 ?_
  refine cI0 (N := mX6_init) dX8_init_9 cn_X6_init lk_X8_11 ⟨Nat.le_of_ble_eq_true rfl, Nat.le_of_ble_eq_true rfl⟩ (Nat.le_of_ble_eq_true rfl) ⟨by decide, by decide⟩ (by rw [ln 2 (by decide)]; simp [old]) (by rw [ln 2 (by decide)]; simp [old]) (i_Side (a := 1) (Or.inl rfl)) (fun v1 sh1 h1 ⟨hv1, hs1, S1, N1, e1⟩ => ?_)
  rw [hv1, hs1, show 1 + 20 = 21 from rfl]
  refine E_putF dX8_init_12 ff_X8_12 rfl rfl (by decide) (Or.inl ⟨_, rfl⟩) ?_
  refine E_aload_n dX8_init_15 rfl ?_
  refine E_new dX8_init_16 nw_X8_9 (by decide) (by decide) (by rw [ln 21 (by decide)]; simp [old]) (by rw [ln 21 (by decide)]; simp [old]) ?_
  rw [ln 21 (by decide), tks (k := 21) (k' := 22) rfl rfl]
  refine E_dup rfl dX8_init_19 ?_
  refine cI0 (N := mX6_init) dX8_init_20 cn_X6_init lk_X8_11 ⟨Nat.le_of_ble_eq_true rfl, Nat.le_of_ble_eq_true rfl⟩ (Nat.le_of_ble_eq_true rfl) ⟨by decide, by decide⟩ (by rw [ln 22 (by decide)]; simp [old]) (by rw [ln 22 (by decide)]; simp [old]) (i_Side (a := 21) (Or.inr rfl)) (fun v2 sh2 h2 ⟨hv2, hs2, S2, N2, e2⟩ => ?_)
  rw [hv2, hs2, show 21 + 20 = 41 from rfl]
  have k00 : h2.2.2 0 0 = some 1 := by rw [(S2.2.2.2 0 (by decide)).2.2]; rfl
  have O : Ox 1 21 h1 h2 := ((Ox_sR (by decide)).tr (Ox_clr (by decide))).tr (S2.2.2.2.ox (Nat.le_refl _))
  refine E_putF dX8_init_23 ff_X8_16 rfl rfl (by decide) (Or.inl ⟨_, rfl⟩) ?_
  refine E_aload_n dX8_init_26 rfl ?_
  refine E_new dX8_init_27 nw_X8_19 (by decide) (by decide) (by rw [ln 41 (by decide)]; simp [old]) (by rw [ln 41 (by decide)]; simp [old]) ?_
  rw [ln 41 (by decide), tks (k := 41) (k' := 42) rfl rfl]
  refine E_dup rfl dX8_init_30 ?_
  refine cI0 (N := mX0_init) dX8_init_31 cn_X0_init lk_X8_21 ⟨Nat.le_of_ble_eq_true rfl, Nat.le_of_ble_eq_true rfl⟩ (Nat.le_of_ble_eq_true rfl) ⟨by decide, by decide⟩ (by rw [ln 42 (by decide)]; simp [old]) (by rw [ln 42 (by decide)]; simp [old]) i_Line (fun v3 sh3 h3 ⟨hv3, hs3, hh3⟩ => ?_)
  rw [hv3, hs3, hh3]
  refine E_putF dX8_init_34 ff_X8_22 rfl rfl (by decide) (Or.inl ⟨_, rfl⟩) ?_
  refine E_aload_n dX8_init_37 rfl ?_
  refine E_new dX8_init_38 nw_X8_26 (by decide) (by decide) (by rw [ln 42 (by decide)]; simp [old]) (by rw [ln 42 (by decide)]; simp [old]) ?_
  rw [ln 42 (by decide), tks (k := 42) (k' := 43) rfl rfl]
  refine E_dup rfl dX8_init_41 ?_
  refine E_aload_n dX8_init_42 rfl ?_
  refine E_getR dX8_init_43 fl_X8_12 rfl k00 rfl ?_
  refine E_aload_n dX8_init_46 rfl ?_
  refine E_getR dX8_init_47 fl_X8_16 rfl rfl rfl ?_
  refine E_aload_n dX8_init_50 rfl ?_
  refine E_getR dX8_init_51 fl_X8_22 rfl rfl rfl ?_
  refine cI3 (N := mX4_init) dX8_init_54 cn_X4_init lk_X8_28 ⟨Nat.le_of_ble_eq_true rfl, Nat.le_of_ble_eq_true rfl⟩ (Nat.le_of_ble_eq_true rfl) ⟨by decide, by decide⟩ (by rw [ln 43 (by decide)]; simp [old]) (by rw [ln 43 (by decide)]; simp [old]) i_Run (fun v4 sh4 h4 ⟨hv4, hs4, hh4⟩ => ?_)
  rw [hv4, hs4, hh4]
  refine E_putF dX8_init_57 ff_X8_31 rfl rfl (by decide) (Or.inl ⟨_, rfl⟩) ?_
  exact E_retv dX8_init_60 rfl (Nat.le_of_ble_eq_true rfl) (Nat.le_of_ble_eq_true rfl) ⟨rfl, rfl, top_rep S1 S2 O k00 e1 e2⟩
theorem CRep.ow {a : Ab} {h h' : Hp} (C : CRep a h) (F : Ow 59 h h') : CRep a h' := by
  have k1 : ∀ x, x < 59 → h'.1 x = h.1 x := fun x q => (F x q).1
  have k2 : ∀ x, x < 59 → h'.2.1 x = h.2.1 x := fun x q => (F x q).2.1
  have k3 : ∀ x, x < 59 → h'.2.2 x = h.2.2 x := fun x q => (F x q).2.2
  obtain ⟨c1, c2, c3, c4, c5, c6, c7, c8, c9, c10, c11, c12⟩ := C
  refine ⟨fun j hj => ?_, fun j hj => ?_, by unfold RefC; rw [k3 0 (by decide), k3 42 (by decide), k3 43 (by decide), k3 49 (by decide), k3 53 (by decide)]; exact c3, ⟨by rw [k1 53 (by decide)]; exact c4.1, c4.2.1, by rw [k1 54 (by decide)]; exact c4.2.2⟩, c5.off (k1 _ (by decide)), c6.off (k1 _ (by decide)), ⟨c7.1.keep (k1 _ (by decide)) (k1 _ (by decide)) (k3 _ (by decide)), c7.2⟩, ⟨c8.1.keep (k1 _ (by decide)) (k1 _ (by decide)) (k3 _ (by decide)), c8.2⟩, ⟨c9.1.off (fun b q1 q2 => k1 b (by omega)) (fun b _ _ => k3 b (by omega)), fun n q1 q2 => by rw [k2 _ (by decide)]; exact c9.2 n q1 q2⟩, ⟨c10.1.off (fun b q1 q2 => k1 b (by omega)) (fun b _ _ => k3 b (by omega)), fun n q1 q2 => by rw [k2 _ (by decide)]; exact c10.2 n q1 q2⟩, ?_, ?_⟩
  · rw [k1 _ (by have := loc_in j hj; omega)]; exact c1 j hj
  · rw [k2 _ (by have := locL_in j hj; omega)]; exact c2 j hj
  · obtain ⟨B, K, e, S⟩ := c11
    exact ⟨B, K, e, S.off (k1 _ (by decide)) (fun b _ _ => k2 b (by omega)) (k3 _ (by decide))⟩
  · obtain ⟨B, K, e, S⟩ := c12
    exact ⟨B, K, e, S.off (k1 _ (by decide)) (fun b _ _ => k2 b (by omega)) (k3 _ (by decide))⟩
/-- the model's arrays -/
def modH (h : Hp) : Hp := sR (clr (sR (clr (sR (clr (sR (clr (sR (clr (sR (clr (sR (clr (sR (clr (sR (clr (sR (clr (sR (clr (sR (clr (sR (clr (sR (clr (sR (clr (sR (clr h 60) 59 0 (some 60)) 61) 59 1 (some 61)) 62) 59 2 (some 62)) 63) 59 3 (some 63)) 64) 59 9 (some 64)) 65) 59 10 (some 65)) 66) 59 11 (some 66)) 67) 59 13 (some 67)) 68) 59 14 (some 68)) 69) 59 22 (some 69)) 70) 59 29 (some 70)) 71) 59 33 (some 71)) 72) 59 34 (some 72)) 73) 59 36 (some 73)) 74) 59 37 (some 74)) 75) 59 40 (some 75)
theorem Ow_modH (h : Hp) : Ow 59 h (modH h) := Ow_sR (Ow_clr (Ow_sR (Ow_clr (Ow_sR (Ow_clr (Ow_sR (Ow_clr (Ow_sR (Ow_clr (Ow_sR (Ow_clr (Ow_sR (Ow_clr (Ow_sR (Ow_clr (Ow_sR (Ow_clr (Ow_sR (Ow_clr (Ow_sR (Ow_clr (Ow_sR (Ow_clr (Ow_sR (Ow_clr (Ow_sR (Ow_clr (Ow_sR (Ow_clr (Ow_sR (Ow_clr Ow.rf (by decide)) (by decide)) (by decide)) (by decide)) (by decide)) (by decide)) (by decide)) (by decide)) (by decide)) (by decide)) (by decide)) (by decide)) (by decide)) (by decide)) (by decide)) (by decide)) (by decide)) (by decide)) (by decide)) (by decide)) (by decide)) (by decide)) (by decide)) (by decide)) (by decide)) (by decide)) (by decide)) (by decide)) (by decide)) (by decide)) (by decide)) (by decide)
theorem mod_ref (h : Hp) : RefM (modH h).2.2 := ⟨rfl, rfl, rfl, rfl, rfl, rfl, rfl, rfl, rfl, rfl, rfl, rfl, rfl, rfl, rfl, rfl⟩
theorem mod_59 (h : Hp) (j : Nat) : (modH h).1 59 j = h.1 59 j := rfl
theorem mod_59l (h : Hp) (j : Nat) : (modH h).2.1 59 j = h.2.1 59 j := rfl
theorem mod_64 (h : Hp) (j : Nat) : (modH h).1 64 j = 0 := rfl
theorem mod_65 (h : Hp) (j : Nat) : (modH h).2.1 65 j = 0 := rfl
theorem mod_67 (h : Hp) (j : Nat) : (modH h).1 67 j = 0 := rfl
theorem mod_68 (h : Hp) (j : Nat) : (modH h).1 68 j = 0 := rfl
theorem mod_rep {h h3 : Hp} (hz : ∀ j, h.1 59 j = 0) (hz2 : ∀ j, h.2.1 59 j = 0) (k2 : h3.2 = (modH h).2) (k1 : ∀ x, x ≠ 61 → h3.1 x = (modH h).1 x) (ks : ∀ j, j < 16 → h3.1 61 j = -2) : MRep b0 h3 := by
  have z59 : ∀ j, h3.1 59 j = 0 := fun j => by rw [k1 59 (by decide), mod_59]; exact hz j
  have seg : ∀ arr off, BSeg h3 arr off [] := fun arr off => ⟨fun x hx => (nomatch hx), fun j hj => absurd hj (Nat.not_lt_zero j)⟩
  refine ⟨fun k hk => ?_, fun k hk hk1 => ?_, by rw [k2]; exact mod_ref h, ⟨z59 12, Nat.zero_le _, fun j hj => absurd hj (Nat.not_lt_zero j)⟩, fun f hf => ?_, fun f hf => ?_, ⟨z59 23, Nat.zero_le _, seg _ _⟩, ⟨z59 30, Nat.zero_le _, seg _ _⟩, ⟨z59 41, Nat.zero_le _, fun j hj => absurd hj (Nat.not_lt_zero j)⟩, fun e he f hf => ⟨ks _ (by omega), Nat.zero_le _, seg _ _⟩, ⟨z59 35, Nat.zero_le _, fun j hj => absurd hj (Nat.not_lt_zero j)⟩, ⟨z59 38, Nat.zero_le _, fun j hj => absurd hj (Nat.not_lt_zero j)⟩⟩
  · show h3.1 (mloc k).1 (mloc k).2 = 0
    rcases mloc_in k hk with q | q
    · rw [q, k1 64 (by decide), mod_64]
    · rw [q.1]; exact z59 _
  · show h3.2.1 (mlocL k).1 (mlocL k).2 = 0
    rw [k2]
    rcases mlocL_in k hk with q | q
    · rw [q, mod_65]
    · rw [q, mod_59l]; exact hz2 _
  · rw [k1 67 (by decide), mod_67]; rfl
  · rw [k1 68 (by decide), mod_68]; rfl
theorem i_Model {h : Hp} (hz : ∀ j, h.1 59 j = 0) (hz2 : ∀ j, h.2.1 59 j = 0) : Sp mX9_init [.ref 59] (SH.take 60) h (fun v sh' h' => v = none ∧ sh' = SH.take 76 ∧ MRep b0 h' ∧ Ow 59 h h') := by
  refine Sp.of (by decide) (Nat.le_of_ble_eq_true rfl) ?_
  show E mX9_init none _ 0 [some (.ref 59), none] [] (SH.take 60) h 0 0
  have fin : ∀ h3 : Hp, h3.2 = (modH h).2 → (∀ x, x ≠ 61 → h3.1 x = (modH h).1 x) → (∀ j, j < 16 → h3.1 61 j = -2) → E mX9_init none (fun v sh' h' => v = none ∧ sh' = SH.take 76 ∧ MRep b0 h' ∧ Ow 59 h h') 139 [some (.ref 59), some (.int (nI 16))] [] (SH.take 76) h3 16 10622 := by
    intro h3 d2 d1 d0
    have O : Ow 59 h h3 := fun x hx => ⟨by rw [d1 x (by omega)]; exact (Ow_modH h x hx).1, by rw [d2]; exact (Ow_modH h x hx).2.1, by rw [d2]; exact (Ow_modH h x hx).2.2⟩
    refine E_iload_n dX9_init_139 rfl ?_
    refine E_bi 16 dX9_init_140 (by decide) ?_
    refine E_icmp_ge 159 dX9_init_142 (by decide) (fun c_142 => ?_) (fun c_142 => absurd (by decide) c_142)
    exact E_retv dX9_init_159 rfl (Nat.le_of_ble_eq_true rfl) (Nat.le_of_ble_eq_true rfl) ⟨rfl, rfl, mod_rep hz hz2 d2 d1 d0, O⟩
  have loop : ∀ (n i : Nat) (h3 : Hp), 16 - i ≤ n → i ≤ 16 → h3.2 = (modH h).2 → (∀ x, x ≠ 61 → h3.1 x = (modH h).1 x) → (∀ j, j < i → h3.1 61 j = -2) → E mX9_init none (fun v sh' h' => v = none ∧ sh' = SH.take 76 ∧ MRep b0 h' ∧ Ow 59 h h') 139 [some (.ref 59), some (.int (nI i))] [] (SH.take 76) h3 16 10622 := by
    intro n
    induction n with
    | zero =>
      intro i h3 hn hi d2 d1 d0
      have e : i = 16 := by omega
      subst e
      exact fin h3 d2 d1 d0
    | succ n ih =>
      intro i h3 hn hi d2 d1 d0
      by_cases e : i = 16
      · subst e
        exact fin h3 d2 d1 d0
      · have r1 : h3.2.2 59 1 = some 61 := by rw [d2]; rfl
        refine E_iload_n dX9_init_139 rfl ?_
        refine E_bi 16 dX9_init_140 (by decide) ?_
        refine E_icmp_ge 159 dX9_init_142 (by decide) (fun c_142 => absurd c_142 (by rw [show (16 : Int32) = nI 16 by decide]; exact nI_ge (by omega) (by omega))) (fun c_142 => ?_)
        refine E_aload_n dX9_init_145 rfl ?_
        refine E_getR dX9_init_146 fl_X9_13 rfl r1 rfl ?_
        refine E_iload_n dX9_init_149 rfl ?_
        refine E_bi (-2) dX9_init_150 (by decide) ?_
        refine E_iast dX9_init_152 rfl (vp_in_nI (by omega) (by omega)) ?_
        rw [nI_clamp (by omega)]
        refine E_iinc dX9_init_153 rfl (by decide) ?_
        refine E_goto 139 dX9_init_156 (by decide) ?_
        rw [nI_inc]
        refine ih (i + 1) _ (by omega) (by omega) d2 (fun x hx => ?_) (fun j hj => ?_)
        · rw [← d1 x hx]; funext j; simp [sI, u2, hx]
        · by_cases q : j = i
          · subst q; simp [sI, u2]
          · have z := d0 j (by omega)
            simp [sI, u2, q]
            exact z
  refine E_aload_n dX9_init_0 rfl ?_
  refine E_objInit dX9_init_1 oi_X9 oi_inst oi_code (by decide) (Nat.le_of_ble_eq_true rfl) ?_
  refine E_aload_n dX9_init_4 rfl ?_
  refine E_si 8000 dX9_init_5 (by decide) ?_
  refine E_newa_b (N := 8000) dX9_init_8 ar_byte (by decide) rfl (by decide) (by decide) (by decide) (by rw [ln 60 (by decide)]; simp [old]) (by rw [ln 60 (by decide)]; simp [old]) ?_
  rw [ln 60 (by decide), tks (k := 60) (k' := 61) rfl rfl]
  refine E_putF dX9_init_10 ff_X9_7 rfl rfl (by decide) (Or.inr ⟨_, rfl⟩) ?_
  refine E_aload_n dX9_init_13 rfl ?_
  refine E_bi 16 dX9_init_14 (by decide) ?_
  refine E_newa_i (N := 16) dX9_init_16 ar_int (by decide) rfl (by decide) (by decide) (by decide) (by rw [ln 61 (by decide)]; simp [old]) (by rw [ln 61 (by decide)]; simp [old]) ?_
  rw [ln 61 (by decide), tks (k := 61) (k' := 62) rfl rfl]
  refine E_putF dX9_init_18 ff_X9_13 rfl rfl (by decide) (Or.inr ⟨_, rfl⟩) ?_
  refine E_aload_n dX9_init_21 rfl ?_
  refine E_bi 16 dX9_init_22 (by decide) ?_
  refine E_newa_b (N := 16) dX9_init_24 ar_byte (by decide) rfl (by decide) (by decide) (by decide) (by rw [ln 62 (by decide)]; simp [old]) (by rw [ln 62 (by decide)]; simp [old]) ?_
  rw [ln 62 (by decide), tks (k := 62) (k' := 63) rfl rfl]
  refine E_putF dX9_init_26 ff_X9_17 rfl rfl (by decide) (Or.inr ⟨_, rfl⟩) ?_
  refine E_aload_n dX9_init_29 rfl ?_
  refine E_bi 16 dX9_init_30 (by decide) ?_
  refine E_newa_l (N := 16) dX9_init_32 ar_long (by decide) rfl (by decide) (by decide) (by decide) (by rw [ln 63 (by decide)]; simp [old]) (by rw [ln 63 (by decide)]; simp [old]) ?_
  rw [ln 63 (by decide), tks (k := 63) (k' := 64) rfl rfl]
  refine E_putF dX9_init_34 ff_X9_20 rfl rfl (by decide) (Or.inr ⟨_, rfl⟩) ?_
  refine E_aload_n dX9_init_37 rfl ?_
  refine E_bi 16 dX9_init_38 (by decide) ?_
  refine E_newa_i (N := 16) dX9_init_40 ar_int (by decide) rfl (by decide) (by decide) (by decide) (by rw [ln 64 (by decide)]; simp [old]) (by rw [ln 64 (by decide)]; simp [old]) ?_
  rw [ln 64 (by decide), tks (k := 64) (k' := 65) rfl rfl]
  refine E_putF dX9_init_42 ff_X9_24 rfl rfl (by decide) (Or.inr ⟨_, rfl⟩) ?_
  refine E_aload_n dX9_init_45 rfl ?_
  refine E_ic 2 dX9_init_46 (by decide) ?_
  refine E_newa_l (N := 2) dX9_init_47 ar_long (by decide) rfl (by decide) (by decide) (by decide) (by rw [ln 65 (by decide)]; simp [old]) (by rw [ln 65 (by decide)]; simp [old]) ?_
  rw [ln 65 (by decide), tks (k := 65) (k' := 66) rfl rfl]
  refine E_putF dX9_init_49 ff_X9_27 rfl rfl (by decide) (Or.inr ⟨_, rfl⟩) ?_
  refine E_aload_n dX9_init_52 rfl ?_
  refine E_bi 16 dX9_init_53 (by decide) ?_
  refine E_newa_i (N := 16) dX9_init_55 ar_int (by decide) rfl (by decide) (by decide) (by decide) (by rw [ln 66 (by decide)]; simp [old]) (by rw [ln 66 (by decide)]; simp [old]) ?_
  rw [ln 66 (by decide), tks (k := 66) (k' := 67) rfl rfl]
  refine E_putF dX9_init_57 ff_X9_30 rfl rfl (by decide) (Or.inr ⟨_, rfl⟩) ?_
  refine E_aload_n dX9_init_60 rfl ?_
  refine E_bi 8 dX9_init_61 (by decide) ?_
  refine E_newa_z (N := 8) dX9_init_63 ar_boolean (by decide) rfl (by decide) (by decide) (by decide) (by rw [ln 67 (by decide)]; simp [old]) (by rw [ln 67 (by decide)]; simp [old]) ?_
  rw [ln 67 (by decide), tks (k := 67) (k' := 68) rfl rfl]
  refine E_putF dX9_init_65 ff_X9_33 rfl rfl (by decide) (Or.inr ⟨_, rfl⟩) ?_
  refine E_aload_n dX9_init_68 rfl ?_
  refine E_bi 8 dX9_init_69 (by decide) ?_
  refine E_newa_z (N := 8) dX9_init_71 ar_boolean (by decide) rfl (by decide) (by decide) (by decide) (by rw [ln 68 (by decide)]; simp [old]) (by rw [ln 68 (by decide)]; simp [old]) ?_
  rw [ln 68 (by decide), tks (k := 68) (k' := 69) rfl rfl]
  refine E_putF dX9_init_73 ff_X9_37 rfl rfl (by decide) (Or.inr ⟨_, rfl⟩) ?_
  refine E_aload_n dX9_init_76 rfl ?_
  refine E_si 500 dX9_init_77 (by decide) ?_
  refine E_newa_b (N := 500) dX9_init_80 ar_byte (by decide) rfl (by decide) (by decide) (by decide) (by rw [ln 69 (by decide)]; simp [old]) (by rw [ln 69 (by decide)]; simp [old]) ?_
  rw [ln 69 (by decide), tks (k := 69) (k' := 70) rfl rfl]
  refine E_putF dX9_init_82 ff_X9_40 rfl rfl (by decide) (Or.inr ⟨_, rfl⟩) ?_
  refine E_aload_n dX9_init_85 rfl ?_
  refine E_bi 16 dX9_init_86 (by decide) ?_
  refine E_newa_b (N := 16) dX9_init_88 ar_byte (by decide) rfl (by decide) (by decide) (by decide) (by rw [ln 70 (by decide)]; simp [old]) (by rw [ln 70 (by decide)]; simp [old]) ?_
  rw [ln 70 (by decide), tks (k := 70) (k' := 71) rfl rfl]
  refine E_putF dX9_init_90 ff_X9_43 rfl rfl (by decide) (Or.inr ⟨_, rfl⟩) ?_
  refine E_aload_n dX9_init_93 rfl ?_
  refine E_si 500 dX9_init_94 (by decide) ?_
  refine E_newa_l (N := 500) dX9_init_97 ar_long (by decide) rfl (by decide) (by decide) (by decide) (by rw [ln 71 (by decide)]; simp [old]) (by rw [ln 71 (by decide)]; simp [old]) ?_
  rw [ln 71 (by decide), tks (k := 71) (k' := 72) rfl rfl]
  refine E_putF dX9_init_99 ff_X9_46 rfl rfl (by decide) (Or.inr ⟨_, rfl⟩) ?_
  refine E_aload_n dX9_init_102 rfl ?_
  refine E_si 500 dX9_init_103 (by decide) ?_
  refine E_newa_l (N := 500) dX9_init_106 ar_long (by decide) rfl (by decide) (by decide) (by decide) (by rw [ln 72 (by decide)]; simp [old]) (by rw [ln 72 (by decide)]; simp [old]) ?_
  rw [ln 72 (by decide), tks (k := 72) (k' := 73) rfl rfl]
  refine E_putF dX9_init_108 ff_X9_49 rfl rfl (by decide) (Or.inr ⟨_, rfl⟩) ?_
  refine E_aload_n dX9_init_111 rfl ?_
  refine E_si 500 dX9_init_112 (by decide) ?_
  refine E_newa_l (N := 500) dX9_init_115 ar_long (by decide) rfl (by decide) (by decide) (by decide) (by rw [ln 73 (by decide)]; simp [old]) (by rw [ln 73 (by decide)]; simp [old]) ?_
  rw [ln 73 (by decide), tks (k := 73) (k' := 74) rfl rfl]
  refine E_putF dX9_init_117 ff_X9_52 rfl rfl (by decide) (Or.inr ⟨_, rfl⟩) ?_
  refine E_aload_n dX9_init_120 rfl ?_
  refine E_si 500 dX9_init_121 (by decide) ?_
  refine E_newa_l (N := 500) dX9_init_124 ar_long (by decide) rfl (by decide) (by decide) (by decide) (by rw [ln 74 (by decide)]; simp [old]) (by rw [ln 74 (by decide)]; simp [old]) ?_
  rw [ln 74 (by decide), tks (k := 74) (k' := 75) rfl rfl]
  refine E_putF dX9_init_126 ff_X9_55 rfl rfl (by decide) (Or.inr ⟨_, rfl⟩) ?_
  refine E_aload_n dX9_init_129 rfl ?_
  refine E_bi 8 dX9_init_130 (by decide) ?_
  refine E_newa_i (N := 8) dX9_init_132 ar_int (by decide) rfl (by decide) (by decide) (by decide) (by rw [ln 75 (by decide)]; simp [old]) (by rw [ln 75 (by decide)]; simp [old]) ?_
  rw [ln 75 (by decide), tks (k := 75) (k' := 76) rfl rfl]
  refine E_putF dX9_init_134 ff_X9_58 rfl rfl (by decide) (Or.inr ⟨_, rfl⟩) ?_
  refine E_ic 0 dX9_init_137 (by decide) ?_
  refine E_istore_n dX9_init_138 (by decide) ?_
  exact loop 16 0 _ (by omega) (by omega) rfl (fun _ _ => rfl) (fun j hj => absurd hj (Nat.not_lt_zero j))

