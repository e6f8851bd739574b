/-! Side: the files change -/
def SideA (sh : List Sh) (h : Hp) (s : Nat) (F : FS) : Prop := SideR sh h s F ∧ SideN h s F
def setF (F : FS) (f : Nat) (o : Option (List Nat)) : FS := fun g => if g = f then o else F g
theorem setF_off {F : FS} {f : Nat} {o : Option (List Nat)} : ∀ g, g ≠ f → setF F f o g = F g := fun g hg => by simp [setF, hg]
theorem setF_at {F : FS} {f : Nat} {o : Option (List Nat)} : setF F f o f = o := by simp [setF]
/-- one row and its flag are new -/
theorem SideR.set {sh : List Sh} {h h1 h2 : Hp} {s f : Nat} {F : FS} {o : Option (List Nat)} (S : SideR sh h s F) (hf : f < 8) (F1 : RowF h h1 (rId s f) (cId s f)) (R1 : RowL sh h1 (rId s f) (cId s f) 500 (o.getD [])) (hB : ∀ xs, o = some xs → ∀ x ∈ xs, x < 256) (e : h2 = sI h1 (s + 2) f (if o.isSome then 1 else 0)) : SideR sh h2 s (setF F f o) := by
  subst e
  obtain ⟨⟨w1, w2, w3, w4, w5, w6, w7, w8⟩, hR, hP, hB0⟩ := S
  have e2 : h1.2.2 = h.2.2 := by rw [F1.1]
  refine ⟨⟨w1, by rw [← e2] at w2; exact w2, by rw [← e2] at w3; exact w3, by rw [← e2] at w4; exact w4, w5, w6, w7, fun g hg => by have := w8 g hg; rw [← e2] at this; exact this⟩, fun g hg => ?_, fun g hg => ?_, fun g xs hx => ?_⟩
  · by_cases e : g = f
    · subst e
      rw [setF_at]
      refine R1.keep ?_ ?_ rfl
      · funext j; simp [sI, u2, rId]; omega
      · funext j; simp [sI, u2, cId]; omega
    · rw [setF_off g e]
      refine (hR g hg).keep ?_ ?_ (by show h1.2.2 _ = _; rw [e2])
      · rw [← F1.2 (rId s g) (by unfold rId; omega) (by unfold rId cId; omega)]
        funext j; simp [sI, u2, rId]; omega
      · rw [← F1.2 (cId s g) (by unfold rId cId; omega) (by unfold cId; omega)]
        funext j; simp [sI, u2, cId]; omega
  · by_cases e : g = f
    · subst e
      rw [setF_at]
      simp [sI, u2]
    · rw [setF_off g e, ← hP g hg, ← F1.2 (s + 2) (by unfold rId; omega) (by unfold cId; omega)]
      simp [sI, u2, e]
  · by_cases e : g = f
    · subst e
      rw [setF_at] at hx
      exact hB xs hx
    · rw [setF_off g e] at hx
      exact hB0 g xs hx
theorem sI_side {h h1 : Hp} {s k : Nat} {x : Int32} (F1 : SideF h h1 s) : SideF h (sI h1 (s + 2) k x) s := by
  refine ⟨F1.1, fun a ha => ⟨?_, (F1.2 a ha).2⟩⟩
  rw [← (F1.2 a ha).1]
  funext j
  simp [sI, u2]
  omega
theorem SideA.fin {sh : List Sh} {h h2 h3 : Hp} {s : Nat} {G : FS} (S : SideR sh h2 s G) (F2 : SideF h h2 s) (N : SideN h3 s G) (e1 : h3.1 = h2.1) (e2 : h3.2.2 = h2.2.2) (e3 : ∀ a, a ≠ s + 3 → h3.2.1 a = h2.2.1 a) : SideA sh h3 s G ∧ SideF h h3 s := by
  refine ⟨⟨S.off (fun a _ _ => by rw [e1]) (fun a _ _ => by rw [e2]), N⟩, e2.trans F2.1, fun a ha => ⟨?_, ?_⟩⟩
  · rw [e1]; exact (F2.2 a ha).1
  · rw [e3 a (by omega)]; exact (F2.2 a ha).2
theorem SideN.keep {h h1 : Hp} {s : Nat} {F : FS} (N : SideN h s F) (e : h1.2.1 = h.2.1) : SideN h1 s F := fun n a b => by rw [e]; exact N n a b
theorem c_remove {sh : List Sh} {h : Hp} {s f : Nat} {F : FS} (S : SideA sh h s F) (hf : f < 8) : Sp0 mX6_remove [.ref s, .int (nI f)] sh h (fun v h' => v = none ∧ SideA sh h' s (setF F f none) ∧ SideF h h' s) := by
  have S0 := S.1
  have N0 := S.2
  have R := S0.2.1 f hf
  obtain ⟨⟨w1, w2, w3, w4, w5, w6, w7, w8⟩, hR, hP, hB⟩ := S.1
  have hcl : (nI f).toNatClampNeg = f := nI_clamp (by omega)
  refine Sp0.of (by decide) (Nat.le_of_ble_eq_true rfl) ?_
  show E mX6_remove none _ 0 [some (.ref s), some (.int (nI f))] [] sh h 0 0
  refine E_iload_n dX6_remove_0 rfl ?_
  refine cS1 (N := mX8_isFile) dX6_remove_1 cn_X8_isFile lk_X6_31 ⟨Nat.le_of_ble_eq_true rfl, Nat.le_of_ble_eq_true rfl⟩ (Nat.le_of_ble_eq_true rfl) ⟨rfl, rfl⟩ (c_isFile _) (fun v2 h2 ⟨hv2, hh2⟩ => ?_)
  rw [hv2, hh2]
  rw [if_pos (show 0 ≤ (nI f).toInt ∧ (nI f).toInt < 8 from isF_nI hf)]
  refine E_if_ne 8 dX6_remove_4 (by decide) (fun c_4 => ?_) (fun c_4 => absurd c_4 (by decide))
  refine E_aload_n dX6_remove_8 rfl ?_
  refine E_getR dX6_remove_9 fl_X6_11 (by first | assumption | rfl) (by assumption) rfl ?_
  refine E_iload_n dX6_remove_12 rfl ?_
  refine E_aald dX6_remove_13 (by first | assumption | rfl) (vp_in_nI hf (by omega)) (by rw [hcl]; exact w8 f hf) ?_
  refine E_ic 0 dX6_remove_14 (by decide) ?_
  rw [show (0 : Int32) = nI 0 by decide]
  refine cV1 (N := mX3_keep) dX6_remove_15 cn_X3_keep lk_X6_47 ⟨Nat.le_of_ble_eq_true rfl, Nat.le_of_ble_eq_true rfl⟩ R.1 rfl (Nat.le_of_ble_eq_true rfl) ⟨rfl, rfl⟩ (c_Row_keep R (by omega)) (fun v3 h3 ⟨hv3, R3, F3⟩ => ?_)
  rw [hv3]
  have e3 : h3.2.2 s 1 = some (s + 2) := by rw [F3.1]; exact w3
  refine E_aload_n dX6_remove_18 rfl ?_
  refine E_getR dX6_remove_19 fl_X6_17 (by first | assumption | rfl) (by assumption) rfl ?_
  refine E_iload_n dX6_remove_22 rfl ?_
  refine E_ic 0 dX6_remove_23 (by decide) ?_
  refine E_zast dX6_remove_24 (by first | assumption | rfl) (vp_in_nI hf (by omega)) ?_
  rw [hcl]
  have S4 := S0.set (o := none) hf F3 (by simpa using R3) (fun _ q => by cases q) rfl
  refine E_aload_n dX6_remove_25 rfl ?_
  refine E_iload_n dX6_remove_26 rfl ?_
  refine cV1 (N := mX6_refresh) dX6_remove_27 cn_X6_refresh lk_X6_28 ⟨Nat.le_of_ble_eq_true rfl, Nat.le_of_ble_eq_true rfl⟩ (by first | assumption | rfl) rfl (Nat.le_of_ble_eq_true rfl) ⟨rfl, rfl⟩ (c_refresh hf S4 (N0.keep (by show h3.2.1 = _; rw [F3.1])) setF_off) (fun v5 h5 ⟨hv5, N5, e51, e52, e53⟩ => ?_)
  rw [hv5]
  exact E_retv dX6_remove_30 rfl (Nat.le_of_ble_eq_true rfl) (Nat.le_of_ble_eq_true rfl) ⟨rfl, rfl, SideA.fin S4 (sI_side (F3.side hf)) N5 e51 e52 e53⟩
theorem c_replace {sh : List Sh} {h : Hp} {s f r2 c2 m2 : Nat} {F : FS} {ys : List Nat} (S : SideA sh h s F) (hf : f < 8) (Y : RowL sh h r2 c2 m2 ys) (n1 : r2 ≠ rId s f) (n2 : c2 ≠ cId s f) (hY : ∀ x ∈ ys, x < 256) : Sp0 mX6_replace [.ref s, .int (nI f), .ref r2] sh h (fun v h' => v = none ∧ SideA sh h' s (setF F f (some ys)) ∧ SideF h h' s) := by
  have S0 := S.1
  have N0 := S.2
  have R := S0.2.1 f hf
  have n3 : r2 ≠ cId s f := by
    intro e
    have h1 := Y.1
    rw [e, R.2.2.1] at h1
    cases h1
  have n4 : c2 ≠ rId s f := by
    intro e
    have h1 := R.1
    rw [← e, Y.2.2.1] at h1
    cases h1
  obtain ⟨⟨w1, w2, w3, w4, w5, w6, w7, w8⟩, hR, hP, hB⟩ := S.1
  have hcl : (nI f).toNatClampNeg = f := nI_clamp (by omega)
  refine Sp0.of (by decide) (Nat.le_of_ble_eq_true rfl) ?_
  show E mX6_replace none _ 0 [some (.ref s), some (.int (nI f)), some (.ref r2)] [] sh h 0 0
  refine E_iload_n dX6_replace_0 rfl ?_
  refine cS1 (N := mX8_isFile) dX6_replace_1 cn_X8_isFile lk_X6_31 ⟨Nat.le_of_ble_eq_true rfl, Nat.le_of_ble_eq_true rfl⟩ (Nat.le_of_ble_eq_true rfl) ⟨rfl, rfl⟩ (c_isFile _) (fun v2 h2 ⟨hv2, hh2⟩ => ?_)
  rw [hv2, hh2]
  rw [if_pos (show 0 ≤ (nI f).toInt ∧ (nI f).toInt < 8 from isF_nI hf)]
  refine E_if_ne 8 dX6_replace_4 (by decide) (fun c_4 => ?_) (fun c_4 => absurd c_4 (by decide))
  refine E_aload_n dX6_replace_8 rfl ?_
  refine E_getR dX6_replace_9 fl_X6_11 (by first | assumption | rfl) (by assumption) rfl ?_
  refine E_iload_n dX6_replace_12 rfl ?_
  refine E_aald dX6_replace_13 (by first | assumption | rfl) (vp_in_nI hf (by omega)) (by rw [hcl]; exact w8 f hf) ?_
  refine E_ic 0 dX6_replace_14 (by decide) ?_
  rw [show (0 : Int32) = nI 0 by decide]
  refine cV1 (N := mX3_keep) dX6_replace_15 cn_X3_keep lk_X6_47 ⟨Nat.le_of_ble_eq_true rfl, Nat.le_of_ble_eq_true rfl⟩ R.1 rfl (Nat.le_of_ble_eq_true rfl) ⟨rfl, rfl⟩ (c_Row_keep R (by omega)) (fun v3 h3 ⟨hv3, R3, F3⟩ => ?_)
  rw [hv3]
  have e3 : h3.2.2 = h.2.2 := by rw [F3.1]
  have w2' : h3.2.2 s 0 = some (s + 1) := by rw [e3]; exact w2
  refine E_aload_n dX6_replace_18 rfl ?_
  refine E_getR dX6_replace_19 fl_X6_11 (by first | assumption | rfl) (by assumption) rfl ?_
  refine E_iload_n dX6_replace_22 rfl ?_
  refine E_aald dX6_replace_23 (by first | assumption | rfl) (vp_in_nI hf (by omega)) (by rw [hcl, e3]; exact w8 f hf) ?_
  refine E_aload_n dX6_replace_24 rfl ?_
  refine cV1 (N := mX3_addAll) dX6_replace_25 cn_X3_addAll lk_X6_50 ⟨Nat.le_of_ble_eq_true rfl, Nat.le_of_ble_eq_true rfl⟩ R.1 rfl (Nat.le_of_ble_eq_true rfl) ⟨rfl, rfl⟩ (c_Row_addAll R3 (Y.other F3 n1 n3 n4 n2) n1 n2) (fun v4 h4 ⟨hv4, R4, F4⟩ => ?_)
  rw [hv4]
  have e4 : h4.2.2 = h.2.2 := by rw [F4.1]; exact e3
  have w3' : h4.2.2 s 1 = some (s + 2) := by rw [e4]; exact w3
  refine E_aload_n dX6_replace_28 rfl ?_
  refine E_getR dX6_replace_29 fl_X6_17 (by first | assumption | rfl) (by assumption) rfl ?_
  refine E_iload_n dX6_replace_32 rfl ?_
  refine E_ic 1 dX6_replace_33 (by decide) ?_
  refine E_zast dX6_replace_34 (by first | assumption | rfl) (vp_in_nI hf (by omega)) ?_
  rw [hcl]
  have S5 := S0.set (o := some ys) hf (F3.tr F4) (by have hm := Y.2.2.2.2.1; have hm5 := Y.2.2.2.2.2.1; rw [List.take_zero, List.nil_append, List.take_of_length_le (by omega)] at R4; exact R4) (fun xs q => by cases q; exact hY) rfl
  refine E_aload_n dX6_replace_35 rfl ?_
  refine E_iload_n dX6_replace_36 rfl ?_
  refine cV1 (N := mX6_refresh) dX6_replace_37 cn_X6_refresh lk_X6_28 ⟨Nat.le_of_ble_eq_true rfl, Nat.le_of_ble_eq_true rfl⟩ (by first | assumption | rfl) rfl (Nat.le_of_ble_eq_true rfl) ⟨rfl, rfl⟩ (c_refresh hf S5 (N0.keep (by show h4.2.1 = _; rw [F4.1, F3.1])) setF_off) (fun v5 h5 ⟨hv5, N5, e51, e52, e53⟩ => ?_)
  rw [hv5]
  exact E_retv dX6_replace_40 rfl (Nat.le_of_ble_eq_true rfl) (Nat.le_of_ble_eq_true rfl) ⟨rfl, rfl, SideA.fin S5 (sI_side ((F3.tr F4).side hf)) N5 e51 e52 e53⟩
/-- the lowest k bytes of a number, the highest of them first -/
def lowB (x : Int64) (k : Nat) : List Nat := (List.range k).map (fun i => x.toBitVec.toNat / 2 ^ (8 * (k - 1 - i)) % 256)
theorem lowB_lt (x : Int64) (k : Nat) : ∀ y ∈ lowB x k, y < 256 := by
  intro y hy
  obtain ⟨i, -, rfl⟩ := List.mem_map.mp hy
  exact Nat.mod_lt _ (by decide)
theorem lowB_at (x : Int64) {k i : Nat} (h : i < k) : (lowB x k).getD i 0 = x.toBitVec.toNat / 2 ^ (8 * (k - 1 - i)) % 256 := by simp [lowB, List.getD, h]
theorem lowB_len (x : Int64) (k : Nat) : (lowB x k).length = k := by simp [lowB]
theorem sh_l (x : Int64) {t : Nat} (h : t < 64) : ((x.toUInt64 >>> ((nI t).toInt64.toUInt64 &&& Int64.toUInt64 63)).toInt64.toInt32 &&& 255) = nI (x.toBitVec.toNat / 2 ^ t % 256) := by
  obtain ⟨n, hn, rfl⟩ := wb_of x
  rw [wb_shr hn h, lN_i, wb_tn hn]
  have e := pk_and (nI (n / 2 ^ t)) (m := 255) 8 (by decide)
  rw [e]
  congr 1
  have e2 : (nI (n / 2 ^ t)).toBitVec.toNat = n / 2 ^ t % 2 ^ 32 := by
    show (BitVec.ofNat 32 (n / 2 ^ t)).toNat = _
    exact BitVec.toNat_ofNat _ _
  rw [e2]
  omega
def putL (xs : List Nat) (a : Nat) (bs : List Nat) : List Nat := xs.take a ++ bs ++ xs.drop (a + bs.length)
theorem putL_step {xs bs : List Nat} {a i : Nat} (ha : a ≤ xs.length) (hi : i < bs.length) (hm : a + bs.length ≤ 500) : rset (putL xs a (bs.take i)) (a + i) (bs.getD i 0) 500 = putL xs a (bs.take (i + 1)) := by
  have hl : (bs.take i).length = i := by simp; omega
  have hl2 : (bs.take (i + 1)).length = i + 1 := by simp; omega
  have hlen : (putL xs a (bs.take i)).length = a + i + (xs.length - (a + i)) := by simp [putL]; omega
  unfold rset
  by_cases hx : a + i < xs.length
  · rw [if_pos (by omega)]
    unfold putL
    rw [hl, hl2, take_s hi]
    have e1 : xs.drop (a + i) = xs[a + i] :: xs.drop (a + (i + 1)) := by rw [List.drop_eq_getElem_cons hx]; rfl
    rw [e1, List.set_append_right _ _ (by simp; omega)]
    have e2 : a + i - (xs.take a ++ bs.take i).length = 0 := by simp; omega
    rw [e2]
    simp
  · rw [if_neg (by omega), if_pos (by omega)]
    unfold putL
    rw [hl, hl2, take_s hi, List.drop_of_length_le (by omega), List.drop_of_length_le (by omega)]
    simp
theorem putL_lt {xs bs : List Nat} {a : Nat} (h1 : ∀ x ∈ xs, x < 256) (h2 : ∀ x ∈ bs, x < 256) : ∀ x ∈ putL xs a bs, x < 256 := by
  intro x hx
  unfold putL at hx
  rcases List.mem_append.mp hx with q | q
  · rcases List.mem_append.mp q with q | q
    · exact h1 x (List.mem_of_mem_take q)
    · exact h2 x q
  · exact h1 x (List.mem_of_mem_drop q)
theorem c_put {sh : List Sh} {h : Hp} {s f a k : Nat} {F : FS} {x : Int64} (S : SideA sh h s F) (hf : f < 8) (ha : a ≤ ((F f).getD []).length) (hk : k ≤ 8) (hak : a + k ≤ 500) : Sp0 mX6_put [.ref s, .int (nI f), .int (nI a), .long x, .int (nI k)] sh h (fun v h' => v = none ∧ SideA sh h' s (setF F f (some (putL ((F f).getD []) a (lowB x k)))) ∧ SideF h h' s) := by
  have S0 := S.1
  have N0 := S.2
  have R := S0.2.1 f hf
  have hXB : ∀ y ∈ (F f).getD [], y < 256 := by
    intro y hy
    cases hx : F f with
    | none => rw [hx] at hy; cases hy
    | some xs => rw [hx] at hy; exact S0.2.2.2 f xs hx y hy
  generalize (F f).getD [] = xs at ha R hXB ⊢
  obtain ⟨⟨w1, w2, w3, w4, w5, w6, w7, w8⟩, hR, hP, hB⟩ := S.1
  have hcl : (nI f).toNatClampNeg = f := nI_clamp (by omega)
  refine Sp0.of (by decide) (Nat.le_of_ble_eq_true rfl) ?_
  show E mX6_put none _ 0 [some (.ref s), some (.int (nI f)), some (.int (nI a)), some (.long x), none, some (.int (nI k)), none] [] sh h 0 0
  have tail : ∀ h3 : Hp, RowL sh h3 (rId s f) (cId s f) 500 (putL xs a (lowB x k)) → RowF h h3 (rId s f) (cId s f) → E mX6_put none (fun v sh' h' => sh' = sh ∧ v = none ∧ SideA sh h' s (setF F f (some (putL xs a (lowB x k)))) ∧ SideF h h' s) 54 [some (.ref s), some (.int (nI f)), some (.int (nI a)), some (.long x), none, some (.int (nI k)), some (.int (nI k))] [] sh h3 0 0 := by
    intro h3 R3 F3
    have w3' : h3.2.2 s 1 = some (s + 2) := by rw [F3.1]; exact w3
    refine E_aload_n dX6_put_54 rfl ?_
    refine E_getR dX6_put_55 fl_X6_17 (by first | assumption | rfl) (by assumption) rfl ?_
    refine E_iload_n dX6_put_58 rfl ?_
    refine E_ic 1 dX6_put_59 (by decide) ?_
    refine E_zast dX6_put_60 (by first | assumption | rfl) (vp_in_nI hf (by omega)) ?_
    rw [hcl]
    have S5 := S0.set (o := some (putL xs a (lowB x k))) hf F3 R3 (fun zs q => by cases q; exact putL_lt hXB (lowB_lt x k)) rfl
    refine E_aload_n dX6_put_61 rfl ?_
    refine E_iload_n dX6_put_62 rfl ?_
    refine cV1 (N := mX6_refresh) dX6_put_63 cn_X6_refresh lk_X6_28 ⟨Nat.le_of_ble_eq_true rfl, Nat.le_of_ble_eq_true rfl⟩ (by first | assumption | rfl) rfl (Nat.le_of_ble_eq_true rfl) ⟨rfl, rfl⟩ (c_refresh hf S5 (N0.keep (by show h3.2.1 = _; rw [F3.1])) setF_off) (fun v5 h5 ⟨hv5, N5, e51, e52, e53⟩ => ?_)
    rw [hv5]
    exact E_retv dX6_put_66 rfl (Nat.le_of_ble_eq_true rfl) (Nat.le_of_ble_eq_true rfl) ⟨rfl, rfl, SideA.fin S5 (sI_side (F3.side hf)) N5 e51 e52 e53⟩
  have loop : ∀ (n t : Nat) (h3 : Hp), k - t ≤ n → t ≤ k → RowL sh h3 (rId s f) (cId s f) 500 (putL xs a ((lowB x k).take t)) → RowF h h3 (rId s f) (cId s f) → E mX6_put none (fun v sh' h' => sh' = sh ∧ v = none ∧ SideA sh h' s (setF F f (some (putL xs a (lowB x k)))) ∧ SideF h h' s) 11 [some (.ref s), some (.int (nI f)), some (.int (nI a)), some (.long x), none, some (.int (nI k)), some (.int (nI t))] [] sh h3 0 0 := by
    intro n
    induction n with
    | zero =>
      intro t h3 h1 h2 R3 F3
      have e : t = k := by omega
      subst e
      refine E_iload dX6_put_11 rfl ?_
      refine E_iload dX6_put_13 rfl ?_
      refine E_icmp_ge 54 dX6_put_15 (by decide) (fun c_15 => ?_) (fun c_15 => absurd (nI_le (by omega) (by omega)) c_15)
      exact tail h3 (by rw [List.take_of_length_le (by rw [lowB_len]; omega)] at R3; exact R3) F3
    | succ n ih =>
      intro t h3 h1 h2 R3 F3
      by_cases e : t = k
      · subst e
        refine E_iload dX6_put_11 rfl ?_
        refine E_iload dX6_put_13 rfl ?_
        refine E_icmp_ge 54 dX6_put_15 (by decide) (fun c_15 => ?_) (fun c_15 => absurd (nI_le (by omega) (by omega)) c_15)
        exact tail h3 (by rw [List.take_of_length_le (by rw [lowB_len]; omega)] at R3; exact R3) F3
      · have w2' : h3.2.2 s 0 = some (s + 1) := by rw [F3.1]; exact w2
        have hlen : a + t ≤ (putL xs a ((lowB x k).take t)).length := by simp [putL, lowB_len]; omega
        refine E_iload dX6_put_11 rfl ?_
        refine E_iload dX6_put_13 rfl ?_
        refine E_icmp_ge 54 dX6_put_15 (by decide) (fun c_15 => absurd c_15 (nI_ge (by omega) (by omega))) (fun c_15 => ?_)
        refine E_aload_n dX6_put_18 rfl ?_
        refine E_getR dX6_put_19 fl_X6_11 (by first | assumption | rfl) (by assumption) rfl ?_
        refine E_iload_n dX6_put_22 rfl ?_
        refine E_aald dX6_put_23 (by first | assumption | rfl) (vp_in_nI hf (by omega)) (by rw [hcl, F3.1]; exact w8 f hf) ?_
        refine E_iload_n dX6_put_24 rfl ?_
        refine E_iload dX6_put_25 rfl ?_
        refine E_iadd dX6_put_27 ?_
        refine E_lload_n dX6_put_28 rfl ?_
        refine E_bi 8 dX6_put_29 (by decide) ?_
        refine E_iload dX6_put_31 rfl ?_
        refine E_ic 1 dX6_put_33 (by decide) ?_
        refine E_isub dX6_put_34 ?_
        refine E_iload dX6_put_35 rfl ?_
        refine E_isub dX6_put_37 ?_
        refine E_imul dX6_put_38 ?_
        refine E_lushr dX6_put_39 ?_
        refine E_l2i dX6_put_40 ?_
        refine E_si 255 dX6_put_41 (by decide) ?_
        refine E_iand dX6_put_44 ?_
        rw [nI_add, show (8 : Int32) = nI 8 by decide, show (1 : Int32) = nI 1 by decide, pk_sub (by omega), pk_sub (by omega), pk_mul, sh_l x (by omega), ← lowB_at x (by omega)]
        refine cV2 (N := mX3_set) dX6_put_45 cn_X3_set lk_X6_43 ⟨Nat.le_of_ble_eq_true rfl, Nat.le_of_ble_eq_true rfl⟩ R3.1 rfl (Nat.le_of_ble_eq_true rfl) ⟨rfl, rfl⟩ (c_Row_set R3 hlen) (fun v4 h4 ⟨hv4, R4, F4⟩ => ?_)
        rw [hv4]
        refine E_iinc dX6_put_48 rfl (by decide) ?_
        refine E_goto 11 dX6_put_51 (by decide) ?_
        rw [nI_inc]
        rw [putL_step ha (by rw [lowB_len]; omega) (by rw [lowB_len]; omega)] at R4
        exact ih (t + 1) h4 (by omega) (by omega) R4 (F3.tr F4)
  refine E_iload_n dX6_put_0 rfl ?_
  refine cS1 (N := mX8_isFile) dX6_put_1 cn_X8_isFile lk_X6_31 ⟨Nat.le_of_ble_eq_true rfl, Nat.le_of_ble_eq_true rfl⟩ (Nat.le_of_ble_eq_true rfl) ⟨rfl, rfl⟩ (c_isFile _) (fun v2 h2 ⟨hv2, hh2⟩ => ?_)
  rw [hv2, hh2]
  rw [if_pos (show 0 ≤ (nI f).toInt ∧ (nI f).toInt < 8 from isF_nI hf)]
  refine E_if_ne 8 dX6_put_4 (by decide) (fun c_4 => ?_) (fun c_4 => absurd c_4 (by decide))
  refine E_ic 0 dX6_put_8 (by decide) ?_
  refine E_istore dX6_put_9 (by decide) ?_
  exact loop k 0 h (by omega) (by omega) (by simpa [putL] using R) RowF.rf

