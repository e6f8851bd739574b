/-! RollingSync$Row: bytes in a row, as a list -/
theorem Out_refl {P : Nat → Prop} {h : Hp} : ∀ a, ¬ P a → h.1 a = h.1 a := fun _ _ => rfl
def RowL (sh : List Sh) (h : Hp) (r c m : Nat) (xs : List Nat) : Prop := sh[r]? = some (.inr 3) ∧ h.2.2 r 0 = some c ∧ sh[c]? = some (.inl (.int, m)) ∧ h.1 r 1 = nI xs.length ∧ xs.length ≤ m ∧ m ≤ 500 ∧ ∀ j, j < xs.length → h.1 c j = nI (xs.getD j 0)
theorem RowL.ne {sh : List Sh} {h : Hp} {r c m : Nat} {xs : List Nat} (R : RowL sh h r c m xs) : r ≠ c := by
  intro e
  have h1 := R.1
  rw [e, R.2.2.1] at h1
  cases h1
/-- what a row's methods leave alone -/
def RowF (h h' : Hp) (r c : Nat) : Prop := h'.2 = h.2 ∧ ∀ a, a ≠ r → a ≠ c → h'.1 a = h.1 a
theorem RowF.rf {h : Hp} {r c : Nat} : RowF h h r c := ⟨rfl, fun _ _ _ => rfl⟩
theorem RowF.tr {h h1 h2 : Hp} {r c : Nat} (a : RowF h h1 r c) (b : RowF h1 h2 r c) : RowF h h2 r c := ⟨b.1.trans a.1, fun x p q => (b.2 x p q).trans (a.2 x p q)⟩
theorem RowL.keep {sh : List Sh} {h h' : Hp} {r c m : Nat} {xs : List Nat} (R : RowL sh h r c m xs) (h1 : h'.1 r = h.1 r) (h2 : h'.1 c = h.1 c) (h3 : h'.2.2 r = h.2.2 r) : RowL sh h' r c m xs := by
  obtain ⟨a1, a2, a3, a4, a5, a6, a7⟩ := R
  exact ⟨a1, by rw [h3]; exact a2, a3, by rw [h1]; exact a4, a5, a6, fun j hj => by rw [h2]; exact a7 j hj⟩
theorem RowL.other {sh : List Sh} {h h' : Hp} {r c m r2 c2 : Nat} {xs : List Nat} (R : RowL sh h r c m xs) (F : RowF h h' r2 c2) (n1 : r ≠ r2) (n2 : r ≠ c2) (n3 : c ≠ r2) (n4 : c ≠ c2) : RowL sh h' r c m xs := R.keep (F.2 r n1 n2) (F.2 c n3 n4) (by rw [F.1])
theorem i_lt {x y : Int32} : x < y ↔ x.toInt < y.toInt := Int32.lt_iff_toInt_lt
theorem i_le {x y : Int32} : x ≤ y ↔ x.toInt ≤ y.toInt := Int32.le_iff_toInt_le
theorem i_0 : (0 : Int32).toInt = 0 := by decide
theorem cl_toInt {x : Int32} (h : ¬ x < 0) : (x.toNatClampNeg : Int) = x.toInt := by
  obtain ⟨j, hj, rfl⟩ := nI_of h
  rw [nI_clamp hj, nI_toInt hj]
theorem in_of {x : Int32} {n : Nat} (h0 : ¬ x < 0) (h1 : x.toInt < n) : vp_in x n := by
  intro h
  rcases h with h | h
  · exact h0 h
  · have := cl_toInt h0
    omega
theorem nI_inc (i : Nat) : nI i + Int32.ofInt 1 = nI (i + 1) := nI_1 i
def gI (xs : List Nat) (i : Int32) : Int32 := if 0 ≤ i.toInt ∧ i.toInt < xs.length then nI (xs.getD i.toNatClampNeg 0) else -1
def rset (xs : List Nat) (j b m : Nat) : List Nat := if j < xs.length then xs.set j b else if j < m then xs ++ [b] else xs
theorem c_Row_count {sh : List Sh} {h : Hp} {r : Nat} (hr : sh[r]? = some (.inr 3)) : Sp0 mX3_count [.ref r] sh h (fun v h' => v = some (.int (h.1 r 1)) ∧ h' = h) := by
  refine Sp0.of (by decide) (Nat.le_of_ble_eq_true rfl) ?_
  show E mX3_count none _ 0 [some (.ref r)] [] sh h 0 0
  refine E_aload_n dX3_count_0 rfl ?_
  refine E_getI dX3_count_1 fl_X3_21 (by first | assumption | rfl) rfl ?_
  exact E_reti dX3_count_4 rfl rfl (Nat.le_of_ble_eq_true rfl) (Nat.le_of_ble_eq_true rfl) ⟨rfl, rfl, rfl⟩
theorem c_Row_get {sh : List Sh} {h : Hp} {r c m : Nat} {xs : List Nat} (R : RowL sh h r c m xs) (i : Int32) : Sp0 mX3_get [.ref r, .int i] sh h (fun v h' => v = some (.int (gI xs i)) ∧ h' = h) := by
  obtain ⟨hr, hc, hs, hn, hm, hm5, hx⟩ := R
  have hL : (nI xs.length).toInt = xs.length := nI_toInt (by omega)
  refine Sp0.of (by decide) (Nat.le_of_ble_eq_true rfl) ?_
  show E mX3_get none _ 0 [some (.ref r), some (.int i)] [] sh h 0 0
  refine E_iload_n dX3_get_0 rfl ?_
  refine E_if_lt 21 dX3_get_1 (by decide) (fun c_1 => ?_) (fun c_1 => ?_)
  · refine E_ic (-1) dX3_get_21 (by decide) ?_
    exact E_reti dX3_get_22 rfl rfl (Nat.le_of_ble_eq_true rfl) (Nat.le_of_ble_eq_true rfl) ⟨rfl, by rw [gI, if_neg (by rw [i_lt, i_0] at c_1; omega)], rfl⟩
  · refine E_iload_n dX3_get_4 rfl ?_
    refine E_aload_n dX3_get_5 rfl ?_
    refine E_getI dX3_get_6 fl_X3_21 (by first | assumption | rfl) rfl ?_
    refine E_icmp_ge 21 dX3_get_9 (by decide) (fun c_9 => ?_) (fun c_9 => ?_)
    · refine E_ic (-1) dX3_get_21 (by decide) ?_
      exact E_reti dX3_get_22 rfl rfl (Nat.le_of_ble_eq_true rfl) (Nat.le_of_ble_eq_true rfl) ⟨rfl, by rw [gI, if_neg (by rw [hn, i_le, hL] at c_9; omega)], rfl⟩
    · refine E_aload_n dX3_get_12 rfl ?_
      refine E_getR dX3_get_13 fl_X3_15 (by first | assumption | rfl) (by assumption) rfl ?_
      refine E_iload_n dX3_get_16 rfl ?_
      have hi0 := cl_toInt c_1
      have hi1 : i.toInt < xs.length := by rw [hn, i_le, hL] at c_9; omega
      refine E_iald dX3_get_17 (by first | assumption | rfl) (in_of c_1 (by omega)) ?_
      refine E_goto 22 dX3_get_18 (by decide) ?_
      exact E_reti dX3_get_22 rfl rfl (Nat.le_of_ble_eq_true rfl) (Nat.le_of_ble_eq_true rfl) ⟨rfl, by rw [gI, if_pos (by omega), hx _ (by omega)], rfl⟩
theorem c_Row_holds {sh : List Sh} {h : Hp} {r c m : Nat} {xs : List Nat} (R : RowL sh h r c m xs) (f n : Int32) : Sp0 mX3_holds [.ref r, .int f, .int n] sh h (fun v h' => v = some (.int (if 0 ≤ f.toInt ∧ 0 ≤ n.toInt ∧ f.toInt + n.toInt ≤ xs.length then 1 else 0)) ∧ h' = h) := by
  obtain ⟨hr, hc, hs, hn, hm, hm5, hx⟩ := R
  have hL : (nI xs.length).toInt = xs.length := nI_toInt (by omega)
  refine Sp0.of (by decide) (Nat.le_of_ble_eq_true rfl) ?_
  show E mX3_holds none _ 0 [some (.ref r), some (.int f), some (.int n)] [] sh h 0 0
  refine E_iload_n dX3_holds_0 rfl ?_
  refine E_if_lt 30 dX3_holds_1 (by decide) (fun c_1 => ?_) (fun c_1 => ?_)
  · refine E_ic 0 dX3_holds_30 (by decide) ?_
    exact E_reti dX3_holds_31 rfl rfl (Nat.le_of_ble_eq_true rfl) (Nat.le_of_ble_eq_true rfl) ⟨rfl, by rw [if_neg (by rw [i_lt, i_0] at c_1; omega)], rfl⟩
  · refine E_iload_n dX3_holds_4 rfl ?_
    refine E_if_lt 30 dX3_holds_5 (by decide) (fun c_5 => ?_) (fun c_5 => ?_)
    · refine E_ic 0 dX3_holds_30 (by decide) ?_
      exact E_reti dX3_holds_31 rfl rfl (Nat.le_of_ble_eq_true rfl) (Nat.le_of_ble_eq_true rfl) ⟨rfl, by rw [if_neg (by rw [i_lt, i_0] at c_5; omega)], rfl⟩
    · refine E_iload_n dX3_holds_8 rfl ?_
      refine E_aload_n dX3_holds_9 rfl ?_
      refine E_getI dX3_holds_10 fl_X3_21 (by first | assumption | rfl) rfl ?_
      refine E_icmp_gt 30 dX3_holds_13 (by decide) (fun c_13 => ?_) (fun c_13 => ?_)
      · refine E_ic 0 dX3_holds_30 (by decide) ?_
        exact E_reti dX3_holds_31 rfl rfl (Nat.le_of_ble_eq_true rfl) (Nat.le_of_ble_eq_true rfl) ⟨rfl, by rw [if_neg (by rw [hn, i_lt, hL] at c_13; rw [i_lt, i_0] at c_1; omega)], rfl⟩
      · refine E_iload_n dX3_holds_16 rfl ?_
        refine E_aload_n dX3_holds_17 rfl ?_
        refine E_getI dX3_holds_18 fl_X3_21 (by first | assumption | rfl) rfl ?_
        refine E_iload_n dX3_holds_21 rfl ?_
        refine E_isub dX3_holds_22 ?_
        have hb : (nI xs.length - n).toInt = xs.length - n.toInt := by
          rw [hn, i_lt, hL] at c_13
          rw [i_lt, i_0] at c_5
          obtain ⟨k, hk, rfl⟩ := nI_of2 (x := n) (M := nI xs.length) hL (by rw [i_lt, i_0]; omega) (by rw [i_le, hL]; omega)
          rw [pk_sub hk, nI_toInt (by omega), nI_toInt (by omega)]; omega
        refine E_icmp_gt 30 dX3_holds_23 (by decide) (fun c_23 => ?_) (fun c_23 => ?_)
        · refine E_ic 0 dX3_holds_30 (by decide) ?_
          exact E_reti dX3_holds_31 rfl rfl (Nat.le_of_ble_eq_true rfl) (Nat.le_of_ble_eq_true rfl) ⟨rfl, by rw [if_neg (by rw [hn, i_lt, hb] at c_23; omega)], rfl⟩
        · refine E_ic 1 dX3_holds_26 (by decide) ?_
          refine E_goto 31 dX3_holds_27 (by decide) ?_
          exact E_reti dX3_holds_31 rfl rfl (Nat.le_of_ble_eq_true rfl) (Nat.le_of_ble_eq_true rfl) ⟨rfl, by rw [if_pos (by rw [hn, i_lt, hb] at c_23; rw [i_lt, i_0] at c_1 c_5; omega)], rfl⟩
theorem rset_len (xs : List Nat) (j b m : Nat) (hm : xs.length ≤ m) : (rset xs j b m).length ≤ m := by
  unfold rset
  split
  · simpa using hm
  · split
    · simp; omega
    · exact hm
theorem RowL.put {sh : List Sh} {h : Hp} {r c m : Nat} {xs : List Nat} (R : RowL sh h r c m xs) {j b : Nat} (hj : j < xs.length) : RowL sh (sI h c j (nI b)) r c m (xs.set j b) := by
  have hne := R.ne
  obtain ⟨hr, hc, hs, hn, hm, hm5, hx⟩ := R
  refine ⟨hr, hc, hs, by simp [sI, u2, hne, hn], by simpa using hm, hm5, fun i hi => ?_⟩
  simp at hi
  by_cases e : i = j
  · subst e
    simp [sI, u2, List.getD, hi]
  · have h1 := hx i hi
    simp [sI, u2, e, List.getD, Ne.symm e] at h1 ⊢
    exact h1
theorem RowL.push {sh : List Sh} {h : Hp} {r c m : Nat} {xs : List Nat} (R : RowL sh h r c m xs) {b : Nat} (hj : xs.length < m) : RowL sh (sI (sI h c xs.length (nI b)) r 1 (nI (xs.length + 1))) r c m (xs ++ [b]) := by
  have hne := R.ne
  obtain ⟨hr, hc, hs, hn, hm, hm5, hx⟩ := R
  refine ⟨hr, hc, hs, by simp [sI, u2], by simp; omega, hm5, fun i hi => ?_⟩
  simp at hi
  by_cases e : i = xs.length
  · subst e
    simp [sI, u2, List.getD, Ne.symm hne]
  · have h1 := hx i (by omega)
    have h2 : i < xs.length := by omega
    simp [sI, u2, e, List.getD, h2, Ne.symm hne, List.getElem?_append_left h2] at h1 ⊢
    exact h1
theorem c_Row_set {sh : List Sh} {h : Hp} {r c m : Nat} {xs : List Nat} (R : RowL sh h r c m xs) {j b : Nat} (hj : j ≤ xs.length) : Sp0 mX3_set [.ref r, .int (nI j), .int (nI b)] sh h (fun v h' => v = none ∧ RowL sh h' r c m (rset xs j b m) ∧ RowF h h' r c) := by
  have R0 := R
  obtain ⟨hr, hc, hs, hn, hm, hm5, hx⟩ := R
  have hne := R0.ne
  have hL : (nI xs.length).toInt = xs.length := nI_toInt (by omega)
  have hJ : (nI j).toInt = j := nI_toInt (by omega)
  have hM : (nI m).toInt = m := nI_toInt (by omega)
  have hcl : (nI j).toNatClampNeg = j := nI_clamp (by omega)
  refine Sp0.of (by decide) (Nat.le_of_ble_eq_true rfl) ?_
  show E mX3_set none _ 0 [some (.ref r), some (.int (nI j)), some (.int (nI b))] [] sh h 0 0
  refine E_iload_n dX3_set_0 rfl ?_
  refine E_if_lt 21 dX3_set_1 (by decide) (fun c_1 => absurd c_1 (by rw [i_lt, i_0]; omega)) (fun c_1 => ?_)
  refine E_iload_n dX3_set_4 rfl ?_
  refine E_aload_n dX3_set_5 rfl ?_
  refine E_getI dX3_set_6 fl_X3_21 (by first | assumption | rfl) rfl ?_
  refine E_icmp_gt 21 dX3_set_9 (by decide) (fun c_9 => absurd c_9 (by rw [hn, i_lt]; omega)) (fun c_9 => ?_)
  refine E_iload_n dX3_set_12 rfl ?_
  refine E_aload_n dX3_set_13 rfl ?_
  refine E_getR dX3_set_14 fl_X3_15 (by first | assumption | rfl) (by assumption) rfl ?_
  refine E_alen dX3_set_17 (by first | assumption | rfl) (by simp) ?_
  refine E_icmp_lt 22 dX3_set_18 (by decide) (fun c_18 => ?_) (fun c_18 => ?_)
  · refine E_aload_n dX3_set_22 rfl ?_
    refine E_getR dX3_set_23 fl_X3_15 (by first | assumption | rfl) (by assumption) rfl ?_
    refine E_iload_n dX3_set_26 rfl ?_
    refine E_iload_n dX3_set_27 rfl ?_
    refine E_iast dX3_set_28 (by first | assumption | rfl) (by rw [i_lt, hJ, hM] at c_18; exact vp_in_nI (by omega) (by omega)) ?_
    rw [i_lt, hJ, hM] at c_18
    rw [hcl]
    refine E_iload_n dX3_set_29 rfl ?_
    refine E_aload_n dX3_set_30 rfl ?_
    refine E_getI dX3_set_31 fl_X3_21 (by first | assumption | rfl) rfl ?_
    rw [show (sI h c j (nI b)).1 r 1 = nI xs.length by simp [sI, u2, hne, hn]]
    refine E_icmp_ne 47 dX3_set_34 (by decide) (fun c_34 => ?_) (fun c_34 => ?_)
    · refine E_retv dX3_set_47 rfl (Nat.le_of_ble_eq_true rfl) (Nat.le_of_ble_eq_true rfl) ?_
      have hlt : j < xs.length := by
        rcases Nat.lt_or_ge j xs.length with q | q
        · exact q
        · exact absurd (by rw [show j = xs.length by omega]) c_34
      refine ⟨rfl, rfl, ?_, rfl, fun a h1 h2 => by funext k; simp [sI, u2, h2]⟩
      rw [rset, if_pos hlt]
      exact R0.put hlt
    · refine E_aload_n dX3_set_37 rfl ?_
      refine E_dup rfl dX3_set_38 ?_
      refine E_getI dX3_set_39 fl_X3_21 (by first | assumption | rfl) rfl ?_
      refine E_ic 1 dX3_set_42 (by decide) ?_
      refine E_iadd dX3_set_43 ?_
      refine E_putI dX3_set_44 fl_X3_21 (by first | assumption | rfl) rfl ?_
      refine E_retv dX3_set_47 rfl (Nat.le_of_ble_eq_true rfl) (Nat.le_of_ble_eq_true rfl) ?_
      have e : j = xs.length := (nI_eq (by omega) (by omega)).mp c_34
      subst e
      refine ⟨rfl, rfl, ?_, rfl, fun a h1 h2 => by funext k; simp [sI, u2, h1, h2]⟩
      rw [rset, if_neg (by omega), if_pos (by omega), show (sI h c xs.length (nI b)).1 r 1 = nI xs.length by simp [sI, u2, hne, hn], nI_1]
      exact R0.push (by omega)
  · exact E_retv dX3_set_21 rfl (Nat.le_of_ble_eq_true rfl) (Nat.le_of_ble_eq_true rfl) ⟨rfl, rfl, by rw [i_lt, hJ, hM] at c_18; rw [rset, if_neg (by omega), if_neg (by omega)]; exact R0, RowF.rf⟩
theorem c_Row_add {sh : List Sh} {h : Hp} {r c m : Nat} {xs : List Nat} (R : RowL sh h r c m xs) (b : Nat) : Sp0 mX3_add [.ref r, .int (nI b)] sh h (fun v h' => v = none ∧ RowL sh h' r c m (rset xs xs.length b m) ∧ RowF h h' r c) := by
  have hr := R.1
  have hn := R.2.2.2.1
  refine Sp0.of (by decide) (Nat.le_of_ble_eq_true rfl) ?_
  show E mX3_add none _ 0 [some (.ref r), some (.int (nI b))] [] sh h 0 0
  refine E_aload_n dX3_add_0 rfl ?_
  refine E_aload_n dX3_add_1 rfl ?_
  refine E_getI dX3_add_2 fl_X3_21 (by first | assumption | rfl) rfl ?_
  refine E_iload_n dX3_add_5 rfl ?_
  rw [hn]
  refine cV2 (N := mX3_set) dX3_add_6 cn_X3_set lk_X3_25 ⟨Nat.le_of_ble_eq_true rfl, Nat.le_of_ble_eq_true rfl⟩ (by first | assumption | rfl) rfl (Nat.le_of_ble_eq_true rfl) ⟨rfl, rfl⟩ (c_Row_set R (Nat.le_refl _)) (fun v2 h2 ⟨hv2, hq2⟩ => ?_)
  subst hv2
  exact E_retv dX3_add_9 rfl (Nat.le_of_ble_eq_true rfl) (Nat.le_of_ble_eq_true rfl) ⟨rfl, rfl, hq2⟩
theorem c_Row_keep {sh : List Sh} {h : Hp} {r c m : Nat} {xs : List Nat} (R : RowL sh h r c m xs) {k : Nat} (hk : k ≤ 500) : Sp0 mX3_keep [.ref r, .int (nI k)] sh h (fun v h' => v = none ∧ RowL sh h' r c m (xs.take k) ∧ RowF h h' r c) := by
  have R0 := R
  have hne := R.ne
  obtain ⟨hr, hc, hs, hn, hm, hm5, hx⟩ := R
  have hL : (nI xs.length).toInt = xs.length := nI_toInt (by omega)
  have hJ : (nI k).toInt = k := nI_toInt (by omega)
  refine Sp0.of (by decide) (Nat.le_of_ble_eq_true rfl) ?_
  show E mX3_keep none _ 0 [some (.ref r), some (.int (nI k))] [] sh h 0 0
  refine E_iload_n dX3_keep_0 rfl ?_
  refine E_if_lt 17 dX3_keep_1 (by decide) (fun c_1 => absurd c_1 (by rw [i_lt, i_0]; omega)) (fun c_1 => ?_)
  refine E_iload_n dX3_keep_4 rfl ?_
  refine E_aload_n dX3_keep_5 rfl ?_
  refine E_getI dX3_keep_6 fl_X3_21 (by first | assumption | rfl) rfl ?_
  refine E_icmp_ge 17 dX3_keep_9 (by decide) (fun c_9 => ?_) (fun c_9 => ?_)
  · refine E_retv dX3_keep_17 rfl (Nat.le_of_ble_eq_true rfl) (Nat.le_of_ble_eq_true rfl) ?_
    rw [hn, i_le] at c_9
    rw [List.take_of_length_le (by omega)]
    exact ⟨rfl, rfl, R0, RowF.rf⟩
  · refine E_aload_n dX3_keep_12 rfl ?_
    refine E_iload_n dX3_keep_13 rfl ?_
    refine E_putI dX3_keep_14 fl_X3_21 (by first | assumption | rfl) rfl ?_
    refine E_retv dX3_keep_17 rfl (Nat.le_of_ble_eq_true rfl) (Nat.le_of_ble_eq_true rfl) ?_
    rw [hn, i_le] at c_9
    refine ⟨rfl, rfl, ⟨hr, hc, hs, by simp [sI, u2]; congr 1; omega, by simp; omega, hm5, fun i hi => ?_⟩, rfl, fun a h1 h2 => by funext k; simp [sI, u2, h1]⟩
    simp at hi
    have h1 := hx i (by omega)
    have h2 : i < k := by omega
    simp [sI, u2, List.getD, Ne.symm hne, List.getElem?_take, h2] at h1 ⊢
    exact h1
theorem rset_take (zs : List Nat) (b m : Nat) : rset (zs.take m) (zs.take m).length b m = (zs ++ [b]).take m := by
  rw [rset, if_neg (Nat.lt_irrefl _)]
  by_cases hl : zs.length < m
  · rw [List.take_of_length_le (Nat.le_of_lt hl), if_pos hl, List.take_of_length_le (by simp; omega)]
  · rw [if_neg (by simp; omega), List.take_append_of_le_length (by omega)]
theorem addAll_step {xs ys : List Nat} {i m : Nat} (hlt : i < ys.length) : rset ((xs ++ ys.take i).take m) ((xs ++ ys.take i).take m).length (ys.getD i 0) m = (xs ++ ys.take (i + 1)).take m := by
  have e1 : ys.take (i + 1) = ys.take i ++ [ys.getD i 0] := by
    rw [List.take_add_one]
    simp [List.getD, hlt]
  rw [rset_take, e1, List.append_assoc]
theorem c_Row_addAll {sh : List Sh} {h : Hp} {r c m r2 c2 m2 : Nat} {xs ys : List Nat} (R : RowL sh h r c m xs) (S : RowL sh h r2 c2 m2 ys) (n1 : r2 ≠ r) (n4 : c2 ≠ c) : Sp0 mX3_addAll [.ref r, .ref r2] sh h (fun v h' => v = none ∧ RowL sh h' r c m ((xs ++ ys).take m) ∧ RowF h h' r c) := by
  have n2 : r2 ≠ c := by
    intro e
    have h1 := S.1
    rw [e, R.2.2.1] at h1
    cases h1
  have n3 : c2 ≠ r := by
    intro e
    have h1 := R.1
    rw [← e, S.2.2.1] at h1
    cases h1
  refine Sp0.of (by decide) (Nat.le_of_ble_eq_true rfl) ?_
  show E mX3_addAll none _ 0 [some (.ref r), some (.ref r2), none] [] sh h 0 0
  have loop : ∀ (n i : Nat) (h' : Hp), ys.length - i ≤ n → i ≤ ys.length → RowL sh h' r c m ((xs ++ ys.take i).take m) → RowF h h' r c → E mX3_addAll none (fun v sh' h' => sh' = sh ∧ v = none ∧ RowL sh h' r c m ((xs ++ ys).take m) ∧ RowF h h' r c) 2 [some (.ref r), some (.ref r2), some (.int (nI i))] [] sh h' 0 0 := by
    intro n
    induction n with
    | zero =>
      intro i h' h1 h2 R1 F1
      have S1 := S.other F1 n1 n2 n3 n4
      obtain ⟨hr2, hc2, hs2, hn2, hm2, hm52, hx2⟩ := S1
      refine E_iload_n dX3_addAll_2 rfl ?_
      refine E_aload_n dX3_addAll_3 rfl ?_
      refine E_getI dX3_addAll_4 fl_X3_21 (by first | assumption | rfl) rfl ?_
      refine E_icmp_ge 30 dX3_addAll_7 (by decide) (fun c_7 => ?_) (fun c_7 => absurd (by rw [hn2]; exact nI_le (by omega) (by omega)) c_7)
      exact E_retv dX3_addAll_30 rfl (Nat.le_of_ble_eq_true rfl) (Nat.le_of_ble_eq_true rfl) ⟨rfl, rfl, by rw [List.take_of_length_le (l := ys) (by omega)] at R1; exact R1, F1⟩
    | succ n ih =>
      intro i h' h1 h2 R1 F1
      have S1 := S.other F1 n1 n2 n3 n4
      have hr := R1.1
      have hn := R1.2.2.2.1
      obtain ⟨hr2, hc2, hs2, hn2, hm2, hm52, hx2⟩ := S1
      refine E_iload_n dX3_addAll_2 rfl ?_
      refine E_aload_n dX3_addAll_3 rfl ?_
      refine E_getI dX3_addAll_4 fl_X3_21 (by first | assumption | rfl) rfl ?_
      refine E_icmp_ge 30 dX3_addAll_7 (by decide) (fun c_7 => ?_) (fun c_7 => ?_)
      · exact E_retv dX3_addAll_30 rfl (Nat.le_of_ble_eq_true rfl) (Nat.le_of_ble_eq_true rfl) ⟨rfl, rfl, by rw [List.take_of_length_le (l := ys) (by rw [hn2] at c_7; have := (nI_leI (by omega) (by omega)).mp c_7; omega)] at R1; exact R1, F1⟩
      · refine E_aload_n dX3_addAll_10 rfl ?_
        refine E_aload_n dX3_addAll_11 rfl ?_
        refine E_getI dX3_addAll_12 fl_X3_21 (by first | assumption | rfl) rfl ?_
        refine E_aload_n dX3_addAll_15 rfl ?_
        refine E_getR dX3_addAll_16 fl_X3_15 (by first | assumption | rfl) (by assumption) rfl ?_
        refine E_iload_n dX3_addAll_19 rfl ?_
        have hlt : i < ys.length := by
          rcases Nat.lt_or_ge i ys.length with q | q
          · exact q
          · exact absurd (by rw [hn2]; exact nI_le (by omega) (by omega)) c_7
        refine E_iald dX3_addAll_20 (by first | assumption | rfl) (vp_in_nI (by omega) (by omega)) ?_
        rw [nI_clamp (by omega), hx2 i hlt, hn]
        refine cV2 (N := mX3_set) dX3_addAll_21 cn_X3_set lk_X3_25 ⟨Nat.le_of_ble_eq_true rfl, Nat.le_of_ble_eq_true rfl⟩ (by first | assumption | rfl) rfl (Nat.le_of_ble_eq_true rfl) ⟨rfl, rfl⟩ (c_Row_set R1 (Nat.le_refl _)) (fun v2 h2 ⟨hv2, R2, F2⟩ => ?_)
        subst hv2
        refine E_iinc dX3_addAll_24 rfl (by decide) ?_
        refine E_goto 2 dX3_addAll_27 (by decide) ?_
        rw [nI_inc]
        refine ih (i + 1) h2 (by omega) (by omega) ?_ (F1.tr F2)
        rw [addAll_step hlt] at R2
        exact R2
  refine E_ic 0 dX3_addAll_0 (by decide) ?_
  refine E_istore_n dX3_addAll_1 (by decide) ?_
  exact loop ys.length 0 h (by omega) (by omega) (by simpa [List.take_of_length_le R.2.2.2.2.1] using R) RowF.rf

