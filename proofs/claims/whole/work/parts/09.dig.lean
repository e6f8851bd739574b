/-! digests and weak sums of rows -/
def dgP : Int64 := 1099511628211
def dgE : Int64 := -3750763034362895579
def dstep (d : Int64) (b : Nat) : Int64 := (d ^^^ (nI b).toInt64) * dgP
def dig (xs : List Nat) : Int64 := xs.foldl dstep dgE
theorem take_s {ys : List Nat} {t : Nat} (h : t < ys.length) : ys.take (t + 1) = ys.take t ++ [ys.getD t 0] := by
  rw [List.take_add_one]
  simp [List.getD, h]
theorem fold_take {ys : List Nat} {t : Nat} (h : t < ys.length) : (ys.take (t + 1)).foldl dstep dgE = dstep ((ys.take t).foldl dstep dgE) (ys.getD t 0) := by
  rw [take_s h, List.foldl_append]
  rfl
def pS (f : Nat → Nat) : Nat → Nat
  | 0 => 0
  | t + 1 => pS f t + f t
def wS (k : Nat) (f : Nat → Nat) : Nat → Nat
  | 0 => 0
  | t + 1 => wS k f t + (k - t) * f t
def wk (k : Nat) (f : Nat → Nat) : Nat := pS f k % 65536 + 65536 * (wS k f k % 65536)
theorem pS_le {f : Nat → Nat} (hf : ∀ j, f j < 256) : ∀ t, pS f t ≤ 255 * t
  | 0 => by simp [pS]
  | t + 1 => by have := pS_le hf t; have := hf t; simp [pS]; omega
theorem wS_le {f : Nat → Nat} {k : Nat} (hk : k ≤ 64) (hf : ∀ j, f j < 256) : ∀ t, wS k f t ≤ 16320 * t
  | 0 => by simp [wS]
  | t + 1 => by
    have h1 := wS_le hk hf t
    have h2 : (k - t) * f t ≤ 64 * 255 := Nat.mul_le_mul (by omega) (by have := hf t; omega)
    simp [wS]; omega
theorem wk_long {p w : Nat} (hp : p < 2 ^ 31) (hw : w < 2 ^ 31) : (((nI w).toInt64 &&& 65535) <<< ((16 : Int32).toInt64 &&& 63)) ||| ((nI p).toInt64 &&& 65535) = lN (p % 65536 + 65536 * (w % 65536)) := by
  rw [nI_l hp, nI_l hw]
  have e1 := wb_mask (n := w) (k := 16) (by omega) (by decide)
  have e2 := wb_mask (n := p) (k := 16) (by omega) (by decide)
  have e3 : (lN (2 ^ 16 - 1) : Int64) = 65535 := by decide
  rw [e3] at e1 e2
  rw [e1, e2]
  have e4 := wb_shl (w % 2 ^ 16) (k := 16) (by decide)
  rw [show (nI 16 : Int32) = 16 by decide] at e4
  rw [e4]
  rw [g_or (k := 16) (p := 65536) (a := p % 2 ^ 16) (b := w % 2 ^ 16) rfl (by omega) (by omega)]
  congr 1
  omega
theorem c_Row_digestOf {sh : List Sh} {h : Hp} {r c m : Nat} {xs : List Nat} (R : RowL sh h r c m xs) {a k : Nat} (ha : a ≤ 1000) (hk : k ≤ 1000) : Sp0 mX3_digestOf [.ref r, .int (nI a), .int (nI k)] sh h (fun v h' => v = some (.long (dig ((xs.drop a).take k))) ∧ h' = h) := by
  obtain ⟨hr, hc, hs, hn, hm, hm5, hx⟩ := R
  refine Sp0.of (by decide) (Nat.le_of_ble_eq_true rfl) ?_
  show E mX3_digestOf none _ 0 [some (.ref r), some (.int (nI a)), some (.int (nI k)), none, none, none] [] sh h 0 0
  have loop : ∀ (n t : Nat), k - t ≤ n → t ≤ k → (0 < t → a + t ≤ xs.length) → E mX3_digestOf none (fun v sh' h' => sh' = sh ∧ v = some (.long (dig ((xs.drop a).take k))) ∧ h' = h) 7 [some (.ref r), some (.int (nI a)), some (.int (nI k)), some (.long (((xs.drop a).take t).foldl dstep dgE)), none, some (.int (nI (a + t)))] [] sh h 0 0 := by
    intro n
    induction n with
    | zero =>
      intro t h1 h2 h3
      refine E_iload dX3_digestOf_7 rfl ?_
      refine E_if_lt 50 dX3_digestOf_9 (by decide) (fun c_9 => absurd c_9 (nI_pos (by omega))) (fun c_9 => ?_)
      refine E_iload dX3_digestOf_12 rfl ?_
      refine E_iload_n dX3_digestOf_14 rfl ?_
      refine E_iload_n dX3_digestOf_15 rfl ?_
      refine E_iadd dX3_digestOf_16 ?_
      rw [nI_add]
      refine E_icmp_ge 50 dX3_digestOf_17 (by decide) (fun c_17 => ?_) (fun c_17 => absurd (nI_le (by omega) (by omega)) c_17)
      refine E_lload_n dX3_digestOf_50 rfl ?_
      exact E_retl dX3_digestOf_51 rfl (Nat.le_of_ble_eq_true rfl) (Nat.le_of_ble_eq_true rfl) ⟨rfl, by rw [show t = k by omega]; rfl, rfl⟩
    | succ n ih =>
      intro t h1 h2 h3
      refine E_iload dX3_digestOf_7 rfl ?_
      refine E_if_lt 50 dX3_digestOf_9 (by decide) (fun c_9 => absurd c_9 (nI_pos (by omega))) (fun c_9 => ?_)
      refine E_iload dX3_digestOf_12 rfl ?_
      refine E_iload_n dX3_digestOf_14 rfl ?_
      refine E_iload_n dX3_digestOf_15 rfl ?_
      refine E_iadd dX3_digestOf_16 ?_
      rw [nI_add]
      refine E_icmp_ge 50 dX3_digestOf_17 (by decide) (fun c_17 => ?_) (fun c_17 => ?_)
      · refine E_lload_n dX3_digestOf_50 rfl ?_
        exact E_retl dX3_digestOf_51 rfl (Nat.le_of_ble_eq_true rfl) (Nat.le_of_ble_eq_true rfl) ⟨rfl, by rw [show t = k by have := (nI_leI (by omega) (by omega)).mp c_17; omega]; rfl, rfl⟩
      · refine E_iload dX3_digestOf_20 rfl ?_
        refine E_aload_n dX3_digestOf_22 rfl ?_
        refine E_getI dX3_digestOf_23 fl_X3_21 (by first | assumption | rfl) rfl ?_
        rw [hn]
        refine E_icmp_ge 50 dX3_digestOf_26 (by decide) (fun c_26 => ?_) (fun c_26 => ?_)
        · refine E_lload_n dX3_digestOf_50 rfl ?_
          exact E_retl dX3_digestOf_51 rfl (Nat.le_of_ble_eq_true rfl) (Nat.le_of_ble_eq_true rfl) ⟨rfl, by have h5 := (nI_leI (by omega) (by omega)).mp c_26; rw [dig, List.take_of_length_le (by simp; omega), List.take_of_length_le (by simp; omega)], rfl⟩
        · refine E_lload_n dX3_digestOf_29 rfl ?_
          refine E_aload_n dX3_digestOf_30 rfl ?_
          refine E_getR dX3_digestOf_31 fl_X3_15 (by first | assumption | rfl) (by assumption) rfl ?_
          refine E_iload dX3_digestOf_34 rfl ?_
          have h5 : a + t < xs.length := Nat.lt_of_not_le fun q => c_26 (nI_le q (by omega))
          have h6 : t < k := Nat.lt_of_not_le fun q => c_17 (nI_le (by omega) (by omega))
          refine E_iald dX3_digestOf_36 (by first | assumption | rfl) (vp_in_nI (by omega) (by omega)) ?_
          rw [nI_clamp (by omega), hx _ h5]
          refine E_i2l dX3_digestOf_37 ?_
          refine E_lxor dX3_digestOf_38 ?_
          refine E_ldc2 dX3_digestOf_39 kl_X3_31 ?_
          refine E_lmul dX3_digestOf_42 ?_
          refine E_lstore_n dX3_digestOf_43 (by decide) ?_
          refine E_iinc dX3_digestOf_44 rfl (by decide) ?_
          refine E_goto 7 dX3_digestOf_47 (by decide) ?_
          rw [nI_inc]
          have h7 : t < (xs.drop a).length := by simp; omega
          have h8 := ih (t + 1) (by omega) (by omega) (fun _ => by omega)
          rw [fold_take h7, show (xs.drop a).getD t 0 = xs.getD (a + t) 0 by simp [List.getD]] at h8
          exact h8
  refine E_ldc2 dX3_digestOf_0 kl_X3_29 ?_
  refine E_lstore_n dX3_digestOf_3 (by decide) ?_
  refine E_iload_n dX3_digestOf_4 rfl ?_
  refine E_istore dX3_digestOf_5 (by decide) ?_
  exact loop k 0 (by omega) (by omega) (by omega)
theorem c_Row_weakOf {sh : List Sh} {h : Hp} {r c m : Nat} {xs : List Nat} (R : RowL sh h r c m xs) (hB : ∀ x ∈ xs, x < 256) {a k : Nat} (hk : k ≤ 64) (hak : a + k ≤ xs.length) : Sp0 mX3_weakOf [.ref r, .int (nI a), .int (nI k)] sh h (fun v h' => v = some (.long (lN (wk k (fun j => xs.getD (a + j) 0)))) ∧ h' = h) := by
  obtain ⟨hr, hc, hs, hn, hm, hm5, hx⟩ := R
  have hf : ∀ j, (fun j => xs.getD (a + j) 0) j < 256 := by
    intro j
    show xs.getD (a + j) 0 < 256
    by_cases hj : a + j < xs.length
    · rw [List.getD_eq_getElem?_getD, List.getElem?_eq_getElem hj]
      exact hB _ (List.getElem_mem hj)
    · rw [List.getD_eq_getElem?_getD, List.getElem?_eq_none (by omega)]
      decide
  generalize hfe : (fun j => xs.getD (a + j) 0) = f at hf ⊢
  have hfx : ∀ j, xs.getD (a + j) 0 = f j := fun j => by rw [← hfe]
  refine Sp0.of (by decide) (Nat.le_of_ble_eq_true rfl) ?_
  show E mX3_weakOf none _ 0 [some (.ref r), some (.int (nI a)), some (.int (nI k)), none, none, none] [] sh h 0 0
  have loop : ∀ (n t : Nat), k - t ≤ n → t ≤ k → E mX3_weakOf none (fun v sh' h' => sh' = sh ∧ v = some (.long (lN (wk k f))) ∧ h' = h) 8 [some (.ref r), some (.int (nI a)), some (.int (nI k)), some (.int (nI (pS f t))), some (.int (nI (wS k f t))), some (.int (nI (a + t)))] [] sh h 0 0 := by
    intro n
    induction n with
    | zero =>
      intro t h1 h2
      have e : t = k := by omega
      subst e
      have b1 := pS_le hf t
      have b2 := wS_le hk hf t
      refine E_iload dX3_weakOf_8 rfl ?_
      refine E_if_lt 65 dX3_weakOf_10 (by decide) (fun c_10 => absurd c_10 (nI_pos (by omega))) (fun c_10 => ?_)
      refine E_iload dX3_weakOf_13 rfl ?_
      refine E_iload_n dX3_weakOf_15 rfl ?_
      refine E_iload_n dX3_weakOf_16 rfl ?_
      refine E_iadd dX3_weakOf_17 ?_
      rw [nI_add]
      refine E_icmp_ge 65 dX3_weakOf_18 (by decide) (fun c_18 => ?_) (fun c_18 => absurd (nI_le (by omega) (by omega)) c_18)
      refine E_iload dX3_weakOf_65 rfl ?_
      refine E_i2l dX3_weakOf_67 ?_
      refine E_ldc2 dX3_weakOf_68 kl_X3_33 ?_
      refine E_land dX3_weakOf_71 ?_
      refine E_bi 16 dX3_weakOf_72 (by decide) ?_
      refine E_lshl dX3_weakOf_74 ?_
      refine E_iload_n dX3_weakOf_75 rfl ?_
      refine E_i2l dX3_weakOf_76 ?_
      refine E_ldc2 dX3_weakOf_77 kl_X3_33 ?_
      refine E_land dX3_weakOf_80 ?_
      refine E_lor dX3_weakOf_81 ?_
      exact E_retl dX3_weakOf_82 rfl (Nat.le_of_ble_eq_true rfl) (Nat.le_of_ble_eq_true rfl) ⟨rfl, by rw [wk_long (by omega) (by omega), wk], rfl⟩
    | succ n ih =>
      intro t h1 h2
      have b1 := pS_le hf t
      have b2 := wS_le hk hf t
      refine E_iload dX3_weakOf_8 rfl ?_
      refine E_if_lt 65 dX3_weakOf_10 (by decide) (fun c_10 => absurd c_10 (nI_pos (by omega))) (fun c_10 => ?_)
      refine E_iload dX3_weakOf_13 rfl ?_
      refine E_iload_n dX3_weakOf_15 rfl ?_
      refine E_iload_n dX3_weakOf_16 rfl ?_
      refine E_iadd dX3_weakOf_17 ?_
      rw [nI_add]
      refine E_icmp_ge 65 dX3_weakOf_18 (by decide) (fun c_18 => ?_) (fun c_18 => ?_)
      · refine E_iload dX3_weakOf_65 rfl ?_
        refine E_i2l dX3_weakOf_67 ?_
        refine E_ldc2 dX3_weakOf_68 kl_X3_33 ?_
        refine E_land dX3_weakOf_71 ?_
        refine E_bi 16 dX3_weakOf_72 (by decide) ?_
        refine E_lshl dX3_weakOf_74 ?_
        refine E_iload_n dX3_weakOf_75 rfl ?_
        refine E_i2l dX3_weakOf_76 ?_
        refine E_ldc2 dX3_weakOf_77 kl_X3_33 ?_
        refine E_land dX3_weakOf_80 ?_
        refine E_lor dX3_weakOf_81 ?_
        have e : t = k := by have := (nI_leI (by omega) (by omega)).mp c_18; omega
        exact E_retl dX3_weakOf_82 rfl (Nat.le_of_ble_eq_true rfl) (Nat.le_of_ble_eq_true rfl) ⟨rfl, by subst e; rw [wk_long (by omega) (by omega), wk], rfl⟩
      · refine E_iload dX3_weakOf_21 rfl ?_
        refine E_aload_n dX3_weakOf_23 rfl ?_
        refine E_getI dX3_weakOf_24 fl_X3_21 (by first | assumption | rfl) rfl ?_
        rw [hn]
        have h6 : t < k := Nat.lt_of_not_le fun q => c_18 (nI_le (by omega) (by omega))
        refine E_icmp_ge 65 dX3_weakOf_27 (by decide) (fun c_27 => absurd c_27 (nI_ge (by omega) (by omega))) (fun c_27 => ?_)
        refine E_iload_n dX3_weakOf_30 rfl ?_
        refine E_aload_n dX3_weakOf_31 rfl ?_
        refine E_getR dX3_weakOf_32 fl_X3_15 (by first | assumption | rfl) (by assumption) rfl ?_
        refine E_iload dX3_weakOf_35 rfl ?_
        refine E_iald dX3_weakOf_37 (by first | assumption | rfl) (vp_in_nI (by omega) (by omega)) ?_
        rw [nI_clamp (by omega), hx _ (by omega), hfx]
        refine E_iadd dX3_weakOf_38 ?_
        refine E_istore_n dX3_weakOf_39 (by decide) ?_
        refine E_iload dX3_weakOf_40 rfl ?_
        refine E_iload_n dX3_weakOf_42 rfl ?_
        refine E_iload_n dX3_weakOf_43 rfl ?_
        refine E_iadd dX3_weakOf_44 ?_
        refine E_iload dX3_weakOf_45 rfl ?_
        refine E_isub dX3_weakOf_47 ?_
        refine E_aload_n dX3_weakOf_48 rfl ?_
        refine E_getR dX3_weakOf_49 fl_X3_15 (by first | assumption | rfl) (by assumption) rfl ?_
        refine E_iload dX3_weakOf_52 rfl ?_
        refine E_iald dX3_weakOf_54 (by first | assumption | rfl) (vp_in_nI (by omega) (by omega)) ?_
        rw [nI_clamp (by omega), hx _ (by omega), hfx]
        refine E_imul dX3_weakOf_55 ?_
        refine E_iadd dX3_weakOf_56 ?_
        refine E_istore dX3_weakOf_57 (by decide) ?_
        refine E_iinc dX3_weakOf_59 rfl (by decide) ?_
        refine E_goto 8 dX3_weakOf_62 (by decide) ?_
        rw [nI_inc, nI_add, nI_add, pk_sub (by omega), pk_mul, nI_add, show a + k - (a + t) = k - t by omega]
        exact ih (t + 1) (by omega) (by omega)
  refine E_ic 0 dX3_weakOf_0 (by decide) ?_
  refine E_istore_n dX3_weakOf_1 (by decide) ?_
  refine E_ic 0 dX3_weakOf_2 (by decide) ?_
  refine E_istore dX3_weakOf_3 (by decide) ?_
  refine E_iload_n dX3_weakOf_5 rfl ?_
  refine E_istore dX3_weakOf_6 (by decide) ?_
  exact loop k 0 (by omega) (by omega)

