/-! RollingSync$Sums, strong, Math -/
def Fr (lo hi : Nat) (h h' : Hp) : Prop := h'.2.2 = h.2.2 ∧ ∀ a, a < lo ∨ hi ≤ a → h'.1 a = h.1 a ∧ h'.2.1 a = h.2.1 a
theorem Fr.rf {lo hi : Nat} {h : Hp} : Fr lo hi h h := ⟨rfl, fun _ _ => ⟨rfl, rfl⟩⟩
theorem Fr.tr {lo hi : Nat} {h h1 h2 : Hp} (a : Fr lo hi h h1) (b : Fr lo hi h1 h2) : Fr lo hi h h2 := ⟨b.1.trans a.1, fun x q => ⟨(b.2 x q).1.trans (a.2 x q).1, (b.2 x q).2.trans (a.2 x q).2⟩⟩
theorem Fr.wide {lo hi lo2 hi2 : Nat} {h h1 : Hp} (a : Fr lo hi h h1) (h2 : lo2 ≤ lo) (h3 : hi ≤ hi2) : Fr lo2 hi2 h h1 := ⟨a.1, fun x q => a.2 x (by omega)⟩
theorem Fr_sI {lo hi a k : Nat} {x : Int32} {h h1 : Hp} (F : Fr lo hi h h1) (h2 : lo ≤ a) (h3 : a < hi) : Fr lo hi h (sI h1 a k x) := by
  refine ⟨F.1, fun b q => ⟨?_, (F.2 b q).2⟩⟩
  rw [← (F.2 b q).1]
  funext j
  have : b ≠ a := by omega
  simp [sI, u2, this]
theorem Fr_sL {lo hi a k : Nat} {x : Int64} {h h1 : Hp} (F : Fr lo hi h h1) (h2 : lo ≤ a) (h3 : a < hi) : Fr lo hi h (sL h1 a k x) := by
  refine ⟨F.1, fun b q => ⟨(F.2 b q).1, ?_⟩⟩
  rw [← (F.2 b q).2]
  funext j
  have : b ≠ a := by omega
  simp [sL, u2, this]
theorem c_max {sh : List Sh} {h : Hp} (x y : Int32) : Sp0 mJ9_max_7cf53 [.int x, .int y] sh h (fun v h' => v = some (.int (if x < y then y else x)) ∧ h' = h) := by
  refine Sp0F_of (by decide +kernel) (Nat.le_of_ble_eq_true rfl) ?_
  show E mJ9_max_7cf53 none _ 0 [some (.int x), some (.int y)] [] sh h 0 0
  refine E_iload_n dJ9_max_7cf53_0 rfl ?_
  refine E_iload_n dJ9_max_7cf53_1 rfl ?_
  refine E_icmp_lt 9 dJ9_max_7cf53_2 (by decide) (fun c_2 => ?_) (fun c_2 => ?_)
  · refine E_iload_n dJ9_max_7cf53_9 rfl ?_
    exact E_reti dJ9_max_7cf53_10 rfl rfl (Nat.le_of_ble_eq_true rfl) (Nat.le_of_ble_eq_true rfl) ⟨rfl, by rw [if_pos c_2], rfl⟩
  · refine E_iload_n dJ9_max_7cf53_5 rfl ?_
    refine E_goto 10 dJ9_max_7cf53_6 (by decide) ?_
    exact E_reti dJ9_max_7cf53_10 rfl rfl (Nat.le_of_ble_eq_true rfl) (Nat.le_of_ble_eq_true rfl) ⟨rfl, by rw [if_neg c_2], rfl⟩
theorem c_min {sh : List Sh} {h : Hp} (x y : Int32) : Sp0 mJ9_min_7cf53 [.int x, .int y] sh h (fun v h' => v = some (.int (if y < x then y else x)) ∧ h' = h) := by
  refine Sp0F_of (by decide +kernel) (Nat.le_of_ble_eq_true rfl) ?_
  show E mJ9_min_7cf53 none _ 0 [some (.int x), some (.int y)] [] sh h 0 0
  refine E_iload_n dJ9_min_7cf53_0 rfl ?_
  refine E_iload_n dJ9_min_7cf53_1 rfl ?_
  refine E_icmp_gt 9 dJ9_min_7cf53_2 (by decide) (fun c_2 => ?_) (fun c_2 => ?_)
  · refine E_iload_n dJ9_min_7cf53_9 rfl ?_
    exact E_reti dJ9_min_7cf53_10 rfl rfl (Nat.le_of_ble_eq_true rfl) (Nat.le_of_ble_eq_true rfl) ⟨rfl, by rw [if_pos c_2], rfl⟩
  · refine E_iload_n dJ9_min_7cf53_5 rfl ?_
    refine E_goto 10 dJ9_min_7cf53_6 (by decide) ?_
    exact E_reti dJ9_min_7cf53_10 rfl rfl (Nat.le_of_ble_eq_true rfl) (Nat.le_of_ble_eq_true rfl) ⟨rfl, by rw [if_neg c_2], rfl⟩
def strongF (d : Int64) (k : Nat) : Int64 := if 8 ≤ k then d else d &&& (((1 : Int64) <<< ((nI (8 * k)).toInt64 &&& 63)) - 1)
theorem c_strong {sh : List Sh} {h : Hp} (d : Int64) {k : Nat} (hk : k ≤ 100) : Sp0 mX8_strong [.long d, .int (nI k)] sh h (fun v h' => v = some (.long (strongF d k)) ∧ h' = h) := by
  refine Sp0.of (by decide) (Nat.le_of_ble_eq_true rfl) ?_
  show E mX8_strong none _ 0 [some (.long d), none, some (.int (nI k))] [] sh h 0 0
  refine E_iload_n dX8_strong_0 rfl ?_
  refine E_bi 8 dX8_strong_1 (by decide) ?_
  rw [show (8 : Int32) = nI 8 by decide]
  refine E_icmp_lt 10 dX8_strong_3 (by decide) (fun c_3 => ?_) (fun c_3 => ?_)
  · refine E_lload_n dX8_strong_10 rfl ?_
    refine E_lc 1 dX8_strong_11 (by decide) ?_
    refine E_bi 8 dX8_strong_12 (by decide) ?_
    refine E_iload_n dX8_strong_14 rfl ?_
    refine E_imul dX8_strong_15 ?_
    rw [show (8 : Int32) = nI 8 by decide, pk_mul]
    refine E_lshl dX8_strong_16 ?_
    refine E_lc 1 dX8_strong_17 (by decide) ?_
    refine E_lsub dX8_strong_18 ?_
    refine E_land dX8_strong_19 ?_
    exact E_retl dX8_strong_20 rfl (Nat.le_of_ble_eq_true rfl) (Nat.le_of_ble_eq_true rfl) ⟨rfl, by rw [strongF, if_neg (by have := (nI_ltI (by omega) (by omega)).mp c_3; omega)], rfl⟩
  · refine E_lload_n dX8_strong_6 rfl ?_
    refine E_goto 20 dX8_strong_7 (by decide) ?_
    exact E_retl dX8_strong_20 rfl (Nat.le_of_ble_eq_true rfl) (Nat.le_of_ble_eq_true rfl) ⟨rfl, by rw [strongF, if_pos (Nat.le_of_not_lt fun q => c_3 (nI_lt q (by omega)))], rfl⟩
def SumsR (sh : List Sh) (h : Hp) (s : Nat) (L : List (Int64 × Int64)) (B K : Nat) : Prop := sh[s]? = some (.inr 7) ∧ h.2.2 s 0 = some (s + 1) ∧ h.2.2 s 1 = some (s + 2) ∧ sh[s + 1]? = some (.inl (.long, 500)) ∧ sh[s + 2]? = some (.inl (.long, 500)) ∧ h.1 s 2 = nI L.length ∧ L.length ≤ 500 ∧ h.1 s 3 = nI B ∧ h.1 s 4 = nI K ∧ ∀ j, j < L.length → h.2.1 (s + 1) j = (L.getD j (0, 0)).1 ∧ h.2.1 (s + 2) j = (L.getD j (0, 0)).2
theorem SumsR.off {sh : List Sh} {h h' : Hp} {s B K : Nat} {L : List (Int64 × Int64)} (S : SumsR sh h s L B K) (h1 : h'.1 s = h.1 s) (h2 : ∀ a, s ≤ a → a < s + 3 → h'.2.1 a = h.2.1 a) (h3 : h'.2.2 s = h.2.2 s) : SumsR sh h' s L B K := by
  obtain ⟨a1, a2, a3, a4, a5, a6, a7, a8, a9, a10⟩ := S
  exact ⟨a1, by rw [h3]; exact a2, by rw [h3]; exact a3, a4, a5, by rw [h1]; exact a6, a7, by rw [h1]; exact a8, by rw [h1]; exact a9, fun j hj => by rw [h2 _ (by omega) (by omega), h2 _ (by omega) (by omega)]; exact a10 j hj⟩
theorem SumsR.fr {sh : List Sh} {h h' : Hp} {s B K lo hi : Nat} {L : List (Int64 × Int64)} (S : SumsR sh h s L B K) (F : Fr lo hi h h') (hd : s + 3 ≤ lo ∨ hi ≤ s) : SumsR sh h' s L B K := S.off (F.2 s (by omega)).1 (fun a _ _ => (F.2 a (by omega)).2) (by rw [F.1])
theorem c_Sums_count {sh : List Sh} {h : Hp} {s : Nat} (hr : sh[s]? = some (.inr 7)) : Sp0 mX7_count [.ref s] sh h (fun v h' => v = some (.int (h.1 s 2)) ∧ h' = h) := by
  refine Sp0.of (by decide) (Nat.le_of_ble_eq_true rfl) ?_
  show E mX7_count none _ 0 [some (.ref s)] [] sh h 0 0
  refine E_aload_n dX7_count_0 rfl ?_
  refine E_getI dX7_count_1 fl_X7_18 (by first | assumption | rfl) rfl ?_
  exact E_reti dX7_count_4 rfl rfl (Nat.le_of_ble_eq_true rfl) (Nat.le_of_ble_eq_true rfl) ⟨rfl, rfl, rfl⟩
theorem c_Sums_block {sh : List Sh} {h : Hp} {s : Nat} (hr : sh[s]? = some (.inr 7)) : Sp0 mX7_block [.ref s] sh h (fun v h' => v = some (.int (h.1 s 3)) ∧ h' = h) := by
  refine Sp0.of (by decide) (Nat.le_of_ble_eq_true rfl) ?_
  show E mX7_block none _ 0 [some (.ref s)] [] sh h 0 0
  refine E_aload_n dX7_block_0 rfl ?_
  refine E_getI dX7_block_1 fl_X7_22 (by first | assumption | rfl) rfl ?_
  exact E_reti dX7_block_4 rfl rfl (Nat.le_of_ble_eq_true rfl) (Nat.le_of_ble_eq_true rfl) ⟨rfl, rfl, rfl⟩
theorem c_Sums_k {sh : List Sh} {h : Hp} {s : Nat} (hr : sh[s]? = some (.inr 7)) : Sp0 mX7_k [.ref s] sh h (fun v h' => v = some (.int (h.1 s 4)) ∧ h' = h) := by
  refine Sp0.of (by decide) (Nat.le_of_ble_eq_true rfl) ?_
  show E mX7_k none _ 0 [some (.ref s)] [] sh h 0 0
  refine E_aload_n dX7_k_0 rfl ?_
  refine E_getI dX7_k_1 fl_X7_25 (by first | assumption | rfl) rfl ?_
  exact E_reti dX7_k_4 rfl rfl (Nat.le_of_ble_eq_true rfl) (Nat.le_of_ble_eq_true rfl) ⟨rfl, rfl, rfl⟩
/-- WEAK and STRONG of block i of xs -/
def blk (B K : Nat) (xs : List Nat) (i : Nat) : Int64 × Int64 := (lN (wk B (fun j => xs.getD (B * i + j) 0)), strongF (dig ((xs.drop (B * i)).take B)) K)
def blks (B K : Nat) (xs : List Nat) : List (Int64 × Int64) := (List.range (xs.length / B)).map (blk B K xs)
theorem blks_len (B K : Nat) (xs : List Nat) : (blks B K xs).length = xs.length / B := by simp [blks]
theorem SumsR.push {sh : List Sh} {h : Hp} {s B K : Nat} {L : List (Int64 × Int64)} (S : SumsR sh h s L B K) (hl : L.length < 500) (p : Int64 × Int64) : SumsR sh (sI (sL (sL h (s + 1) L.length p.1) (s + 2) L.length p.2) s 2 (nI (L.length + 1))) s (L ++ [p]) B K := by
  obtain ⟨a1, a2, a3, a4, a5, a6, a7, a8, a9, a10⟩ := S
  refine ⟨a1, a2, a3, a4, a5, by simp [sI, u2], by simp; omega, by simp [sI, sL, u2, a8], by simp [sI, sL, u2, a9], fun j hj => ?_⟩
  simp at hj
  by_cases e : j = L.length
  · subst e
    simp [sI, sL, u2, List.getD]
  · have h2 : j < L.length := by omega
    have h1 := a10 j h2
    simp [sI, sL, u2, e, List.getD, List.getElem?_append_left h2] at h1 ⊢
    exact h1
theorem c_fillN {sh : List Sh} {h : Hp} {s B0 K0 B K : Nat} {L : List (Int64 × Int64)} (S : SumsR sh h s L B0 K0) : Sp0 mX7_fill [.ref s, .null, .int (nI B), .int (nI K)] sh h (fun v h' => v = none ∧ SumsR sh h' s [] B K ∧ Fr s (s + 3) h h') := by
  obtain ⟨a1, a2, a3, a4, a5, a6, a7, a8, a9, a10⟩ := S
  refine Sp0.of (by decide) (Nat.le_of_ble_eq_true rfl) ?_
  show E mX7_fill none _ 0 [some (.ref s), some .null, some (.int (nI B)), some (.int (nI K)), none] [] sh h 0 0
  refine E_aload_n dX7_fill_0 rfl ?_
  refine E_iload_n dX7_fill_1 rfl ?_
  refine E_putI dX7_fill_2 fl_X7_22 (by first | assumption | rfl) rfl ?_
  refine E_aload_n dX7_fill_5 rfl ?_
  refine E_iload_n dX7_fill_6 rfl ?_
  refine E_putI dX7_fill_7 fl_X7_25 (by first | assumption | rfl) rfl ?_
  refine E_aload_n dX7_fill_10 rfl ?_
  refine E_ic 0 dX7_fill_11 (by decide) ?_
  refine E_putI dX7_fill_12 fl_X7_18 (by first | assumption | rfl) rfl ?_
  refine E_aload_nN dX7_fill_15 rfl ?_
  refine E_ifnonnullN dX7_fill_16 ?_
  exact E_retv dX7_fill_19 rfl (Nat.le_of_ble_eq_true rfl) (Nat.le_of_ble_eq_true rfl) ⟨rfl, rfl, ⟨a1, a2, a3, a4, a5, by simp [sI, u2, nI], by simp, by simp [sI, u2], by simp [sI, u2], fun j hj => by simp at hj⟩, Fr_sI (Fr_sI (Fr_sI Fr.rf (by omega) (by omega)) (by omega) (by omega)) (by omega) (by omega)⟩
theorem c_fill {sh : List Sh} {h : Hp} {s B0 K0 B K r c : Nat} {L : List (Int64 × Int64)} {xs : List Nat} (S : SumsR sh h s L B0 K0) (R : RowL sh h r c 500 xs) (hX : ∀ x ∈ xs, x < 256) (hB0 : 0 < B) (hB : B ≤ 64) (hK : K ≤ 100) (hd : ∀ a, s ≤ a → a < s + 3 → a ≠ r ∧ a ≠ c) : Sp0 mX7_fill [.ref s, .ref r, .int (nI B), .int (nI K)] sh h (fun v h' => v = none ∧ SumsR sh h' s (blks B K xs) B K ∧ Fr s (s + 3) h h') := by
  obtain ⟨a1, a2, a3, a4, a5, a6, a7, a8, a9, a10⟩ := S
  have hm : xs.length ≤ 500 := R.2.2.2.2.1
  have hdiv : xs.length / B ≤ 500 := Nat.le_trans (Nat.div_le_self _ _) hm
  refine Sp0.of (by decide) (Nat.le_of_ble_eq_true rfl) ?_
  show E mX7_fill none _ 0 [some (.ref s), some (.ref r), some (.int (nI B)), some (.int (nI K)), none] [] sh h 0 0
  have loop : ∀ (n i : Nat) (h3 : Hp), xs.length / B - i ≤ n → i ≤ xs.length / B → SumsR sh h3 s ((List.range i).map (blk B K xs)) B K → Fr s (s + 3) h h3 → E mX7_fill none (fun v sh' h' => sh' = sh ∧ v = none ∧ SumsR sh h' s (blks B K xs) B K ∧ Fr s (s + 3) h h') 23 [some (.ref s), some (.ref r), some (.int (nI B)), some (.int (nI K)), some (.int (nI (B * i)))] [] sh h3 0 0 := by
    intro n
    induction n with
    | zero =>
      intro i h3 h1 h2 S3 F3
      have e : i = xs.length / B := by omega
      have R3 : RowL sh h3 r c 500 xs := R.keep (F3.2 r (by have := hd r; omega)).1 (F3.2 c (by have := hd c; omega)).1 (by rw [F3.1])
      have hr := R3.1
      have b6 := S3.2.2.2.2.2.1
      have b8 := S3.2.2.2.2.2.2.2.1
      have hmul : B * i ≤ 500 := by rw [e]; exact Nat.le_trans (Nat.mul_div_le _ _) hm
      have hmore : ¬ (B * i + B ≤ xs.length) := by
        intro q
        have : (i + 1) ≤ xs.length / B := by rw [Nat.le_div_iff_mul_le hB0, Nat.add_mul, Nat.mul_comm]; omega
        omega
      refine E_aload_n dX7_fill_23 rfl ?_
      refine E_getI dX7_fill_24 fl_X7_18 (by first | assumption | rfl) rfl ?_
      refine E_si 500 dX7_fill_27 (by decide) ?_
      rw [b6]
      refine E_icmp_ge 113 dX7_fill_30 (by decide) (fun c_30 => ?_) (fun c_30 => ?_)
      · exact E_retv dX7_fill_113 rfl (Nat.le_of_ble_eq_true rfl) (Nat.le_of_ble_eq_true rfl) ⟨rfl, rfl, by rw [blks, ← e]; exact S3, F3⟩
      · refine E_aload_n dX7_fill_33 rfl ?_
        refine E_iload dX7_fill_34 rfl ?_
        refine E_aload_n dX7_fill_36 rfl ?_
        refine E_getI dX7_fill_37 fl_X7_22 (by first | assumption | rfl) rfl ?_
        rw [b8]
        refine cV2 (N := mX3_holds) dX7_fill_40 cn_X3_holds lk_X7_28 ⟨Nat.le_of_ble_eq_true rfl, Nat.le_of_ble_eq_true rfl⟩ (by first | assumption | rfl) rfl (Nat.le_of_ble_eq_true rfl) ⟨rfl, rfl⟩ (c_Row_holds R3 _ _) (fun v4 h4 ⟨hv4, hh4⟩ => ?_)
        rw [hv4, hh4]
        rw [if_neg (by rw [nI_toInt (by omega), nI_toInt (by omega)]; omega)]
        refine E_if_eq 113 dX7_fill_43 (by decide) (fun c_43 => ?_) (fun c_43 => absurd rfl c_43)
        exact E_retv dX7_fill_113 rfl (Nat.le_of_ble_eq_true rfl) (Nat.le_of_ble_eq_true rfl) ⟨rfl, rfl, by rw [blks, ← e]; exact S3, F3⟩
    | succ n ih =>
      intro i h3 h1 h2 S3 F3
      have R3 : RowL sh h3 r c 500 xs := R.keep (F3.2 r (by have := hd r; omega)).1 (F3.2 c (by have := hd c; omega)).1 (by rw [F3.1])
      have hr := R3.1
      have b2 := S3.2.1
      have b3 := S3.2.2.1
      have b6 := S3.2.2.2.2.2.1
      have b8 := S3.2.2.2.2.2.2.2.1
      have b9 := S3.2.2.2.2.2.2.2.2.1
      have hmul : B * i ≤ 500 := Nat.le_trans (Nat.mul_le_mul_left _ h2) (Nat.le_trans (Nat.mul_div_le _ _) hm)
      rw [show ((List.range i).map (blk B K xs)).length = i by simp] at b6
      by_cases e : i = xs.length / B
      · have hmore : ¬ (B * i + B ≤ xs.length) := by
          intro q
          have : (i + 1) ≤ xs.length / B := by rw [Nat.le_div_iff_mul_le hB0, Nat.add_mul, Nat.mul_comm]; omega
          omega
        refine E_aload_n dX7_fill_23 rfl ?_
        refine E_getI dX7_fill_24 fl_X7_18 (by first | assumption | rfl) rfl ?_
        refine E_si 500 dX7_fill_27 (by decide) ?_
        rw [b6]
        refine E_icmp_ge 113 dX7_fill_30 (by decide) (fun c_30 => ?_) (fun c_30 => ?_)
        · exact E_retv dX7_fill_113 rfl (Nat.le_of_ble_eq_true rfl) (Nat.le_of_ble_eq_true rfl) ⟨rfl, rfl, by rw [blks, ← e]; exact S3, F3⟩
        · refine E_aload_n dX7_fill_33 rfl ?_
          refine E_iload dX7_fill_34 rfl ?_
          refine E_aload_n dX7_fill_36 rfl ?_
          refine E_getI dX7_fill_37 fl_X7_22 (by first | assumption | rfl) rfl ?_
          rw [b8]
          refine cV2 (N := mX3_holds) dX7_fill_40 cn_X3_holds lk_X7_28 ⟨Nat.le_of_ble_eq_true rfl, Nat.le_of_ble_eq_true rfl⟩ (by first | assumption | rfl) rfl (Nat.le_of_ble_eq_true rfl) ⟨rfl, rfl⟩ (c_Row_holds R3 _ _) (fun v4 h4 ⟨hv4, hh4⟩ => ?_)
          rw [hv4, hh4]
          rw [if_neg (by rw [nI_toInt (by omega), nI_toInt (by omega)]; omega)]
          refine E_if_eq 113 dX7_fill_43 (by decide) (fun c_43 => ?_) (fun c_43 => absurd rfl c_43)
          exact E_retv dX7_fill_113 rfl (Nat.le_of_ble_eq_true rfl) (Nat.le_of_ble_eq_true rfl) ⟨rfl, rfl, by rw [blks, ← e]; exact S3, F3⟩
      · have hmore : B * i + B ≤ xs.length := by
          have : (i + 1) ≤ xs.length / B := by omega
          rw [Nat.le_div_iff_mul_le hB0, Nat.add_mul, Nat.mul_comm] at this
          omega
        have hi : i < 500 := by omega
        refine E_aload_n dX7_fill_23 rfl ?_
        refine E_getI dX7_fill_24 fl_X7_18 (by first | assumption | rfl) rfl ?_
        refine E_si 500 dX7_fill_27 (by decide) ?_
        rw [b6]
        refine E_icmp_ge 113 dX7_fill_30 (by decide) (fun c_30 => absurd c_30 (by rw [show (500 : Int32) = nI 500 by decide]; exact nI_ge (by omega) (by omega))) (fun c_30 => ?_)
        refine E_aload_n dX7_fill_33 rfl ?_
        refine E_iload dX7_fill_34 rfl ?_
        refine E_aload_n dX7_fill_36 rfl ?_
        refine E_getI dX7_fill_37 fl_X7_22 (by first | assumption | rfl) rfl ?_
        rw [b8]
        refine cV2 (N := mX3_holds) dX7_fill_40 cn_X3_holds lk_X7_28 ⟨Nat.le_of_ble_eq_true rfl, Nat.le_of_ble_eq_true rfl⟩ (by first | assumption | rfl) rfl (Nat.le_of_ble_eq_true rfl) ⟨rfl, rfl⟩ (c_Row_holds R3 _ _) (fun v4 h4 ⟨hv4, hh4⟩ => ?_)
        rw [hv4, hh4]
        rw [if_pos (by rw [nI_toInt (by omega), nI_toInt (by omega)]; omega)]
        refine E_if_eq 113 dX7_fill_43 (by decide) (fun c_43 => absurd c_43 (by decide)) (fun c_43 => ?_)
        refine E_aload_n dX7_fill_46 rfl ?_
        refine E_getR dX7_fill_47 fl_X7_9 (by first | assumption | rfl) (by assumption) rfl ?_
        refine E_aload_n dX7_fill_50 rfl ?_
        refine E_getI dX7_fill_51 fl_X7_18 (by first | assumption | rfl) rfl ?_
        refine E_aload_n dX7_fill_54 rfl ?_
        refine E_iload dX7_fill_55 rfl ?_
        refine E_aload_n dX7_fill_57 rfl ?_
        refine E_getI dX7_fill_58 fl_X7_22 (by first | assumption | rfl) rfl ?_
        rw [b6, b8]
        refine cV2 (N := mX3_weakOf) dX7_fill_61 cn_X3_weakOf lk_X7_34 ⟨Nat.le_of_ble_eq_true rfl, Nat.le_of_ble_eq_true rfl⟩ (by first | assumption | rfl) rfl (Nat.le_of_ble_eq_true rfl) ⟨rfl, rfl⟩ (c_Row_weakOf R3 hX hB hmore) (fun v5 h5 ⟨hv5, hh5⟩ => ?_)
        rw [hv5, hh5]
        refine E_last dX7_fill_64 (by first | assumption | rfl) (vp_in_nI hi (by omega)) ?_
        rw [nI_clamp (by omega)]
        have R6 : RowL sh (sL h3 (s + 1) i (lN (wk B fun j => xs.getD (B * i + j) 0))) r c 500 xs := R3
        refine E_aload_n dX7_fill_65 rfl ?_
        refine E_getR dX7_fill_66 fl_X7_15 (by first | assumption | rfl) (by assumption) rfl ?_
        refine E_aload_n dX7_fill_69 rfl ?_
        refine E_getI dX7_fill_70 fl_X7_18 (by first | assumption | rfl) rfl ?_
        refine E_aload_n dX7_fill_73 rfl ?_
        refine E_iload dX7_fill_74 rfl ?_
        refine E_aload_n dX7_fill_76 rfl ?_
        refine E_getI dX7_fill_77 fl_X7_22 (by first | assumption | rfl) rfl ?_
        rw [show (sL h3 (s + 1) i (lN (wk B fun j => xs.getD (B * i + j) 0))).1 s 2 = nI i from b6, show (sL h3 (s + 1) i (lN (wk B fun j => xs.getD (B * i + j) 0))).1 s 3 = nI B from b8]
        refine cV2 (N := mX3_digestOf) dX7_fill_80 cn_X3_digestOf lk_X7_38 ⟨Nat.le_of_ble_eq_true rfl, Nat.le_of_ble_eq_true rfl⟩ (by first | assumption | rfl) rfl (Nat.le_of_ble_eq_true rfl) ⟨rfl, rfl⟩ (c_Row_digestOf R6 (by omega) (by omega)) (fun v7 h7 ⟨hv7, hh7⟩ => ?_)
        rw [hv7, hh7]
        refine E_aload_n dX7_fill_83 rfl ?_
        refine E_getI dX7_fill_84 fl_X7_25 (by first | assumption | rfl) rfl ?_
        rw [show (sL h3 (s + 1) i (lN (wk B fun j => xs.getD (B * i + j) 0))).1 s 4 = nI K from b9]
        refine cS2 (N := mX8_strong) dX7_fill_87 cn_X8_strong lk_X7_41 ⟨Nat.le_of_ble_eq_true rfl, Nat.le_of_ble_eq_true rfl⟩ (Nat.le_of_ble_eq_true rfl) ⟨rfl, rfl⟩ (c_strong _ hK) (fun v8 h8 ⟨hv8, hh8⟩ => ?_)
        rw [hv8, hh8]
        refine E_last dX7_fill_90 (by first | assumption | rfl) (vp_in_nI hi (by omega)) ?_
        rw [nI_clamp (by omega)]
        refine E_aload_n dX7_fill_91 rfl ?_
        refine E_dup rfl dX7_fill_92 ?_
        refine E_getI dX7_fill_93 fl_X7_18 (by first | assumption | rfl) rfl ?_
        refine E_ic 1 dX7_fill_96 (by decide) ?_
        rw [show (sL (sL h3 (s + 1) i (lN (wk B fun j => xs.getD (B * i + j) 0))) (s + 2) i (strongF (dig (List.take B (List.drop (B * i) xs))) K)).1 s 2 = nI i from b6]
        refine E_iadd dX7_fill_97 ?_
        rw [show (1 : Int32) = nI 1 by decide, nI_add]
        refine E_putI dX7_fill_98 fl_X7_18 (by first | assumption | rfl) rfl ?_
        refine E_iload dX7_fill_101 rfl ?_
        refine E_aload_n dX7_fill_103 rfl ?_
        refine E_getI dX7_fill_104 fl_X7_22 (by first | assumption | rfl) rfl ?_
        refine E_iadd dX7_fill_107 ?_
        refine E_istore dX7_fill_108 (by decide) ?_
        have b8' : (sI (sL (sL h3 (s + 1) i (lN (wk B fun j => xs.getD (B * i + j) 0))) (s + 2) i (strongF (dig (List.take B (List.drop (B * i) xs))) K)) s 2 (nI (i + 1))).1 s 3 = nI B := by simp [sI, sL, u2, b8]
        rw [b8', nI_add, show B * i + B = B * (i + 1) by rw [Nat.mul_add, Nat.mul_one]]
        refine E_goto 23 dX7_fill_110 (by decide) ?_
        have S9 := S3.push (by simp; omega) (blk B K xs i)
        rw [show ((List.range i).map (blk B K xs)).length = i by simp, show (List.range i).map (blk B K xs) ++ [blk B K xs i] = (List.range (i + 1)).map (blk B K xs) by simp [List.range_succ]] at S9
        exact ih (i + 1) _ (by omega) (by omega) S9 (Fr_sI (Fr_sL (Fr_sL F3 (by omega) (by omega)) (by omega) (by omega)) (by omega) (by omega))
  refine E_aload_n dX7_fill_0 rfl ?_
  refine E_iload_n dX7_fill_1 rfl ?_
  refine E_putI dX7_fill_2 fl_X7_22 (by first | assumption | rfl) rfl ?_
  refine E_aload_n dX7_fill_5 rfl ?_
  refine E_iload_n dX7_fill_6 rfl ?_
  refine E_putI dX7_fill_7 fl_X7_25 (by first | assumption | rfl) rfl ?_
  refine E_aload_n dX7_fill_10 rfl ?_
  refine E_ic 0 dX7_fill_11 (by decide) ?_
  refine E_putI dX7_fill_12 fl_X7_18 (by first | assumption | rfl) rfl ?_
  refine E_aload_n dX7_fill_15 rfl ?_
  refine E_ifnonnull 20 dX7_fill_16 (by decide) ?_
  refine E_ic 0 dX7_fill_20 (by decide) ?_
  refine E_istore dX7_fill_21 (by decide) ?_
  exact loop (xs.length / B) 0 _ (Nat.sub_le _ _) (Nat.zero_le _) ⟨a1, a2, a3, a4, a5, by simp [sI, u2, nI], by simp, by simp [sI, u2], by simp [sI, u2], fun j hj => by simp at hj⟩ (Fr_sI (Fr_sI (Fr_sI Fr.rf (by omega) (by omega)) (by omega) (by omega)) (by omega) (by omega))

