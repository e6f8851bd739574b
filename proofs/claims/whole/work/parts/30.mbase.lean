/-! the model: bytes with sign, digests, weak sums -/
def sb (b : Nat) : Int32 := (nI b).toInt8.toInt32
theorem sb_l : ∀ b, b < 256 → (sb b).toInt64 &&& 255 = (nI b).toInt64 := by decide +kernel
theorem sb_i : ∀ b, b < 256 → sb b &&& 255 = nI b := by decide +kernel
theorem sb_n : ∀ b, b < 256 → vp_nar .byte (sb b) = sb b := by decide +kernel
theorem nar_b (x : Int32) : vp_nar .byte x = x.toInt8.toInt32 := vp_nar_byte x
theorem i8_idem (x : Int32) : x.toInt8.toInt32.toInt8.toInt32 = x.toInt8.toInt32 := by
  congr 1
  simp
/-- a stretch of a byte array -/
def BSeg (h : Hp) (arr off : Nat) (xs : List Nat) : Prop := (∀ x ∈ xs, x < 256) ∧ ∀ j, j < xs.length → h.1 arr (off + j) = sb (xs.getD j 0)
theorem BSeg.at {h : Hp} {arr off : Nat} {xs : List Nat} (B : BSeg h arr off xs) {j : Nat} (hj : j < xs.length) : h.1 arr (off + j) = sb (xs.getD j 0) := B.2 j hj
theorem BSeg.lt {h : Hp} {arr off : Nat} {xs : List Nat} (B : BSeg h arr off xs) (j : Nat) : xs.getD j 0 < 256 := getD_lt B.1 j
theorem m_greater {sh : List Sh} {h : Hp} (x y : Int32) : Sp0 mX9_greater [.int x, .int y] sh h (fun v h' => v = some (.int (if y ≤ x then x else y)) ∧ h' = h) := by
  refine Sp0.of (by decide) (Nat.le_of_ble_eq_true rfl) ?_
  show E mX9_greater none _ 0 [some (.int x), some (.int y)] [] sh h 0 0
  refine E_iload_n dX9_greater_0 rfl ?_
  refine E_iload_n dX9_greater_1 rfl ?_
  refine E_icmp_ge 9 dX9_greater_2 (by decide) (fun c_2 => ?_) (fun c_2 => ?_)
  · refine E_iload_n dX9_greater_9 rfl ?_
    exact E_reti dX9_greater_10 rfl rfl (Nat.le_of_ble_eq_true rfl) (Nat.le_of_ble_eq_true rfl) ⟨rfl, by rw [if_pos c_2], rfl⟩
  · refine E_iload_n dX9_greater_5 rfl ?_
    refine E_goto 10 dX9_greater_6 (by decide) ?_
    exact E_reti dX9_greater_10 rfl rfl (Nat.le_of_ble_eq_true rfl) (Nat.le_of_ble_eq_true rfl) ⟨rfl, by rw [if_neg c_2], rfl⟩
theorem m_lesser {sh : List Sh} {h : Hp} (x y : Int32) : Sp0 mX9_lesser [.int x, .int y] sh h (fun v h' => v = some (.int (if y ≤ x then y else x)) ∧ h' = h) := by
  refine Sp0.of (by decide) (Nat.le_of_ble_eq_true rfl) ?_
  show E mX9_lesser none _ 0 [some (.int x), some (.int y)] [] sh h 0 0
  refine E_iload_n dX9_lesser_0 rfl ?_
  refine E_iload_n dX9_lesser_1 rfl ?_
  refine E_icmp_ge 9 dX9_lesser_2 (by decide) (fun c_2 => ?_) (fun c_2 => ?_)
  · refine E_iload_n dX9_lesser_9 rfl ?_
    exact E_reti dX9_lesser_10 rfl rfl (Nat.le_of_ble_eq_true rfl) (Nat.le_of_ble_eq_true rfl) ⟨rfl, by rw [if_pos c_2], rfl⟩
  · refine E_iload_n dX9_lesser_5 rfl ?_
    refine E_goto 10 dX9_lesser_6 (by decide) ?_
    exact E_reti dX9_lesser_10 rfl rfl (Nat.le_of_ble_eq_true rfl) (Nat.le_of_ble_eq_true rfl) ⟨rfl, by rw [if_neg c_2], rfl⟩
theorem eOk_int (e : Int32) : eOk e ↔ 0 ≤ e.toInt ∧ e.toInt ≤ 1 := by
  constructor
  · rintro (rfl | rfl) <;> decide
  · intro h
    obtain ⟨j, h1, h2⟩ := nI_of2 (x := e) (M := 1) (n := 1) (by decide) (by rw [i_lt, i_0]; omega) (by rw [i_le, show (1 : Int32).toInt = 1 by decide]; exact h.2)
    rcases (show j = 0 ∨ j = 1 by omega) with rfl | rfl
    · exact Or.inl (by rw [h2]; decide)
    · exact Or.inr (by rw [h2]; decide)
theorem m_isFile {sh : List Sh} {h : Hp} (e f : Int32) : Sp0 mX9_isFile [.int e, .int f] sh h (fun v h' => v = some (.int (if eOk e ∧ fOk f then 1 else 0)) ∧ h' = h) := by
  have h1 : (1 : Int32).toInt = 1 := by decide
  have h7 : (7 : Int32).toInt = 7 := by decide
  have hE := eOk_int e
  refine Sp0.of (by decide) (Nat.le_of_ble_eq_true rfl) ?_
  show E mX9_isFile none _ 0 [some (.int e), some (.int f)] [] sh h 0 0
  refine E_iload_n dX9_isFile_0 rfl ?_
  refine E_if_lt 23 dX9_isFile_1 (by decide) (fun c_1 => ?_) (fun c_1 => ?_)
  · refine E_ic 0 dX9_isFile_23 (by decide) ?_
    exact E_reti dX9_isFile_24 rfl rfl (Nat.le_of_ble_eq_true rfl) (Nat.le_of_ble_eq_true rfl) ⟨rfl, by rw [i_lt, i_0] at c_1; rw [if_neg (fun z => by have := hE.mp z.1; omega)], rfl⟩
  · refine E_iload_n dX9_isFile_4 rfl ?_
    refine E_ic 1 dX9_isFile_5 (by decide) ?_
    refine E_icmp_gt 23 dX9_isFile_6 (by decide) (fun c_6 => ?_) (fun c_6 => ?_)
    · refine E_ic 0 dX9_isFile_23 (by decide) ?_
      exact E_reti dX9_isFile_24 rfl rfl (Nat.le_of_ble_eq_true rfl) (Nat.le_of_ble_eq_true rfl) ⟨rfl, by rw [i_lt, h1] at c_6; rw [if_neg (fun z => by have := hE.mp z.1; omega)], rfl⟩
    · refine E_iload_n dX9_isFile_9 rfl ?_
      refine E_if_lt 23 dX9_isFile_10 (by decide) (fun c_10 => ?_) (fun c_10 => ?_)
      · refine E_ic 0 dX9_isFile_23 (by decide) ?_
        exact E_reti dX9_isFile_24 rfl rfl (Nat.le_of_ble_eq_true rfl) (Nat.le_of_ble_eq_true rfl) ⟨rfl, by rw [i_lt, i_0] at c_10; rw [if_neg (fun z => by have := z.2.1; omega)], rfl⟩
      · refine E_iload_n dX9_isFile_13 rfl ?_
        refine E_bi 7 dX9_isFile_14 (by decide) ?_
        refine E_icmp_gt 23 dX9_isFile_16 (by decide) (fun c_16 => ?_) (fun c_16 => ?_)
        · refine E_ic 0 dX9_isFile_23 (by decide) ?_
          exact E_reti dX9_isFile_24 rfl rfl (Nat.le_of_ble_eq_true rfl) (Nat.le_of_ble_eq_true rfl) ⟨rfl, by rw [i_lt, h7] at c_16; rw [if_neg (fun z => by have := z.2.2; omega)], rfl⟩
        · refine E_ic 1 dX9_isFile_19 (by decide) ?_
          refine E_goto 24 dX9_isFile_20 (by decide) ?_
          exact E_reti dX9_isFile_24 rfl rfl (Nat.le_of_ble_eq_true rfl) (Nat.le_of_ble_eq_true rfl) ⟨rfl, by rw [i_lt, i_0] at c_1 c_10; rw [i_lt, h1] at c_6; rw [i_lt, h7] at c_16; rw [if_pos ⟨hE.mpr (by omega), by omega, by omega⟩], rfl⟩
theorem m_digest {sh : List Sh} {h : Hp} {arr m off : Nat} {xs : List Nat} (hs : sh[arr]? = some (.inl (.byte, m))) (hm : m < 2 ^ 30) (B : BSeg h arr off xs) (hl : off + xs.length ≤ m) : Sp0 mX9_digest [.ref arr, .int (nI off), .int (nI xs.length)] sh h (fun v h' => v = some (.long (dig xs)) ∧ h' = h) := by
  refine Sp0.of (by decide) (Nat.le_of_ble_eq_true rfl) ?_
  show E mX9_digest none _ 0 [some (.ref arr), some (.int (nI off)), some (.int (nI xs.length)), none, none, none] [] sh h 0 0
  have loop : ∀ (n t : Nat), xs.length - t ≤ n → t ≤ xs.length → E mX9_digest none (fun v sh' h' => sh' = sh ∧ v = some (.long (dig xs)) ∧ h' = h) 7 [some (.ref arr), some (.int (nI off)), some (.int (nI xs.length)), some (.long ((xs.take t).foldl dstep dgE)), none, some (.int (nI t))] [] sh h 0 0 := by
    intro n
    induction n with
    | zero =>
      intro t h1 h2
      have e : t = xs.length := by omega
      subst e
      refine E_iload dX9_digest_7 rfl ?_
      refine E_iload_n dX9_digest_9 rfl ?_
      refine E_icmp_ge 37 dX9_digest_10 (by decide) (fun c_10 => ?_) (fun c_10 => absurd (nI_le (by omega) (by omega)) c_10)
      refine E_lload_n dX9_digest_37 rfl ?_
      exact E_retl dX9_digest_38 rfl (Nat.le_of_ble_eq_true rfl) (Nat.le_of_ble_eq_true rfl) ⟨rfl, by rw [List.take_length]; rfl, rfl⟩
    | succ n ih =>
      intro t h1 h2
      by_cases e : t = xs.length
      · subst e
        refine E_iload dX9_digest_7 rfl ?_
        refine E_iload_n dX9_digest_9 rfl ?_
        refine E_icmp_ge 37 dX9_digest_10 (by decide) (fun c_10 => ?_) (fun c_10 => absurd (nI_le (by omega) (by omega)) c_10)
        refine E_lload_n dX9_digest_37 rfl ?_
        exact E_retl dX9_digest_38 rfl (Nat.le_of_ble_eq_true rfl) (Nat.le_of_ble_eq_true rfl) ⟨rfl, by rw [List.take_length]; rfl, rfl⟩
      · refine E_iload dX9_digest_7 rfl ?_
        refine E_iload_n dX9_digest_9 rfl ?_
        refine E_icmp_ge 37 dX9_digest_10 (by decide) (fun c_10 => absurd c_10 (nI_ge (by omega) (by omega))) (fun c_10 => ?_)
        refine E_lload_n dX9_digest_13 rfl ?_
        refine E_aload_n dX9_digest_14 rfl ?_
        refine E_iload_n dX9_digest_15 rfl ?_
        refine E_iload dX9_digest_16 rfl ?_
        refine E_iadd dX9_digest_18 ?_
        rw [nI_add]
        refine E_bald dX9_digest_19 hs (vp_in_nI (by omega) (by omega)) ?_
        rw [nI_clamp (by omega), B.at (by omega)]
        refine E_i2l dX9_digest_20 ?_
        refine E_ldc2 dX9_digest_21 kl_X9_75 ?_
        refine E_land dX9_digest_24 ?_
        rw [sb_l _ (B.lt t)]
        refine E_lxor dX9_digest_25 ?_
        refine E_ldc2 dX9_digest_26 kl_X9_77 ?_
        refine E_lmul dX9_digest_29 ?_
        refine E_lstore_n dX9_digest_30 (by decide) ?_
        refine E_iinc dX9_digest_31 rfl (by decide) ?_
        refine E_goto 7 dX9_digest_34 (by decide) ?_
        rw [nI_inc]
        have h8 := ih (t + 1) (by omega) (by omega)
        rw [fold_take (by omega)] at h8
        exact h8
  refine E_ldc2 dX9_digest_0 kl_X9_73 ?_
  refine E_lstore_n dX9_digest_3 (by decide) ?_
  refine E_ic 0 dX9_digest_4 (by decide) ?_
  refine E_istore dX9_digest_5 (by decide) ?_
  exact loop xs.length 0 (by omega) (by omega)
theorem m_strong {sh : List Sh} {h : Hp} {arr m off k : Nat} {xs : List Nat} (hs : sh[arr]? = some (.inl (.byte, m))) (hm : m < 2 ^ 30) (B : BSeg h arr off xs) (hl : off + xs.length ≤ m) (hk : k ≤ 8) : Sp0 mX9_strong [.ref arr, .int (nI off), .int (nI xs.length), .int (nI k)] sh h (fun v h' => v = some (.long (strongF (dig xs) k)) ∧ h' = h) := by
  refine Sp0.of (by decide) (Nat.le_of_ble_eq_true rfl) ?_
  show E mX9_strong none _ 0 [some (.ref arr), some (.int (nI off)), some (.int (nI xs.length)), some (.int (nI k)), none, none] [] sh h 0 0
  refine E_aload_n dX9_strong_0 rfl ?_
  refine E_iload_n dX9_strong_1 rfl ?_
  refine E_iload_n dX9_strong_2 rfl ?_
  refine cS3 (N := mX9_digest) dX9_strong_3 cn_X9_digest lk_X9_79 ⟨Nat.le_of_ble_eq_true rfl, Nat.le_of_ble_eq_true rfl⟩ (Nat.le_of_ble_eq_true rfl) ⟨rfl, rfl⟩ (m_digest hs hm B hl) (fun v2 h2 ⟨hv2, hh2⟩ => ?_)
  rw [hv2, hh2]
  refine E_lstore dX9_strong_6 (by decide) ?_
  refine E_iload_n dX9_strong_8 rfl ?_
  refine E_bi 8 dX9_strong_9 (by decide) ?_
  rw [show (8 : Int32) = nI 8 by decide]
  refine E_icmp_ne 19 dX9_strong_11 (by decide) (fun c_11 => ?_) (fun c_11 => ?_)
  · refine E_lload dX9_strong_19 rfl ?_
    refine E_lc 1 dX9_strong_21 (by decide) ?_
    refine E_bi 8 dX9_strong_22 (by decide) ?_
    refine E_iload_n dX9_strong_24 rfl ?_
    rw [show (8 : Int32) = nI 8 by decide]
    refine E_imul dX9_strong_25 ?_
    rw [pk_mul]
    refine E_lshl dX9_strong_26 ?_
    refine E_lc 1 dX9_strong_27 (by decide) ?_
    refine E_lsub dX9_strong_28 ?_
    refine E_land dX9_strong_29 ?_
    exact E_retl dX9_strong_30 rfl (Nat.le_of_ble_eq_true rfl) (Nat.le_of_ble_eq_true rfl) ⟨rfl, by rw [strongF, if_neg (fun z => c_11 (by rw [show k = 8 by omega]))], rfl⟩
  · refine E_lload dX9_strong_14 rfl ?_
    refine E_goto 30 dX9_strong_16 (by decide) ?_
    exact E_retl dX9_strong_30 rfl (Nat.le_of_ble_eq_true rfl) (Nat.le_of_ble_eq_true rfl) ⟨rfl, by rw [strongF, if_pos (by have := (nI_eq (by omega) (by omega)).mp c_11; omega)], rfl⟩
theorem m_weakOf {sh : List Sh} {h : Hp} {arr m off : Nat} {xs : List Nat} (hs : sh[arr]? = some (.inl (.byte, m))) (hm : m < 2 ^ 30) (B : BSeg h arr off xs) (hl : off + xs.length ≤ m) (hk : xs.length ≤ 64) : Sp0 mX9_weakOf [.ref arr, .int (nI off), .int (nI xs.length)] sh h (fun v h' => v = some (.long (lN (wk xs.length (fun j => xs.getD j 0)))) ∧ h' = h) := by
  have hf : ∀ j, (fun j => xs.getD j 0) j < 256 := fun j => B.lt j
  generalize hfe : (fun j => xs.getD j 0) = f at hf ⊢
  have hfx : ∀ j, xs.getD j 0 = f j := fun j => by rw [← hfe]
  have fin : ∀ t, t ≤ 64 → (lN (pS f t) - lN (pS f t) / 65536 * 65536 + 65536 * (lN (wS xs.length f t) - lN (wS xs.length f t) / 65536 * 65536)) = lN (pS f t % 65536 + 65536 * (wS xs.length f t % 65536)) := by
    intro t ht
    have b1 := pS_le hf t
    have b2 := wS_le hk hf t
    rw [show (65536 : Int64) = lN 65536 by decide, pk_lRem (by omega) (by decide) (by decide), pk_lRem (by omega) (by decide) (by decide), lN_mul, lN_add]
  refine Sp0.of (by decide) (Nat.le_of_ble_eq_true rfl) ?_
  show E mX9_weakOf none _ 0 [some (.ref arr), some (.int (nI off)), some (.int (nI xs.length)), none, none, none, none, none] [] sh h 0 0
  have loop : ∀ (n t : Nat), xs.length - t ≤ n → t ≤ xs.length → E mX9_weakOf none (fun v sh' h' => sh' = sh ∧ v = some (.long (lN (wk xs.length f))) ∧ h' = h) 8 [some (.ref arr), some (.int (nI off)), some (.int (nI xs.length)), some (.long (lN (pS f t))), none, some (.long (lN (wS xs.length f t))), none, some (.int (nI t))] [] sh h 0 0 := by
    intro n
    induction n with
    | zero =>
      intro t h1 h2
      have e : t = xs.length := by omega
      subst e
      refine E_iload dX9_weakOf_8 rfl ?_
      refine E_iload_n dX9_weakOf_10 rfl ?_
      refine E_icmp_ge 56 dX9_weakOf_11 (by decide) (fun c_11 => ?_) (fun c_11 => absurd (nI_le (by omega) (by omega)) c_11)
      refine E_lload_n dX9_weakOf_56 rfl ?_
      refine E_ldc2 dX9_weakOf_57 kl_X9_83 ?_
      refine E_lrem (by decide) dX9_weakOf_60 ?_
      refine E_ldc2 dX9_weakOf_61 kl_X9_83 ?_
      refine E_lload dX9_weakOf_64 rfl ?_
      refine E_ldc2 dX9_weakOf_66 kl_X9_83 ?_
      refine E_lrem (by decide) dX9_weakOf_69 ?_
      refine E_lmul dX9_weakOf_70 ?_
      refine E_ladd dX9_weakOf_71 ?_
      exact E_retl dX9_weakOf_72 rfl (Nat.le_of_ble_eq_true rfl) (Nat.le_of_ble_eq_true rfl) ⟨rfl, by rw [fin _ hk, wk], rfl⟩
    | succ n ih =>
      intro t h1 h2
      by_cases e : t = xs.length
      · subst e
        refine E_iload dX9_weakOf_8 rfl ?_
        refine E_iload_n dX9_weakOf_10 rfl ?_
        refine E_icmp_ge 56 dX9_weakOf_11 (by decide) (fun c_11 => ?_) (fun c_11 => absurd (nI_le (by omega) (by omega)) c_11)
        refine E_lload_n dX9_weakOf_56 rfl ?_
        refine E_ldc2 dX9_weakOf_57 kl_X9_83 ?_
        refine E_lrem (by decide) dX9_weakOf_60 ?_
        refine E_ldc2 dX9_weakOf_61 kl_X9_83 ?_
        refine E_lload dX9_weakOf_64 rfl ?_
        refine E_ldc2 dX9_weakOf_66 kl_X9_83 ?_
        refine E_lrem (by decide) dX9_weakOf_69 ?_
        refine E_lmul dX9_weakOf_70 ?_
        refine E_ladd dX9_weakOf_71 ?_
        exact E_retl dX9_weakOf_72 rfl (Nat.le_of_ble_eq_true rfl) (Nat.le_of_ble_eq_true rfl) ⟨rfl, by rw [fin _ hk, wk], rfl⟩
      · have h256 := hf t
        refine E_iload dX9_weakOf_8 rfl ?_
        refine E_iload_n dX9_weakOf_10 rfl ?_
        refine E_icmp_ge 56 dX9_weakOf_11 (by decide) (fun c_11 => absurd c_11 (nI_ge (by omega) (by omega))) (fun c_11 => ?_)
        refine E_lload_n dX9_weakOf_14 rfl ?_
        refine E_aload_n dX9_weakOf_15 rfl ?_
        refine E_iload_n dX9_weakOf_16 rfl ?_
        refine E_iload dX9_weakOf_17 rfl ?_
        refine E_iadd dX9_weakOf_19 ?_
        rw [nI_add]
        refine E_bald dX9_weakOf_20 hs (vp_in_nI (by omega) (by omega)) ?_
        rw [nI_clamp (by omega), B.at (by omega)]
        refine E_i2l dX9_weakOf_21 ?_
        refine E_ldc2 dX9_weakOf_22 kl_X9_75 ?_
        refine E_land dX9_weakOf_25 ?_
        rw [sb_l _ (B.lt t), hfx, nI_l (by omega)]
        refine E_ladd dX9_weakOf_26 ?_
        rw [lN_add]
        refine E_lstore_n dX9_weakOf_27 (by decide) ?_
        refine E_lload dX9_weakOf_28 rfl ?_
        refine E_iload_n dX9_weakOf_30 rfl ?_
        refine E_iload dX9_weakOf_31 rfl ?_
        refine E_isub dX9_weakOf_33 ?_
        rw [pk_sub (by omega)]
        refine E_i2l dX9_weakOf_34 ?_
        rw [nI_l (by omega)]
        refine E_aload_n dX9_weakOf_35 rfl ?_
        refine E_iload_n dX9_weakOf_36 rfl ?_
        refine E_iload dX9_weakOf_37 rfl ?_
        refine E_iadd dX9_weakOf_39 ?_
        rw [nI_add]
        refine E_bald dX9_weakOf_40 hs (vp_in_nI (by omega) (by omega)) ?_
        rw [nI_clamp (by omega), B.at (by omega)]
        refine E_i2l dX9_weakOf_41 ?_
        refine E_ldc2 dX9_weakOf_42 kl_X9_75 ?_
        refine E_land dX9_weakOf_45 ?_
        rw [sb_l _ (B.lt t), hfx, nI_l (by omega)]
        refine E_lmul dX9_weakOf_46 ?_
        refine E_ladd dX9_weakOf_47 ?_
        refine E_lstore dX9_weakOf_48 (by decide) ?_
        refine E_iinc dX9_weakOf_50 rfl (by decide) ?_
        refine E_goto 8 dX9_weakOf_53 (by decide) ?_
        rw [nI_inc, lN_mul, lN_add]
        exact ih (t + 1) (by omega) (by omega)
  refine E_lc 0 dX9_weakOf_0 (by decide) ?_
  refine E_lstore_n dX9_weakOf_1 (by decide) ?_
  refine E_lc 0 dX9_weakOf_2 (by decide) ?_
  refine E_lstore dX9_weakOf_3 (by decide) ?_
  refine E_ic 0 dX9_weakOf_5 (by decide) ?_
  refine E_istore dX9_weakOf_6 (by decide) ?_
  exact loop xs.length 0 (by omega) (by omega)

