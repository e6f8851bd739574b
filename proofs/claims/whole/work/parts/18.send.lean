/-! RollingSync$Sender -/
def lkW (xs : List Nat) (p B : Nat) : Int64 := lN (wk B (fun j => xs.getD (p + j) 0))
def lkM (a : Ab) (xs : List Nat) (p B : Nat) : Bool := decide (p + B ≤ xs.length) && (a.2.2.2.2.2 1).any (fun q => decide (q.1 = lkW xs p B))
def lkF (a : Ab) (xs : List Nat) (p B K : Nat) : Int32 := findB (a.2.2.2.2.2 1) (lkW xs p B) (strongF (dig ((xs.drop p).take B)) K)
def lookR (a : Ab) (xs : List Nat) (p B K : Nat) : Int32 := if lkM a xs p B then lkF a xs p B K else -2
def lookS (a : Ab) (xs : List Nat) (p B K : Nat) : Ab := if lkM a xs p B then (if lkF a xs p B K = -2 then aI (aI a 14 (a.1 14 + 1)) 15 (a.1 15 + 1) else aI a 14 (a.1 14 + 1)) else a
theorem c_look {a : Ab} {h : Hp} (C : CRep a h) {r c p B K : Nat} {xs : List Nat} (R : RowL SH h r c 500 xs) (hX : ∀ x ∈ xs, x < 256) (hBK : a.2.2.1 4 = [B, K]) (hB2 : B ≤ 64) (hK2 : K ≤ 100) (hp : a.1 13 = nI p) (hp2 : p ≤ 600) (nr : r ≠ 49) (nc : c ≠ 49) : Sp0 mX5_look [.ref 49, .ref r] SH h (fun v h' => v = some (.int (lookR a xs p B K)) ∧ CRep (lookS a xs p B K) h' ∧ CF h h' ∧ RowL SH h' r c 500 xs ∧ h'.2.2 = h.2.2) := by
  have e13 : h.1 49 3 = a.1 13 := C.1 13 (by decide)
  have e14 : h.1 49 4 = a.1 14 := C.1 14 (by decide)
  have e15 : h.1 49 5 = a.1 15 := C.1 15 (by decide)
  rw [hp] at e13
  have r50 : h.2.2 49 0 = some 50 := C.2.2.1.2.2.2.2.2.2.2.2.2.2.2.2.1
  obtain ⟨B0, K0, hBK0, S⟩ := C.2.2.2.2.2.2.2.2.2.2.2
  rw [hBK] at hBK0
  cases hBK0
  have b3 := S.2.2.2.2.2.2.2.1
  have b4 := S.2.2.2.2.2.2.2.2.1
  have hs := R.1
  have hm : xs.length ≤ 500 := R.2.2.2.2.1
  refine Sp0.of (by decide) (Nat.le_of_ble_eq_true rfl) ?_
  show E mX5_look none _ 0 [some (.ref 49), some (.ref r), none, none, none, none] [] SH h 0 0
  by_cases h1 : p + B ≤ xs.length
  · cases hAny : (a.2.2.2.2.2 1).any (fun q => decide (q.1 = lkW xs p B)) with
    | false =>
      have hM : lkM a xs p B = false := by rw [lkM, hAny]; simp
      refine E_aload_n dX5_look_0 rfl ?_
      refine E_getR dX5_look_1 fl_X5_12 rfl r50 rfl ?_
      refine cV0 (N := mX7_block) dX5_look_4 cn_X7_block lk_X5_85 ⟨Nat.le_of_ble_eq_true rfl, Nat.le_of_ble_eq_true rfl⟩ rfl rfl (Nat.le_of_ble_eq_true rfl) ⟨rfl, rfl⟩ (c_Sums_block rfl) (fun v2 h2 ⟨hv2, hh2⟩ => ?_)
      rw [hv2, hh2, b3]
      refine E_istore_n dX5_look_7 (by decide) ?_
      refine E_aload_n dX5_look_8 rfl ?_
      refine E_aload_n dX5_look_9 rfl ?_
      refine E_getI dX5_look_10 fl_X5_36 rfl rfl ?_
      refine E_iload_n dX5_look_13 rfl ?_
      rw [e13]
      refine cV2 (N := mX3_holds) dX5_look_14 cn_X3_holds lk_X5_103 ⟨Nat.le_of_ble_eq_true rfl, Nat.le_of_ble_eq_true rfl⟩ hs rfl (Nat.le_of_ble_eq_true rfl) ⟨rfl, rfl⟩ (c_Row_holds R _ _) (fun v3 h3 ⟨hv3, hh3⟩ => ?_)
      rw [hv3, hh3, if_pos (by rw [nI_toInt (by omega), nI_toInt (by omega)]; omega)]
      refine E_if_ne 23 dX5_look_17 (by decide) (fun c_17 => ?_) (fun c_17 => absurd c_17 (by decide))
      refine E_aload_n dX5_look_23 rfl ?_
      refine E_aload_n dX5_look_24 rfl ?_
      refine E_getI dX5_look_25 fl_X5_36 rfl rfl ?_
      refine E_iload_n dX5_look_28 rfl ?_
      rw [e13]
      refine cV2 (N := mX3_weakOf) dX5_look_29 cn_X3_weakOf lk_X5_107 ⟨Nat.le_of_ble_eq_true rfl, Nat.le_of_ble_eq_true rfl⟩ hs rfl (Nat.le_of_ble_eq_true rfl) ⟨rfl, rfl⟩ (c_Row_weakOf R hX hB2 h1) (fun v4 h4 ⟨hv4, hh4⟩ => ?_)
      rw [hv4, hh4]
      refine E_lstore_n dX5_look_32 (by decide) ?_
      refine E_aload_n dX5_look_33 rfl ?_
      refine E_getR dX5_look_34 fl_X5_12 rfl r50 rfl ?_
      refine E_lload_n dX5_look_37 rfl ?_
      refine cV1 (N := mX7_hasWeak) dX5_look_38 cn_X7_hasWeak lk_X5_110 ⟨Nat.le_of_ble_eq_true rfl, Nat.le_of_ble_eq_true rfl⟩ rfl rfl (Nat.le_of_ble_eq_true rfl) ⟨rfl, rfl⟩ (c_hasWeak S _) (fun v5 h5 ⟨hv5, hh5⟩ => ?_)
      rw [hv5, hh5, show (a.2.2.2.2.2 1).any (fun q => decide (q.1 = lN (wk B fun j => xs.getD (p + j) 0))) = false from hAny]
      refine E_if_ne 47 dX5_look_41 (by decide) (fun c_41 => absurd (by decide) c_41) (fun c_41 => ?_)
      refine E_bi (-2) dX5_look_44 (by decide) ?_
      exact E_reti dX5_look_46 rfl rfl (Nat.le_of_ble_eq_true rfl) (Nat.le_of_ble_eq_true rfl) ⟨rfl, by rw [lookR, hM]; rfl, by rw [lookS, hM]; exact C, CF.rf, R, rfl⟩
    | true =>
      have hM : lkM a xs p B = true := by rw [lkM, hAny]; simp [h1]
      have C1 : CRep (aI a 14 (a.1 14 + 1)) (sI h 49 4 (a.1 14 + 1)) := C.setI 14 (a.1 14 + 1) (by decide) (by decide)
      have F1 : CF h (sI h 49 4 (a.1 14 + 1)) := CF_sI CF.rf (by decide)
      have R1 : RowL SH (sI h 49 4 (a.1 14 + 1)) r c 500 xs := R.keep (by funext j; simp [sI, u2, nr]) (by funext j; simp [sI, u2, nc]) rfl
      obtain ⟨B1, K1, hBK1, S1⟩ := C1.2.2.2.2.2.2.2.2.2.2.2
      rw [show (aI a 14 (a.1 14 + 1)).2.2.1 4 = a.2.2.1 4 from rfl, hBK] at hBK1
      cases hBK1
      have g13 : (sI h 49 4 (a.1 14 + 1)).1 49 3 = nI p := (C1.1 13 (by decide)).trans hp
      have g15 : (sI h 49 4 (a.1 14 + 1)).1 49 5 = a.1 15 := C1.1 15 (by decide)
      have g4 : (sI h 49 4 (a.1 14 + 1)).1 50 4 = nI K := S1.2.2.2.2.2.2.2.2.1
      refine E_aload_n dX5_look_0 rfl ?_
      refine E_getR dX5_look_1 fl_X5_12 rfl r50 rfl ?_
      refine cV0 (N := mX7_block) dX5_look_4 cn_X7_block lk_X5_85 ⟨Nat.le_of_ble_eq_true rfl, Nat.le_of_ble_eq_true rfl⟩ rfl rfl (Nat.le_of_ble_eq_true rfl) ⟨rfl, rfl⟩ (c_Sums_block rfl) (fun v2 h2 ⟨hv2, hh2⟩ => ?_)
      rw [hv2, hh2, b3]
      refine E_istore_n dX5_look_7 (by decide) ?_
      refine E_aload_n dX5_look_8 rfl ?_
      refine E_aload_n dX5_look_9 rfl ?_
      refine E_getI dX5_look_10 fl_X5_36 rfl rfl ?_
      refine E_iload_n dX5_look_13 rfl ?_
      rw [e13]
      refine cV2 (N := mX3_holds) dX5_look_14 cn_X3_holds lk_X5_103 ⟨Nat.le_of_ble_eq_true rfl, Nat.le_of_ble_eq_true rfl⟩ hs rfl (Nat.le_of_ble_eq_true rfl) ⟨rfl, rfl⟩ (c_Row_holds R _ _) (fun v3 h3 ⟨hv3, hh3⟩ => ?_)
      rw [hv3, hh3, if_pos (by rw [nI_toInt (by omega), nI_toInt (by omega)]; omega)]
      refine E_if_ne 23 dX5_look_17 (by decide) (fun c_17 => ?_) (fun c_17 => absurd c_17 (by decide))
      refine E_aload_n dX5_look_23 rfl ?_
      refine E_aload_n dX5_look_24 rfl ?_
      refine E_getI dX5_look_25 fl_X5_36 rfl rfl ?_
      refine E_iload_n dX5_look_28 rfl ?_
      rw [e13]
      refine cV2 (N := mX3_weakOf) dX5_look_29 cn_X3_weakOf lk_X5_107 ⟨Nat.le_of_ble_eq_true rfl, Nat.le_of_ble_eq_true rfl⟩ hs rfl (Nat.le_of_ble_eq_true rfl) ⟨rfl, rfl⟩ (c_Row_weakOf R hX hB2 h1) (fun v4 h4 ⟨hv4, hh4⟩ => ?_)
      rw [hv4, hh4]
      refine E_lstore_n dX5_look_32 (by decide) ?_
      refine E_aload_n dX5_look_33 rfl ?_
      refine E_getR dX5_look_34 fl_X5_12 rfl r50 rfl ?_
      refine E_lload_n dX5_look_37 rfl ?_
      refine cV1 (N := mX7_hasWeak) dX5_look_38 cn_X7_hasWeak lk_X5_110 ⟨Nat.le_of_ble_eq_true rfl, Nat.le_of_ble_eq_true rfl⟩ rfl rfl (Nat.le_of_ble_eq_true rfl) ⟨rfl, rfl⟩ (c_hasWeak S _) (fun v5 h5 ⟨hv5, hh5⟩ => ?_)
      rw [hv5, hh5, show (a.2.2.2.2.2 1).any (fun q => decide (q.1 = lN (wk B fun j => xs.getD (p + j) 0))) = true from hAny]
      refine E_if_ne 47 dX5_look_41 (by decide) (fun c_41 => ?_) (fun c_41 => absurd c_41 (by decide))
      refine E_aload_n dX5_look_47 rfl ?_
      refine E_dup rfl dX5_look_48 ?_
      refine E_getI dX5_look_49 fl_X5_22 rfl rfl ?_
      refine E_ic 1 dX5_look_52 (by decide) ?_
      rw [e14]
      refine E_iadd dX5_look_53 ?_
      refine E_putI dX5_look_54 fl_X5_22 rfl rfl ?_
      refine E_aload_n dX5_look_57 rfl ?_
      refine E_getR dX5_look_58 fl_X5_12 rfl r50 rfl ?_
      refine E_lload_n dX5_look_61 rfl ?_
      refine E_aload_n dX5_look_62 rfl ?_
      refine E_aload_n dX5_look_63 rfl ?_
      refine E_getI dX5_look_64 fl_X5_36 rfl rfl ?_
      refine E_iload_n dX5_look_67 rfl ?_
      rw [g13]
      refine cV2 (N := mX3_digestOf) dX5_look_68 cn_X3_digestOf lk_X5_73 ⟨Nat.le_of_ble_eq_true rfl, Nat.le_of_ble_eq_true rfl⟩ hs rfl (Nat.le_of_ble_eq_true rfl) ⟨rfl, rfl⟩ (c_Row_digestOf R1 (by omega) (by omega)) (fun v6 h6 ⟨hv6, hh6⟩ => ?_)
      rw [hv6, hh6]
      refine E_aload_n dX5_look_71 rfl ?_
      refine E_getR dX5_look_72 fl_X5_12 rfl r50 rfl ?_
      refine cV0 (N := mX7_k) dX5_look_75 cn_X7_k lk_X5_114 ⟨Nat.le_of_ble_eq_true rfl, Nat.le_of_ble_eq_true rfl⟩ rfl rfl (Nat.le_of_ble_eq_true rfl) ⟨rfl, rfl⟩ (c_Sums_k rfl) (fun v7 h7 ⟨hv7, hh7⟩ => ?_)
      rw [hv7, hh7, g4]
      refine cS2 (N := mX8_strong) dX5_look_78 cn_X8_strong lk_X5_117 ⟨Nat.le_of_ble_eq_true rfl, Nat.le_of_ble_eq_true rfl⟩ (Nat.le_of_ble_eq_true rfl) ⟨rfl, rfl⟩ (c_strong _ hK2) (fun v8 h8 ⟨hv8, hh8⟩ => ?_)
      rw [hv8, hh8]
      refine cV2 (N := mX7_find) dX5_look_81 cn_X7_find lk_X5_121 ⟨Nat.le_of_ble_eq_true rfl, Nat.le_of_ble_eq_true rfl⟩ rfl rfl (Nat.le_of_ble_eq_true rfl) ⟨rfl, rfl⟩ (c_find S1 _ _) (fun v9 h9 ⟨hv9, hh9⟩ => ?_)
      rw [hv9, hh9]
      refine E_istore dX5_look_84 (by decide) ?_
      have hF : findB (a.2.2.2.2.2 1) (lN (wk B fun j => xs.getD (p + j) 0)) (strongF (dig (List.take B (List.drop p xs))) K) = lkF a xs p B K := rfl
      refine E_iload dX5_look_86 rfl ?_
      refine E_bi (-2) dX5_look_88 (by decide) ?_
      refine E_icmp_ne 103 dX5_look_90 (by decide) (fun c_90 => ?_) (fun c_90 => ?_)
      · refine E_iload dX5_look_103 rfl ?_
        exact E_reti dX5_look_105 rfl rfl (Nat.le_of_ble_eq_true rfl) (Nat.le_of_ble_eq_true rfl) ⟨rfl, by rw [lookR, hM]; rfl, by rw [lookS, hM, if_pos rfl, if_neg (show ¬ lkF a xs p B K = -2 from c_90)]; exact C1, F1, R1, rfl⟩
      · refine E_aload_n dX5_look_93 rfl ?_
        refine E_dup rfl dX5_look_94 ?_
        refine E_getI dX5_look_95 fl_X5_26 rfl rfl ?_
        rw [g15]
        refine E_ic 1 dX5_look_98 (by decide) ?_
        refine E_iadd dX5_look_99 ?_
        refine E_putI dX5_look_100 fl_X5_26 rfl rfl ?_
        refine E_iload dX5_look_103 rfl ?_
        have C2 := C1.setI 15 (a.1 15 + 1) (by decide) (by decide)
        exact E_reti dX5_look_105 rfl rfl (Nat.le_of_ble_eq_true rfl) (Nat.le_of_ble_eq_true rfl) ⟨rfl, by rw [lookR, hM]; rfl, by rw [lookS, hM, if_pos rfl, if_pos (show lkF a xs p B K = -2 from c_90)]; exact C2, CF_sI F1 (by decide), R1.keep (by funext j; simp [sI, u2, nr]) (by funext j; simp [sI, u2, nc]) rfl, rfl⟩
  · have hM : lkM a xs p B = false := by rw [lkM]; simp [h1]
    refine E_aload_n dX5_look_0 rfl ?_
    refine E_getR dX5_look_1 fl_X5_12 rfl r50 rfl ?_
    refine cV0 (N := mX7_block) dX5_look_4 cn_X7_block lk_X5_85 ⟨Nat.le_of_ble_eq_true rfl, Nat.le_of_ble_eq_true rfl⟩ rfl rfl (Nat.le_of_ble_eq_true rfl) ⟨rfl, rfl⟩ (c_Sums_block rfl) (fun v2 h2 ⟨hv2, hh2⟩ => ?_)
    rw [hv2, hh2, b3]
    refine E_istore_n dX5_look_7 (by decide) ?_
    refine E_aload_n dX5_look_8 rfl ?_
    refine E_aload_n dX5_look_9 rfl ?_
    refine E_getI dX5_look_10 fl_X5_36 rfl rfl ?_
    refine E_iload_n dX5_look_13 rfl ?_
    rw [e13]
    refine cV2 (N := mX3_holds) dX5_look_14 cn_X3_holds lk_X5_103 ⟨Nat.le_of_ble_eq_true rfl, Nat.le_of_ble_eq_true rfl⟩ hs rfl (Nat.le_of_ble_eq_true rfl) ⟨rfl, rfl⟩ (c_Row_holds R _ _) (fun v3 h3 ⟨hv3, hh3⟩ => ?_)
    rw [hv3, hh3, if_neg (by rw [nI_toInt (by omega), nI_toInt (by omega)]; omega)]
    refine E_if_ne 23 dX5_look_17 (by decide) (fun c_17 => absurd rfl c_17) (fun c_17 => ?_)
    refine E_bi (-2) dX5_look_20 (by decide) ?_
    exact E_reti dX5_look_22 rfl rfl (Nat.le_of_ble_eq_true rfl) (Nat.le_of_ble_eq_true rfl) ⟨rfl, by rw [lookR, hM]; rfl, by rw [lookS, hM]; exact C, CF.rf, R, rfl⟩
theorem lookS_i (a : Ab) (xs : List Nat) (p B K : Nat) {k : Nat} (h1 : k ≠ 14) (h2 : k ≠ 15) : (lookS a xs p B K).1 k = a.1 k := by
  unfold lookS
  split
  · split <;> simp [aI, va_up, h1, h2]
  · rfl
theorem lookS_2 (a : Ab) (xs : List Nat) (p B K : Nat) : (lookS a xs p B K).2 = a.2 := by
  unfold lookS
  split
  · split <;> rfl
  · rfl
def pLoop (xs : List Nat) (B K : Nat) : Nat → Nat → Ab → Ab
  | 0, _, a => a
  | n + 1, p, a => if p < xs.length then (if n = 0 then aI (aN a 2 (a.2.2.1 2 ++ [xs.getD p 0])) 13 (nI (p + 1)) else if lookR (aI (aN a 2 (a.2.2.1 2 ++ [xs.getD p 0])) 13 (nI (p + 1))) xs (p + 1) B K = -2 then pLoop xs B K n (p + 1) (lookS (aI (aN a 2 (a.2.2.1 2 ++ [xs.getD p 0])) 13 (nI (p + 1))) xs (p + 1) B K) else lookS (aI (aN a 2 (a.2.2.1 2 ++ [xs.getD p 0])) 13 (nI (p + 1))) xs (p + 1) B K) else a
def partA (a : Ab) (xs : List Nat) (p B K : Nat) : Ab := if lookR a xs p B K = -2 then aI (aI (pLoop xs B K 16 p (aN (lookS a xs p B K) 2 [])) 9 4) 10 (2 + nI ((pLoop xs B K 16 p (aN (lookS a xs p B K) 2 [])).2.2.1 2).length) else aI (aI (aI (aI (lookS a xs p B K) 9 5) 10 4) 11 (lookR a xs p B K)) 13 (nI p + nI B)
theorem bytes_ok {a : Ab} {h : Hp} (C : CRep a h) : RowL SH h 44 45 16 (a.2.2.1 2) ∧ ∀ x ∈ a.2.2.1 2, x < 256 := C.2.2.2.2.2.2.2.1
theorem getD_lt {xs : List Nat} (h : ∀ x ∈ xs, x < 256) (p : Nat) : xs.getD p 0 < 256 := by
  by_cases hp : p < xs.length
  · rw [List.getD_eq_getElem?_getD, List.getElem?_eq_getElem hp]
    exact h _ (List.getElem_mem hp)
  · rw [List.getD_eq_getElem?_getD, List.getElem?_eq_none (by omega)]
    decide
theorem gI_at {xs : List Nat} {p : Nat} (h : p < xs.length) (hx : xs.length ≤ 500) : gI xs (nI p) = nI (xs.getD p 0) := by
  rw [gI, if_pos (by rw [nI_toInt (by omega)]; omega), nI_clamp (by omega)]
theorem c_pLoop {r c B K : Nat} {xs : List Nat} (hX : ∀ x ∈ xs, x < 256) (hB2 : B ≤ 64) (hK2 : K ≤ 100) (hm : xs.length ≤ 500) (nr : r < 41) (nc : c < 41) {Q : QT} (h0 : Hp) (x3 : Option Value) : ∀ (n i p : Nat) (a : Ab) (h : Hp), n + i = 17 → CRep a h → CF h0 h → RowL SH h r c 500 xs → a.2.2.1 4 = [B, K] → a.1 13 = nI p → p ≤ xs.length → (a.2.2.1 2).length + 1 = i → (∀ h' x3 x5, CRep (pLoop xs B K n p a) h' → CF h0 h' → E mX5_makePart none Q 121 [some (.ref 49), some (.ref 43), some (.ref r), x3, some (.ref 44), x5] [] SH h' 0 0) → E mX5_makePart none Q 55 [some (.ref 49), some (.ref 43), some (.ref r), some (.int (-2)), some (.ref 44), some (.int (nI i))] [] SH h 0 0 := by
  intro n
  induction n with
  | zero =>
    intro i p a h hn C F R hBK hp hpl hlen kk
    have e : i = 17 := by omega
    subst e
    refine E_iload dX5_makePart_55 rfl ?_
    refine E_bi 16 dX5_makePart_57 (by decide) ?_
    refine E_icmp_gt 121 dX5_makePart_59 (by decide) (fun c_59 => ?_) (fun c_59 => absurd (by decide) c_59)
    exact kk h _ _ C F
  | succ n ih =>
    intro i p a h hn C F R hBK hp hpl hlen kk
    have e13 : h.1 49 3 = nI p := (C.1 13 (by decide)).trans hp
    have hs := R.1
    have hi16 : ¬ (16 : Int32) < nI i := by rw [show (16 : Int32) = nI 16 by decide]; exact nI_nlt (by omega) (by omega)
    by_cases hlt : p < xs.length
    · have Y := bytes_ok C
      rw [pLoop, if_pos hlt] at kk
      refine E_iload dX5_makePart_55 rfl ?_
      refine E_bi 16 dX5_makePart_57 (by decide) ?_
      refine E_icmp_gt 121 dX5_makePart_59 (by decide) (fun c_59 => absurd c_59 hi16) (fun c_59 => ?_)
      refine E_iload_n dX5_makePart_62 rfl ?_
      refine E_bi (-2) dX5_makePart_63 (by decide) ?_
      refine E_icmp_ne 121 dX5_makePart_65 (by decide) (fun c_65 => absurd rfl c_65) (fun c_65 => ?_)
      refine E_aload_n dX5_makePart_68 rfl ?_
      refine E_getI dX5_makePart_69 fl_X5_36 rfl rfl ?_
      refine E_aload_n dX5_makePart_72 rfl ?_
      refine cV0 (N := mX3_count) dX5_makePart_73 cn_X3_count lk_X5_65 ⟨Nat.le_of_ble_eq_true rfl, Nat.le_of_ble_eq_true rfl⟩ hs rfl (Nat.le_of_ble_eq_true rfl) ⟨rfl, rfl⟩ (c_Row_count hs) (fun v2 h2 ⟨hv2, hh2⟩ => ?_)
      rw [hv2, hh2, R.2.2.2.1]
      rw [e13]
      refine E_icmp_ge 121 dX5_makePart_76 (by decide) (fun c_76 => absurd c_76 (nI_ge hlt (by omega))) (fun c_76 => ?_)
      refine E_aload dX5_makePart_79 rfl ?_
      refine E_aload_n dX5_makePart_81 rfl ?_
      refine E_aload_n dX5_makePart_82 rfl ?_
      refine E_getI dX5_makePart_83 fl_X5_36 rfl rfl ?_
      rw [e13]
      refine cV1 (N := mX3_get) dX5_makePart_86 cn_X3_get lk_X5_96 ⟨Nat.le_of_ble_eq_true rfl, Nat.le_of_ble_eq_true rfl⟩ hs rfl (Nat.le_of_ble_eq_true rfl) ⟨rfl, rfl⟩ (c_Row_get R _) (fun v3 h3 ⟨hv3, hh3⟩ => ?_)
      rw [hv3, hh3, gI_at hlt hm]
      refine cV1 (N := mX3_add) dX5_makePart_89 cn_X3_add lk_X5_100 ⟨Nat.le_of_ble_eq_true rfl, Nat.le_of_ble_eq_true rfl⟩ rfl rfl (Nat.le_of_ble_eq_true rfl) ⟨rfl, rfl⟩ (c_Row_add Y.1 _) (fun v4 h4 ⟨hv4, R4, F4⟩ => ?_)
      rw [hv4]
      rw [rset, if_neg (by omega), if_pos (by omega)] at R4
      have C4 := C.bytes R4 F4 (app_lt Y.2 (fun x hx => by rw [List.mem_singleton.mp hx]; exact getD_lt hX p))
      have G4 := CF_row F F4 (by decide) (by decide)
      have S4 := R.other F4 (by omega) (by omega) (by omega) (by omega)
      have g13 : h4.1 49 3 = nI p := (C4.1 13 (by decide)).trans hp
      refine E_aload_n dX5_makePart_92 rfl ?_
      refine E_dup rfl dX5_makePart_93 ?_
      refine E_getI dX5_makePart_94 fl_X5_36 rfl rfl ?_
      refine E_ic 1 dX5_makePart_97 (by decide) ?_
      rw [g13]
      refine E_iadd dX5_makePart_98 ?_
      rw [nI_1]
      refine E_putI dX5_makePart_99 fl_X5_36 rfl rfl ?_
      have C5 := C4.setI 13 (nI (p + 1)) (by decide) (by decide)
      have G5 : CF h0 (sI h4 49 3 (nI (p + 1))) := CF_sI G4 (by decide)
      have S5 : RowL SH (sI h4 49 3 (nI (p + 1))) r c 500 xs := S4.keep (by funext j; have : r ≠ 49 := (by omega); simp [sI, u2, this]) (by funext j; have : c ≠ 49 := (by omega); simp [sI, u2, this]) rfl
      refine E_iload dX5_makePart_102 rfl ?_
      refine E_bi 16 dX5_makePart_104 (by decide) ?_
      rw [show (16 : Int32) = nI 16 by decide]
      refine E_icmp_ge 115 dX5_makePart_106 (by decide) (fun c_106 => ?_) (fun c_106 => ?_)
      · have hn0 : n = 0 := by have := (nI_leI (by omega) (by omega)).mp c_106; omega
        rw [if_pos hn0] at kk
        refine E_iinc dX5_makePart_115 rfl (by decide) ?_
        rw [nI_inc]
        refine E_goto 55 dX5_makePart_118 (by decide) ?_
        subst hn0
        exact ih (i + 1) (p + 1) _ _ (by omega) C5 G5 S5 hBK (by simp [aI, va_up]) (by omega) (by show ((aN a 2 _).2.2.1 2).length + 1 = _; rw [aN_at]; simp; omega) (fun h' x3 x5 c1 c2 => kk h' x3 x5 c1 c2)
      · refine E_aload_n dX5_makePart_109 rfl ?_
        refine E_aload_n dX5_makePart_110 rfl ?_
        have hn0 : ¬ n = 0 := fun q => c_106 (nI_le (by omega) (by omega))
        rw [if_neg hn0] at kk
        refine cV1 (N := mX5_look) dX5_makePart_111 cn_X5_look lk_X5_81 ⟨Nat.le_of_ble_eq_true rfl, Nat.le_of_ble_eq_true rfl⟩ rfl rfl (Nat.le_of_ble_eq_true rfl) ⟨rfl, rfl⟩ (c_look (p := p + 1) C5 S5 hX hBK hB2 hK2 (by simp [aI, va_up]) (by omega) (by omega) (by omega)) (fun v6 h6 ⟨hv6, C6, G6, S6, _⟩ => ?_)
        rw [hv6]
        refine E_istore_n dX5_makePart_114 (by decide) ?_
        refine E_iinc dX5_makePart_115 rfl (by decide) ?_
        rw [nI_inc]
        refine E_goto 55 dX5_makePart_118 (by decide) ?_
        by_cases hl : lookR (aI (aN a 2 (a.2.2.1 2 ++ [xs.getD p 0])) 13 (nI (p + 1))) xs (p + 1) B K = -2
        · rw [if_pos hl] at kk
          rw [hl]
          exact ih (i + 1) (p + 1) _ h6 (by omega) C6 (G5.tr G6) S6 (by rw [lookS_2]; exact hBK) (by rw [lookS_i _ _ _ _ _ (by decide) (by decide)]; simp [aI, va_up]) (by omega) (by rw [lookS_2]; show ((aN a 2 _).2.2.1 2).length + 1 = _; rw [aN_at]; simp; omega) kk
        · rw [if_neg hl] at kk
          refine E_iload dX5_makePart_55 rfl ?_
          refine E_bi 16 dX5_makePart_57 (by decide) ?_
          refine E_icmp_gt 121 dX5_makePart_59 (by decide) (fun _ => kk h6 _ _ C6 (G5.tr G6)) (fun _ => ?_)
          refine E_iload_n dX5_makePart_62 rfl ?_
          refine E_bi (-2) dX5_makePart_63 (by decide) ?_
          exact E_icmp_ne 121 dX5_makePart_65 (by decide) (fun _ => kk h6 _ _ C6 (G5.tr G6)) (fun q => absurd q hl)
    · rw [pLoop, if_neg hlt] at kk
      refine E_iload dX5_makePart_55 rfl ?_
      refine E_bi 16 dX5_makePart_57 (by decide) ?_
      refine E_icmp_gt 121 dX5_makePart_59 (by decide) (fun c_59 => absurd c_59 hi16) (fun c_59 => ?_)
      refine E_iload_n dX5_makePart_62 rfl ?_
      refine E_bi (-2) dX5_makePart_63 (by decide) ?_
      refine E_icmp_ne 121 dX5_makePart_65 (by decide) (fun c_65 => absurd rfl c_65) (fun c_65 => ?_)
      refine E_aload_n dX5_makePart_68 rfl ?_
      refine E_getI dX5_makePart_69 fl_X5_36 rfl rfl ?_
      refine E_aload_n dX5_makePart_72 rfl ?_
      refine cV0 (N := mX3_count) dX5_makePart_73 cn_X3_count lk_X5_65 ⟨Nat.le_of_ble_eq_true rfl, Nat.le_of_ble_eq_true rfl⟩ hs rfl (Nat.le_of_ble_eq_true rfl) ⟨rfl, rfl⟩ (c_Row_count hs) (fun v2 h2 ⟨hv2, hh2⟩ => ?_)
      rw [hv2, hh2, R.2.2.2.1]
      rw [e13]
      refine E_icmp_ge 121 dX5_makePart_76 (by decide) (fun c_76 => ?_) (fun c_76 => absurd (nI_le (by omega) (by omega)) c_76)
      exact kk h _ _ C F
theorem part_tail {b : Ab} {h h5 : Hp} {r : Nat} {x3 x5 : Option Value} (C5 : CRep b h5) (F5 : CF h h5) : E mX5_makePart none (fun v sh' h' => sh' = SH ∧ v = none ∧ CRep (aI (aI b 9 4) 10 (2 + nI (b.2.2.1 2).length)) h' ∧ CF h h') 121 [some (.ref 49), some (.ref 43), some (.ref r), x3, some (.ref 44), x5] [] SH h5 0 0 := by
  have Y5 := bytes_ok C5
  refine E_aload_n dX5_makePart_121 rfl ?_
  refine E_ic 4 dX5_makePart_122 (by decide) ?_
  refine E_ic 2 dX5_makePart_123 (by decide) ?_
  refine E_aload dX5_makePart_124 rfl ?_
  refine cV0 (N := mX3_count) dX5_makePart_126 cn_X3_count lk_X5_65 ⟨Nat.le_of_ble_eq_true rfl, Nat.le_of_ble_eq_true rfl⟩ rfl rfl (Nat.le_of_ble_eq_true rfl) ⟨rfl, rfl⟩ (c_Row_count rfl) (fun v6 h6 ⟨hv6, hh6⟩ => ?_)
  rw [hv6, hh6, Y5.1.2.2.2.1]
  refine E_iadd dX5_makePart_129 ?_
  refine cV2 (N := mX1_become) dX5_makePart_130 cn_X1_become lk_X5_39 ⟨Nat.le_of_ble_eq_true rfl, Nat.le_of_ble_eq_true rfl⟩ rfl rfl (Nat.le_of_ble_eq_true rfl) ⟨rfl, rfl⟩ (c_become rfl _ _) (fun v7 h7 ⟨hv7, hh7⟩ => ?_)
  rw [hv7, hh7]
  have C8 := C5.setI 9 4 (by decide) (by decide)
  have C9 := C8.setI 10 (2 + nI (b.2.2.1 2).length) (by decide) (by decide)
  exact E_retv dX5_makePart_133 rfl (Nat.le_of_ble_eq_true rfl) (Nat.le_of_ble_eq_true rfl) ⟨rfl, rfl, C9, CF_sI (CF_sI F5 (by decide)) (by decide)⟩
theorem c_makePart {a : Ab} {h : Hp} (C : CRep a h) {r c p B K : Nat} {xs : List Nat} (R : RowL SH h r c 500 xs) (hX : ∀ x ∈ xs, x < 256) (hBK : a.2.2.1 4 = [B, K]) (hB2 : B ≤ 64) (hK2 : K ≤ 100) (hp : a.1 13 = nI p) (hpl : p ≤ xs.length) (nr : r < 41) (nc : c < 41) : Sp0 mX5_makePart [.ref 49, .ref 43, .ref r] SH h (fun v h' => v = none ∧ CRep (partA a xs p B K) h' ∧ CF h h') := by
  have hm : xs.length ≤ 500 := R.2.2.2.2.1
  have hs := R.1
  refine Sp0.of (by decide) (Nat.le_of_ble_eq_true rfl) ?_
  show E mX5_makePart none _ 0 [some (.ref 49), some (.ref 43), some (.ref r), none, none, none] [] SH h 0 0
  by_cases hl : lookR a xs p B K = -2
  · rw [partA, if_pos hl]
    refine E_aload_n dX5_makePart_0 rfl ?_
    refine E_aload_n dX5_makePart_1 rfl ?_
    refine cV1 (N := mX5_look) dX5_makePart_2 cn_X5_look lk_X5_81 ⟨Nat.le_of_ble_eq_true rfl, Nat.le_of_ble_eq_true rfl⟩ rfl rfl (Nat.le_of_ble_eq_true rfl) ⟨rfl, rfl⟩ (c_look C R hX hBK hB2 hK2 hp (by omega) (by omega) (by omega)) (fun v2 h2 ⟨hv2, C2, F2, R2, e2⟩ => ?_)
    rw [hv2, hl]
    have r44 : h2.2.2 43 0 = some 44 := C2.2.2.1.2.2.2.2.2.2.2.2.2.2.1
    have Y := bytes_ok C2
    refine E_istore_n dX5_makePart_5 (by decide) ?_
    refine E_iload_n dX5_makePart_6 rfl ?_
    refine E_bi (-2) dX5_makePart_7 (by decide) ?_
    refine E_icmp_eq 40 dX5_makePart_9 (by decide) (fun c_9 => ?_) (fun c_9 => absurd rfl c_9)
    refine E_aload_n dX5_makePart_40 rfl ?_
    refine E_getR dX5_makePart_41 fl_X5_88 rfl (by assumption) rfl ?_
    refine E_astore dX5_makePart_44 (by decide) ?_
    refine E_aload dX5_makePart_46 rfl ?_
    refine E_ic 0 dX5_makePart_48 (by decide) ?_
    rw [show (0 : Int32) = nI 0 by decide]
    refine cV1 (N := mX3_keep) dX5_makePart_49 cn_X3_keep lk_X5_92 ⟨Nat.le_of_ble_eq_true rfl, Nat.le_of_ble_eq_true rfl⟩ rfl rfl (Nat.le_of_ble_eq_true rfl) ⟨rfl, rfl⟩ (c_Row_keep Y.1 (by omega)) (fun v3 h3 ⟨hv3, R3, F3⟩ => ?_)
    rw [hv3]
    have C3 := C2.bytes (ys := []) (by simpa using R3) F3 (fun x hx => by cases hx)
    have S3 := R2.other F3 (by omega) (by omega) (by omega) (by omega)
    refine E_ic 1 dX5_makePart_52 (by decide) ?_
    refine E_istore dX5_makePart_53 (by decide) ?_
    refine c_pLoop hX hB2 hK2 hm nr nc h none 16 1 p _ h3 (by omega) C3 (CF_row F2 F3 (by decide) (by decide)) S3 (by show (lookS a xs p B K).2.2.1 4 = _; rw [lookS_2]; exact hBK) (by show (lookS a xs p B K).1 13 = _; rw [lookS_i _ _ _ _ _ (by decide) (by decide)]; exact hp) hpl (by rw [aN_at]; rfl) (fun h' x3 x5 C5 F5 => ?_)
    generalize pLoop xs B K 16 p (aN (lookS a xs p B K) 2 []) = b at C5 ⊢
    exact part_tail C5 F5
  · rw [partA, if_neg hl]
    refine E_aload_n dX5_makePart_0 rfl ?_
    refine E_aload_n dX5_makePart_1 rfl ?_
    refine cV1 (N := mX5_look) dX5_makePart_2 cn_X5_look lk_X5_81 ⟨Nat.le_of_ble_eq_true rfl, Nat.le_of_ble_eq_true rfl⟩ rfl rfl (Nat.le_of_ble_eq_true rfl) ⟨rfl, rfl⟩ (c_look C R hX hBK hB2 hK2 hp (by omega) (by omega) (by omega)) (fun v2 h2 ⟨hv2, C2, F2, R2, e2⟩ => ?_)
    rw [hv2]
    refine E_istore_n dX5_makePart_5 (by decide) ?_
    refine E_iload_n dX5_makePart_6 rfl ?_
    refine E_bi (-2) dX5_makePart_7 (by decide) ?_
    refine E_icmp_eq 40 dX5_makePart_9 (by decide) (fun c_9 => absurd c_9 hl) (fun c_9 => ?_)
    refine E_aload_n dX5_makePart_12 rfl ?_
    refine E_ic 5 dX5_makePart_13 (by decide) ?_
    refine E_ic 4 dX5_makePart_14 (by decide) ?_
    refine cV2 (N := mX1_become) dX5_makePart_15 cn_X1_become lk_X5_39 ⟨Nat.le_of_ble_eq_true rfl, Nat.le_of_ble_eq_true rfl⟩ rfl rfl (Nat.le_of_ble_eq_true rfl) ⟨rfl, rfl⟩ (c_become rfl _ _) (fun v3 h3 ⟨hv3, hh3⟩ => ?_)
    rw [hv3, hh3]
    have C3 := C2.setI 9 5 (by decide) (by decide)
    have C4 := C3.setI 10 4 (by decide) (by decide)
    have F4 : CF h (sI (sI h2 43 2 5) 43 3 4) := CF_sI (CF_sI F2 (by decide)) (by decide)
    refine E_aload_n dX5_makePart_18 rfl ?_
    refine E_iload_n dX5_makePart_19 rfl ?_
    refine E_putI dX5_makePart_20 fl_X5_45 rfl rfl ?_
    have C5 := C4.setI 11 (lookR a xs p B K) (by decide) (by decide)
    have F5 : CF h (sI (sI (sI h2 43 2 5) 43 3 4) 43 4 (lookR a xs p B K)) := CF_sI F4 (by decide)
    obtain ⟨B1, K1, hBK1, S1⟩ := C5.2.2.2.2.2.2.2.2.2.2.2
    rw [show (aI (aI (aI (lookS a xs p B K) 9 5) 10 4) 11 (lookR a xs p B K)).2.2.1 4 = (lookS a xs p B K).2.2.1 4 from rfl, lookS_2, hBK] at hBK1
    cases hBK1
    have r50 : (sI (sI (sI h2 43 2 5) 43 3 4) 43 4 (lookR a xs p B K)).2.2 49 0 = some 50 := C5.2.2.1.2.2.2.2.2.2.2.2.2.2.2.2.1
    have g3 : (sI (sI (sI h2 43 2 5) 43 3 4) 43 4 (lookR a xs p B K)).1 50 3 = nI B := S1.2.2.2.2.2.2.2.1
    have g13 : (sI (sI (sI h2 43 2 5) 43 3 4) 43 4 (lookR a xs p B K)).1 49 3 = nI p := (C5.1 13 (by decide)).trans (by show (lookS a xs p B K).1 13 = _; rw [lookS_i _ _ _ _ _ (by decide) (by decide)]; exact hp)
    refine E_aload_n dX5_makePart_23 rfl ?_
    refine E_dup rfl dX5_makePart_24 ?_
    refine E_getI dX5_makePart_25 fl_X5_36 rfl rfl ?_
    refine E_aload_n dX5_makePart_28 rfl ?_
    refine E_getR dX5_makePart_29 fl_X5_12 rfl r50 rfl ?_
    refine cV0 (N := mX7_block) dX5_makePart_32 cn_X7_block lk_X5_85 ⟨Nat.le_of_ble_eq_true rfl, Nat.le_of_ble_eq_true rfl⟩ rfl rfl (Nat.le_of_ble_eq_true rfl) ⟨rfl, rfl⟩ (c_Sums_block rfl) (fun v6 h6 ⟨hv6, hh6⟩ => ?_)
    rw [hv6, hh6, g3, g13]
    refine E_iadd dX5_makePart_35 ?_
    refine E_putI dX5_makePart_36 fl_X5_36 rfl rfl ?_
    have C7 := C5.setI 13 (nI p + nI B) (by decide) (by decide)
    exact E_retv dX5_makePart_39 rfl (Nat.le_of_ble_eq_true rfl) (Nat.le_of_ble_eq_true rfl) ⟨rfl, rfl, C7, CF_sI F5 (by decide)⟩
def sNextA (a : Ab) (p B K : Nat) : Ab := match exF (sF a) (a.1 12) with
  | none => if a.1 9 = 2 then aI (aI a 9 3) 10 1 else aL (aI (aI a 9 6) 10 11) 3 dgE
  | some f => if ((sF a f).getD []).length ≤ p then aL (aI (aI a 9 6) 10 11) 3 (dig ((sF a f).getD [])) else partA a ((sF a f).getD []) p B K
theorem c_sNext {a : Ab} {h : Hp} (C : CRep a h) {p B K : Nat} (hBK : a.2.2.1 4 = [B, K]) (hB2 : B ≤ 64) (hK2 : K ≤ 100) (hp : a.1 13 = nI p) (hp2 : p ≤ 600) : Sp0 mX5_makeNext [.ref 49, .ref 43] SH h (fun v h' => v = none ∧ CRep (sNextA a p B K) h' ∧ CF h h') := by
  have e9 : h.1 43 2 = a.1 9 := C.1 9 (by decide)
  have e12 : h.1 49 2 = a.1 12 := C.1 12 (by decide)
  have e13 : h.1 49 3 = a.1 13 := C.1 13 (by decide)
  have rS := C.rS
  have S := C.side (sr a) (sr_lt a)
  have hsid := sid_in (sr a)
  refine Sp0.of (by decide) (Nat.le_of_ble_eq_true rfl) ?_
  show E mX5_makeNext none _ 0 [some (.ref 49), some (.ref 43), none] [] SH h 0 0
  cases hq : exF (sF a) (a.1 12) with
  | none =>
    simp only [sNextA, hq]
    refine E_aload_n dX5_makeNext_0 rfl ?_
    refine E_getR dX5_makeNext_1 fl_X5_18 rfl rS rfl ?_
    refine E_aload_n dX5_makeNext_4 rfl ?_
    refine E_getI dX5_makeNext_5 fl_X5_33 rfl rfl ?_
    rw [e12]
    refine cV1 (N := mX6_existing) dX5_makeNext_8 cn_X6_existing lk_X5_58 ⟨Nat.le_of_ble_eq_true rfl, Nat.le_of_ble_eq_true rfl⟩ S.1.1.1 rfl (Nat.le_of_ble_eq_true rfl) ⟨rfl, rfl⟩ (c_existing S.1 _) (fun v2 h2 ⟨hv2, hh2⟩ => ?_)
    rw [hv2, hh2, show exF (a.2.2.2.1 (sr a)) (a.1 12) = none from hq]
    refine E_astore_nN dX5_makeNext_11 (by decide) ?_
    refine E_aload_nN dX5_makeNext_12 rfl ?_
    refine E_ifnonnullN dX5_makeNext_13 ?_
    refine E_aload_n dX5_makeNext_16 rfl ?_
    refine E_getI dX5_makeNext_17 fl_X5_62 rfl rfl ?_
    refine E_ic 2 dX5_makeNext_20 (by decide) ?_
    rw [e9]
    refine E_icmp_ne 33 dX5_makeNext_21 (by decide) (fun c_21 => ?_) (fun c_21 => ?_)
    · refine E_aload_nN dX5_makeNext_33 rfl ?_
      refine E_ifnullN 48 dX5_makeNext_34 (by decide) ?_
      refine E_aload_n dX5_makeNext_48 rfl ?_
      refine E_bi 6 dX5_makeNext_49 (by decide) ?_
      refine E_bi 11 dX5_makeNext_51 (by decide) ?_
      refine cV2 (N := mX1_become) dX5_makeNext_53 cn_X1_become lk_X5_39 ⟨Nat.le_of_ble_eq_true rfl, Nat.le_of_ble_eq_true rfl⟩ rfl rfl (Nat.le_of_ble_eq_true rfl) ⟨rfl, rfl⟩ (c_become rfl _ _) (fun v3 h3 ⟨hv3, hh3⟩ => ?_)
      rw [hv3, hh3]
      have C3 := C.setI 9 6 (by decide) (by decide)
      have C4 := C3.setI 10 11 (by decide) (by decide)
      refine E_aload_n dX5_makeNext_56 rfl ?_
      refine E_aload_nN dX5_makeNext_57 rfl ?_
      refine E_ifnonnullN dX5_makeNext_58 ?_
      refine E_ldc2 dX5_makeNext_61 kl_X5_71 ?_
      refine E_goto 75 dX5_makeNext_64 (by decide) ?_
      refine E_putL dX5_makeNext_75 fl_X5_54 rfl rfl ?_
      refine E_goto 87 dX5_makeNext_78 (by decide) ?_
      have C5 := C4.setL 3 dgE (by decide)
      exact E_retv dX5_makeNext_87 rfl (Nat.le_of_ble_eq_true rfl) (Nat.le_of_ble_eq_true rfl) ⟨rfl, rfl, by rw [if_neg c_21]; exact C5, CF_sL (CF_sI (CF_sI CF.rf (by decide)) (by decide)) (by decide)⟩
    · refine E_aload_n dX5_makeNext_24 rfl ?_
      refine E_ic 3 dX5_makeNext_25 (by decide) ?_
      refine E_ic 1 dX5_makeNext_26 (by decide) ?_
      refine cV2 (N := mX1_become) dX5_makeNext_27 cn_X1_become lk_X5_39 ⟨Nat.le_of_ble_eq_true rfl, Nat.le_of_ble_eq_true rfl⟩ rfl rfl (Nat.le_of_ble_eq_true rfl) ⟨rfl, rfl⟩ (c_become rfl _ _) (fun v3 h3 ⟨hv3, hh3⟩ => ?_)
      rw [hv3, hh3]
      have C3 := C.setI 9 3 (by decide) (by decide)
      have C4 := C3.setI 10 1 (by decide) (by decide)
      refine E_goto 87 dX5_makeNext_30 (by decide) ?_
      exact E_retv dX5_makeNext_87 rfl (Nat.le_of_ble_eq_true rfl) (Nat.le_of_ble_eq_true rfl) ⟨rfl, rfl, by rw [if_pos c_21]; exact C4, CF_sI (CF_sI CF.rf (by decide)) (by decide)⟩
  | some f =>
    obtain ⟨hf, hxf, xs, hxs⟩ := exF_some hq
    have R := S.1.2.1 f hf
    have hO : ∀ x ∈ xs, x < 256 := S.1.2.2.2 f xs hxs
    rw [show a.2.2.2.1 (sr a) f = some xs from hxs] at R
    have R : RowL SH h (rId (sid (sr a)) f) (cId (sid (sr a)) f) 500 xs := R
    have hm : xs.length ≤ 500 := R.2.2.2.2.1
    simp only [sNextA, hq, hxs]
    refine E_aload_n dX5_makeNext_0 rfl ?_
    refine E_getR dX5_makeNext_1 fl_X5_18 rfl rS rfl ?_
    refine E_aload_n dX5_makeNext_4 rfl ?_
    refine E_getI dX5_makeNext_5 fl_X5_33 rfl rfl ?_
    rw [e12]
    refine cV1 (N := mX6_existing) dX5_makeNext_8 cn_X6_existing lk_X5_58 ⟨Nat.le_of_ble_eq_true rfl, Nat.le_of_ble_eq_true rfl⟩ S.1.1.1 rfl (Nat.le_of_ble_eq_true rfl) ⟨rfl, rfl⟩ (c_existing S.1 _) (fun v2 h2 ⟨hv2, hh2⟩ => ?_)
    rw [hv2, hh2, show exF (a.2.2.2.1 (sr a)) (a.1 12) = some f from hq]
    refine E_astore_n dX5_makeNext_11 (by decide) ?_
    refine E_aload_n dX5_makeNext_12 rfl ?_
    refine E_ifnonnull 33 dX5_makeNext_13 (by decide) ?_
    refine E_aload_n dX5_makeNext_33 rfl ?_
    refine E_ifnull dX5_makeNext_34 ?_
    refine E_aload_n dX5_makeNext_37 rfl ?_
    refine E_getI dX5_makeNext_38 fl_X5_36 rfl rfl ?_
    refine E_aload_n dX5_makeNext_41 rfl ?_
    refine cV0 (N := mX3_count) dX5_makeNext_42 cn_X3_count lk_X5_65 ⟨Nat.le_of_ble_eq_true rfl, Nat.le_of_ble_eq_true rfl⟩ R.1 rfl (Nat.le_of_ble_eq_true rfl) ⟨rfl, rfl⟩ (c_Row_count R.1) (fun v3 h3 ⟨hv3, hh3⟩ => ?_)
    rw [hv3, hh3, R.2.2.2.1]
    rw [e13, hp]
    refine E_icmp_lt 81 dX5_makeNext_45 (by decide) (fun c_45 => ?_) (fun c_45 => ?_)
    · refine E_aload_n dX5_makeNext_81 rfl ?_
      refine E_aload_n dX5_makeNext_82 rfl ?_
      refine E_aload_n dX5_makeNext_83 rfl ?_
      have hlt : p < xs.length := (nI_ltI (by omega) (by show xs.length < _; omega)).mp c_45
      refine cV2 (N := mX5_makePart) dX5_makeNext_84 cn_X5_makePart lk_X5_77 ⟨Nat.le_of_ble_eq_true rfl, Nat.le_of_ble_eq_true rfl⟩ rfl rfl (Nat.le_of_ble_eq_true rfl) ⟨rfl, rfl⟩ (c_makePart C R hO hBK hB2 hK2 hp (by omega) (by unfold rId; omega) (by unfold cId; omega)) (fun v6 h6 ⟨hv6, C6, F6⟩ => ?_)
      rw [hv6]
      exact E_retv dX5_makeNext_87 rfl (Nat.le_of_ble_eq_true rfl) (Nat.le_of_ble_eq_true rfl) ⟨rfl, rfl, by rw [if_neg (by show ¬ xs.length ≤ p; omega)]; exact C6, F6⟩
    · have hge : xs.length ≤ p := Nat.le_of_not_lt fun q => c_45 (nI_lt q (by show xs.length < _; omega))
      refine E_aload_n dX5_makeNext_48 rfl ?_
      refine E_bi 6 dX5_makeNext_49 (by decide) ?_
      refine E_bi 11 dX5_makeNext_51 (by decide) ?_
      refine cV2 (N := mX1_become) dX5_makeNext_53 cn_X1_become lk_X5_39 ⟨Nat.le_of_ble_eq_true rfl, Nat.le_of_ble_eq_true rfl⟩ rfl rfl (Nat.le_of_ble_eq_true rfl) ⟨rfl, rfl⟩ (c_become rfl _ _) (fun v4 h4 ⟨hv4, hh4⟩ => ?_)
      rw [hv4, hh4]
      have C3 := C.setI 9 6 (by decide) (by decide)
      have C4 := C3.setI 10 11 (by decide) (by decide)
      have R4 : RowL SH (sI (sI h 43 2 6) 43 3 11) (rId (sid (sr a)) f) (cId (sid (sr a)) f) 500 xs := R.keep (by funext j; have : rId (sid (sr a)) f ≠ 43 := (by unfold rId; omega); simp [sI, u2, this]) (by funext j; have : cId (sid (sr a)) f ≠ 43 := (by unfold cId; omega); simp [sI, u2, this]) rfl
      refine E_aload_n dX5_makeNext_56 rfl ?_
      refine E_aload_n dX5_makeNext_57 rfl ?_
      refine E_ifnonnull 67 dX5_makeNext_58 (by decide) ?_
      refine E_aload_n dX5_makeNext_67 rfl ?_
      refine E_ic 0 dX5_makeNext_68 (by decide) ?_
      refine E_si 500 dX5_makeNext_69 (by decide) ?_
      rw [show (0 : Int32) = nI 0 by decide, show (500 : Int32) = nI 500 by decide]
      refine cV2 (N := mX3_digestOf) dX5_makeNext_72 cn_X3_digestOf lk_X5_73 ⟨Nat.le_of_ble_eq_true rfl, Nat.le_of_ble_eq_true rfl⟩ R.1 rfl (Nat.le_of_ble_eq_true rfl) ⟨rfl, rfl⟩ (c_Row_digestOf R4 (by omega) (by omega)) (fun v5 h5 ⟨hv5, hh5⟩ => ?_)
      rw [hv5, hh5, List.drop_zero, List.take_of_length_le hm]
      refine E_putL dX5_makeNext_75 fl_X5_54 rfl rfl ?_
      refine E_goto 87 dX5_makeNext_78 (by decide) ?_
      have C5 := C4.setL 3 (dig xs) (by decide)
      exact E_retv dX5_makeNext_87 rfl (Nat.le_of_ble_eq_true rfl) (Nat.le_of_ble_eq_true rfl) ⟨rfl, rfl, by rw [if_pos (show ((some xs).getD []).length ≤ p from hge)]; exact C5, CF_sL (CF_sI (CF_sI CF.rf (by decide)) (by decide)) (by decide)⟩
def sNodeA (a : Ab) (x : Nat) : Ab := aL (aI (aI a 9 1) 10 10) 3 (nodeF (sF a) x)
theorem c_sNode {a : Ab} {h : Hp} (C : CRep a h) {x : Nat} (h1 : 1 ≤ x) (h2 : x < 16) (hx : a.1 11 = nI x) : Sp0 mX5_makeNode [.ref 49, .ref 43] SH h (fun v h' => v = none ∧ CRep (sNodeA a x) h' ∧ CF h h') := by
  have C3 := C.setI 9 1 (by decide) (by decide)
  have C4 : CRep (aI (aI a 9 1) 10 10) (sI (sI h 43 2 1) 43 3 10) := C3.setI 10 10 (by decide) (by decide)
  have rS : (sI (sI h 43 2 1) 43 3 10).2.2 49 1 = some (sid (sr a)) := C4.rS
  have S := C4.side (sr a) (sr_lt a)
  have e11 : (sI (sI h 43 2 1) 43 3 10).1 43 4 = nI x := (C4.1 11 (by decide)).trans hx
  have hX : (nI x).toInt = x := nI_toInt (by omega)
  refine Sp0.of (by decide) (Nat.le_of_ble_eq_true rfl) ?_
  show E mX5_makeNode none _ 0 [some (.ref 49), some (.ref 43)] [] SH h 0 0
  refine E_aload_n dX5_makeNode_0 rfl ?_
  refine E_ic 1 dX5_makeNode_1 (by decide) ?_
  refine E_bi 10 dX5_makeNode_2 (by decide) ?_
  refine cV2 (N := mX1_become) dX5_makeNode_4 cn_X1_become lk_X5_39 ⟨Nat.le_of_ble_eq_true rfl, Nat.le_of_ble_eq_true rfl⟩ rfl rfl (Nat.le_of_ble_eq_true rfl) ⟨rfl, rfl⟩ (c_become rfl _ _) (fun v2 h2 ⟨hv2, hh2⟩ => ?_)
  rw [hv2, hh2]
  refine E_aload_n dX5_makeNode_7 rfl ?_
  refine E_aload_n dX5_makeNode_8 rfl ?_
  refine E_getR dX5_makeNode_9 fl_X5_18 rfl rS rfl ?_
  refine E_aload_n dX5_makeNode_12 rfl ?_
  refine E_getI dX5_makeNode_13 fl_X5_45 rfl rfl ?_
  rw [e11]
  refine cV1 (N := mX6_digestAt) dX5_makeNode_16 cn_X6_digestAt lk_X5_48 ⟨Nat.le_of_ble_eq_true rfl, Nat.le_of_ble_eq_true rfl⟩ S.1.1.1 rfl (Nat.le_of_ble_eq_true rfl) ⟨rfl, rfl⟩ (c_digestAt S.1.1 S.2 _) (fun v3 h3 ⟨hv3, hh3⟩ => ?_)
  rw [hv3, hh3, if_pos (by rw [hX]; omega), nI_clamp (by omega)]
  refine E_putL dX5_makeNode_19 fl_X5_54 rfl rfl ?_
  have C5 := C4.setL 3 (nodeF (sF a) x) (by decide)
  exact E_retv dX5_makeNode_22 rfl (Nat.le_of_ble_eq_true rfl) (Nat.le_of_ble_eq_true rfl) ⟨rfl, rfl, C5, CF_sL (CF_sI (CF_sI CF.rf (by decide)) (by decide)) (by decide)⟩
def sTakeA (a : Ab) : Ab := aI (aI (aS (aN a 4 (a.2.2.1 3)) 1 (a.2.2.2.2.2 0)) 12 (a.1 11)) 13 0
theorem c_sTake {a : Ab} {h : Hp} (C : CRep a h) : Sp0 mX5_takeSums [.ref 49, .int (a.1 11), .ref 46] SH h (fun v h' => v = none ∧ CRep (sTakeA a) h' ∧ CF h h') := by
  have r50 : h.2.2 49 0 = some 50 := C.2.2.1.2.2.2.2.2.2.2.2.2.2.2.2.1
  obtain ⟨B0, K0, e0, S0⟩ := C.2.2.2.2.2.2.2.2.2.2.1
  obtain ⟨B1, K1, e1, S1⟩ := C.2.2.2.2.2.2.2.2.2.2.2
  refine Sp0.of (by decide) (Nat.le_of_ble_eq_true rfl) ?_
  show E mX5_takeSums none _ 0 [some (.ref 49), some (.int (a.1 11)), some (.ref 46)] [] SH h 0 0
  refine E_aload_n dX5_takeSums_0 rfl ?_
  refine E_getR dX5_takeSums_1 fl_X5_12 rfl r50 rfl ?_
  refine E_aload_n dX5_takeSums_4 rfl ?_
  refine cV1 (N := mX7_copyFrom) dX5_takeSums_5 cn_X7_copyFrom lk_X5_29 ⟨Nat.le_of_ble_eq_true rfl, Nat.le_of_ble_eq_true rfl⟩ rfl rfl (Nat.le_of_ble_eq_true rfl) ⟨rfl, rfl⟩ (c_copyFrom S1 S0 (by omega)) (fun v2 h2 ⟨hv2, S2, F2⟩ => ?_)
  rw [hv2]
  have C2 := C.sums (j := 1) (by decide) S2 F2
  rw [← e0] at C2
  have C3 := C2.setI 12 (a.1 11) (by decide) (by decide)
  refine E_aload_n dX5_takeSums_8 rfl ?_
  refine E_iload_n dX5_takeSums_9 rfl ?_
  refine E_putI dX5_takeSums_10 fl_X5_33 rfl rfl ?_
  refine E_aload_n dX5_takeSums_13 rfl ?_
  refine E_ic 0 dX5_takeSums_14 (by decide) ?_
  refine E_putI dX5_takeSums_15 fl_X5_36 rfl rfl ?_
  have C4 := C3.setI 13 0 (by decide) (by decide)
  exact E_retv dX5_takeSums_18 rfl (Nat.le_of_ble_eq_true rfl) (Nat.le_of_ble_eq_true rfl) ⟨rfl, rfl, C4, CF_sI (CF_sI (CF_fr CF.rf F2 (by decide)) (by decide)) (by decide)⟩

