/-! Receiver: makeNext, start -/
def fileL (F : FS) (x : Int32) : List Nat := match exF F x with
  | none => []
  | some f => (F f).getD []
def rAsk (a : Ab) : Ab := aI (aI (aI (aN a 0 (a.2.2.1 0).dropLast) 9 0) 10 2) 11 (nI ((a.2.2.1 0).getD ((a.2.2.1 0).length - 1) 0))
def rPick (a : Ab) : Ab := if ltd (a.2.2.2.2.1 0) = a.1 19 then a else aI (aI (aI a 19 (ltd (a.2.2.2.2.1 0))) 20 (a.1 17)) 21 0
def rSums (a : Ab) (B K : Nat) : Ab := aI (aI (aI (aS (aN (aN (rPick a) 1 []) 3 [B, K]) 0 (blks B K (fileL (tF a) ((rPick a).1 19)))) 9 2) 10 (6 + (4 + nI K) * nI (blks B K (fileL (tF a) ((rPick a).1 19))).length)) 11 ((rPick a).1 19)
theorem rPick_i (a : Ab) {k : Nat} (h : k ≠ 19) (h2 : k ≠ 20) (h3 : k ≠ 21) : (rPick a).1 k = a.1 k := by
  unfold rPick
  split
  · rfl
  · simp [aI, va_up, h, h2, h3]
theorem rPick_2 (a : Ab) : (rPick a).2 = a.2 := by unfold rPick; split <;> rfl
theorem c_rAsk {a : Ab} {h : Hp} (C : CRep a h) (hw : 0 < (a.2.2.1 0).length) : Sp0 mX2_makeNext [.ref 53, .ref 43] SH h (fun v h' => v = none ∧ CRep (rAsk a) h' ∧ CF h h') := by
  obtain ⟨r00, r01, r02, r03, r420, r421, r422, r423, r424, r425, r430, r431, r490, r491, r530, r531, r532, r533, r534⟩ := id C.2.2.1
  have hW := C.2.2.2.1
  have C0 := C
  have hlt := hW.2.1
  refine Sp0.of (by decide) (Nat.le_of_ble_eq_true rfl) ?_
  show E mX2_makeNext none _ 0 [some (.ref 53), some (.ref 43), none] [] SH h 0 0
  have hlen : (nI (a.2.2.1 0).length : Int32) - 1 = nI ((a.2.2.1 0).length - 1) := by rw [show (1 : Int32) = nI 1 by decide, pk_sub hw]
  refine E_aload_n dX2_makeNext_0 rfl ?_
  refine E_getI dX2_makeNext_1 fl_X2_48 (by first | assumption | rfl) rfl ?_
  rw [hW.1]
  refine E_if_le 46 dX2_makeNext_4 (by decide) (fun c_4 => absurd c_4 (nI_nle hw (by omega))) (fun c_4 => ?_)
  refine E_aload_n dX2_makeNext_7 rfl ?_
  refine E_getI dX2_makeNext_8 fl_X2_48 (by first | assumption | rfl) rfl ?_
  refine E_bi 16 dX2_makeNext_11 (by decide) ?_
  rw [hW.1, show (16 : Int32) = nI 16 by decide]
  refine E_icmp_gt 46 dX2_makeNext_13 (by decide) (fun c_13 => absurd c_13 (nI_nlt (by omega) (by omega))) (fun c_13 => ?_)
  refine E_aload_n dX2_makeNext_16 rfl ?_
  refine E_dup rfl dX2_makeNext_17 ?_
  refine E_getI dX2_makeNext_18 fl_X2_48 (by first | assumption | rfl) rfl ?_
  refine E_ic 1 dX2_makeNext_21 (by decide) ?_
  rw [hW.1]
  refine E_isub dX2_makeNext_22 ?_
  rw [hlen]
  refine E_putI dX2_makeNext_23 fl_X2_48 (by first | assumption | rfl) rfl ?_
  have C1 : CRep (aN a 0 (a.2.2.1 0).dropLast) (sI h 53 5 (nI ((a.2.2.1 0).length - 1))) := C0.wait ⟨by simp [sI, u2], by simp; omega, fun j hj => by simp at hj; have q := hW.2.2 j (by omega); have hj2 : j < (a.2.2.1 0).length := (by omega); simp [sI, u2, q, List.getD, List.getElem?_dropLast, hj, hj2]⟩ rfl (fun y q1 q2 => by funext j; simp [sI, u2, q1]) (fun k hk => by simp [sI, u2, hk])
  refine E_aload_n dX2_makeNext_26 rfl ?_
  refine E_ic 0 dX2_makeNext_27 (by decide) ?_
  refine E_ic 2 dX2_makeNext_28 (by decide) ?_
  refine cV2 (N := mX1_become) dX2_makeNext_29 cn_X1_become lk_X2_76 ⟨Nat.le_of_ble_eq_true rfl, Nat.le_of_ble_eq_true rfl⟩ (by first | assumption | rfl) rfl (Nat.le_of_ble_eq_true rfl) ⟨rfl, rfl⟩ (c_become rfl _ _) (fun v2 h2 ⟨hv2, hh2⟩ => ?_)
  subst hv2 hh2
  have C2 := (C1.setI 9 0 (by decide) (by decide)).setI 10 2 (by decide) (by decide)
  have hw0 : (sI (sI (sI h 53 5 (nI ((a.2.2.1 0).length - 1))) 43 2 0) 43 3 2).1 53 5 = nI ((a.2.2.1 0).length - 1) := by simp [sI, u2]
  have hw1 : (sI (sI (sI h 53 5 (nI ((a.2.2.1 0).length - 1))) 43 2 0) 43 3 2).1 54 ((a.2.2.1 0).length - 1) = nI ((a.2.2.1 0).getD ((a.2.2.1 0).length - 1) 0) := by rw [← hW.2.2 _ (by omega)]; simp [sI, u2]
  refine E_aload_n dX2_makeNext_32 rfl ?_
  refine E_aload_n dX2_makeNext_33 rfl ?_
  refine E_getR dX2_makeNext_34 fl_X2_9 (by first | assumption | rfl) (by assumption) rfl ?_
  refine E_aload_n dX2_makeNext_37 rfl ?_
  refine E_getI dX2_makeNext_38 fl_X2_48 (by first | assumption | rfl) rfl ?_
  rw [hw0]
  refine E_iald dX2_makeNext_41 (by first | assumption | rfl) (vp_in_nI (by omega) (by omega)) ?_
  rw [nI_clamp (by omega), hw1]
  refine E_putI dX2_makeNext_42 fl_X2_82 (by first | assumption | rfl) rfl ?_
  exact E_retv dX2_makeNext_45 rfl (Nat.le_of_ble_eq_true rfl) (Nat.le_of_ble_eq_true rfl) ⟨rfl, rfl, C2.setI 11 _ (by decide) (by decide), CF_sI (CF_sI (CF_sI (CF_sI CF.rf (by decide)) (by decide)) (by decide)) (by decide)⟩
theorem c_rSums {a : Ab} {h : Hp} (C : CRep a h) {B K : Nat} (hw : (a.2.2.1 0).length = 0) (hB : a.1 16 = nI B) (hB0 : 0 < B) (hB2 : B ≤ 64) (hK : (rPick a).1 20 = nI K) (hK2 : K ≤ 100) : Sp0 mX2_makeNext [.ref 53, .ref 43] SH h (fun v h' => v = none ∧ CRep (rSums a B K) h' ∧ CF h h') := by
  have hW := C.2.2.2.1
  have C0 := C
  have q1 : (rPick a).2 = a.2 := rPick_2 a
  have tail : ∀ (h3 : Hp) (lv2 : Option Value), CRep (rPick a) h3 → CF h h3 → E mX2_makeNext none (fun v sh' h' => sh' = SH ∧ v = none ∧ CRep (rSums a B K) h' ∧ CF h h') 77 [some (.ref 53), some (.ref 43), lv2] [] SH h3 0 0 := by
    intro h3 lv2 C3 F3
    have hB' : (rPick a).1 16 = nI B := (rPick_i a (by decide) (by decide) (by decide)).trans hB
    have e1 : (rPick a).1 1 = a.1 1 := rPick_i a (by decide) (by decide) (by decide)
    have htg : tg (rPick a) = tg a := by unfold tg; rw [e1]
    have htF : tF (rPick a) = tF a := by unfold tF; rw [htg, q1]
    rw [rSums, ← htF]
    generalize rPick a = b at C3 hB' hK ⊢
    have go : ∀ (h4 : Hp) (x : Value), CRep (aN b 1 []) h4 → CF h h4 → (x = va_rf ((exF (tF b) (b.1 19)).map (rId (sid (tg b))))) → E mX2_makeNext none (fun v sh' h' => sh' = SH ∧ v = none ∧ CRep (aI (aI (aI (aS (aN (aN b 1 []) 3 [B, K]) 0 (blks B K (fileL (tF b) (b.1 19)))) 9 2) 10 (6 + (4 + nI K) * nI (blks B K (fileL (tF b) (b.1 19))).length)) 11 (b.1 19)) h' ∧ CF h h') 96 [some (.ref 53), some (.ref 43), lv2] [x, .ref 46] SH h4 0 0 := by
      intro h4 x C4 F4 hx
      obtain ⟨B0, K0, -, S4⟩ := C4.2.2.2.2.2.2.2.2.2.2.1
      have r43 : h4.2.2 43 1 = some 46 := C4.2.2.1.2.2.2.2.2.2.2.2.2.2.2.1
      have e16 : h4.1 53 6 = nI B := (C4.1 16 (by decide)).trans hB'
      have e20 : h4.1 53 10 = nI K := (C4.1 20 (by decide)).trans hK
      have fin : ∀ (h5 : Hp), SumsR SH h5 46 (blks B K (fileL (tF b) (b.1 19))) B K → Fr 46 49 h4 h5 → E mX2_makeNext none (fun v sh' h' => sh' = SH ∧ v = none ∧ CRep (aI (aI (aI (aS (aN (aN b 1 []) 3 [B, K]) 0 (blks B K (fileL (tF b) (b.1 19)))) 9 2) 10 (6 + (4 + nI K) * nI (blks B K (fileL (tF b) (b.1 19))).length)) 11 (b.1 19)) h' ∧ CF h h') 107 [some (.ref 53), some (.ref 43), lv2] [] SH h5 0 0 := by
        intro h5 S5 G5
        have C5 := C4.sums (j := 0) (by decide) S5 G5
        have F5 := CF_fr F4 G5 (by decide)
        have g20 : h5.1 53 10 = nI K := (C5.1 20 (by decide)).trans hK
        have r43' : h5.2.2 43 1 = some 46 := C5.2.2.1.2.2.2.2.2.2.2.2.2.2.2.1
        refine E_aload_n dX2_makeNext_107 rfl ?_
        refine E_ic 2 dX2_makeNext_108 (by decide) ?_
        refine E_bi 6 dX2_makeNext_109 (by decide) ?_
        refine E_ic 4 dX2_makeNext_111 (by decide) ?_
        refine E_aload_n dX2_makeNext_112 rfl ?_
        refine E_getI dX2_makeNext_113 fl_X2_85 (by first | assumption | rfl) rfl ?_
        rw [g20]
        refine E_iadd dX2_makeNext_116 ?_
        refine E_aload_n dX2_makeNext_117 rfl ?_
        refine E_getR dX2_makeNext_118 fl_X2_91 (by first | assumption | rfl) (by assumption) rfl ?_
        refine cV0 (N := mX7_count) dX2_makeNext_121 cn_X7_count lk_X2_107 ⟨Nat.le_of_ble_eq_true rfl, Nat.le_of_ble_eq_true rfl⟩ (by first | assumption | rfl) rfl (Nat.le_of_ble_eq_true rfl) ⟨rfl, rfl⟩ (c_Sums_count rfl) (fun v6 h6 ⟨hv6, hh6⟩ => ?_)
        rw [hv6, hh6, S5.2.2.2.2.2.1]
        refine E_imul dX2_makeNext_124 ?_
        refine E_iadd dX2_makeNext_125 ?_
        refine cV2 (N := mX1_become) dX2_makeNext_126 cn_X1_become lk_X2_76 ⟨Nat.le_of_ble_eq_true rfl, Nat.le_of_ble_eq_true rfl⟩ (by first | assumption | rfl) rfl (Nat.le_of_ble_eq_true rfl) ⟨rfl, rfl⟩ (c_become rfl _ _) (fun v2 h2 ⟨hv2, hh2⟩ => ?_)
        subst hv2 hh2
        have C7 := (C5.setI 9 2 (by decide) (by decide)).setI 10 (6 + (4 + nI K) * nI (blks B K (fileL (tF b) (b.1 19))).length) (by decide) (by decide)
        refine E_aload_n dX2_makeNext_129 rfl ?_
        refine E_aload_n dX2_makeNext_130 rfl ?_
        refine E_getI dX2_makeNext_131 fl_X2_31 (by first | assumption | rfl) rfl ?_
        rw [show (sI (sI h5 43 2 2) 43 3 (6 + (4 + nI K) * nI (blks B K (fileL (tF b) (b.1 19))).length)).1 53 9 = b.1 19 from C7.1 19 (by decide)]
        refine E_putI dX2_makeNext_134 fl_X2_82 (by first | assumption | rfl) rfl ?_
        exact E_retv dX2_makeNext_137 rfl (Nat.le_of_ble_eq_true rfl) (Nat.le_of_ble_eq_true rfl) ⟨rfl, rfl, C7.setI 11 _ (by decide) (by decide), CF_sI (CF_sI (CF_sI F5 (by decide)) (by decide)) (by decide)⟩
      have S := C4.side (tg b) (tg_lt b)
      have hs := sid_in (tg b)
      cases hq : exF (tF b) (b.1 19) with
      | none =>
        rw [hq] at hx
        subst hx
        have hnil : fileL (tF b) (b.1 19) = [] := by rw [fileL, hq]
        rw [hnil] at fin ⊢
        have hb : blks B K [] = [] := by simp [blks]
        rw [hb] at fin ⊢
        refine E_aload_n dX2_makeNext_96 rfl ?_
        refine E_getI dX2_makeNext_97 fl_X2_39 (by first | assumption | rfl) rfl ?_
        refine E_aload_n dX2_makeNext_100 rfl ?_
        refine E_getI dX2_makeNext_101 fl_X2_85 (by first | assumption | rfl) rfl ?_
        rw [e16, e20]
        refine cV3 (N := mX7_fill) dX2_makeNext_104 cn_X7_fill lk_X2_101 ⟨Nat.le_of_ble_eq_true rfl, Nat.le_of_ble_eq_true rfl⟩ (by first | assumption | rfl) rfl (Nat.le_of_ble_eq_true rfl) ⟨rfl, rfl⟩ (c_fillN S4) (fun v5 h5 ⟨hv5, S5, G5⟩ => ?_)
        rw [hv5]
        exact fin h5 S5 G5
      | some f =>
        rw [hq] at hx
        subst hx
        obtain ⟨hf, hxf, xs, hxs⟩ := exF_some hq
        have R := S.1.2.1 f hf
        have hO : ∀ x ∈ xs, x < 256 := S.1.2.2.2 f xs hxs
        have hfl : fileL (tF b) (b.1 19) = xs := by simp only [fileL, hq, hxs]; rfl
        rw [hfl] at fin ⊢
        rw [show (aN b 1 []).2.2.2.1 (tg b) f = some xs from hxs] at R
        have hne : ∀ z, 46 ≤ z → z < 46 + 3 → z ≠ rId (sid (tg b)) f ∧ z ≠ cId (sid (tg b)) f := by intro z q1 q2; unfold rId cId; omega
        refine E_aload_n dX2_makeNext_96 rfl ?_
        refine E_getI dX2_makeNext_97 fl_X2_39 (by first | assumption | rfl) rfl ?_
        refine E_aload_n dX2_makeNext_100 rfl ?_
        refine E_getI dX2_makeNext_101 fl_X2_85 (by first | assumption | rfl) rfl ?_
        rw [e16, e20]
        refine cV3 (N := mX7_fill) dX2_makeNext_104 cn_X7_fill lk_X2_101 ⟨Nat.le_of_ble_eq_true rfl, Nat.le_of_ble_eq_true rfl⟩ (by first | assumption | rfl) rfl (Nat.le_of_ble_eq_true rfl) ⟨rfl, rfl⟩ (c_fill S4 R hO hB0 hB2 hK2 hne) (fun v5 h5 ⟨hv5, S5, G5⟩ => ?_)
        rw [hv5]
        exact fin h5 S5 G5
    refine E_aload_n dX2_makeNext_77 rfl ?_
    refine cV0 (N := mX2_forgetBuilt) dX2_makeNext_78 cn_X2_forgetBuilt lk_X2_54 ⟨Nat.le_of_ble_eq_true rfl, Nat.le_of_ble_eq_true rfl⟩ (by first | assumption | rfl) rfl (Nat.le_of_ble_eq_true rfl) ⟨rfl, rfl⟩ (c_forgetBuilt C3) (fun v4 h4 ⟨hv4, C4, F4⟩ => ?_)
    rw [hv4]
    have r43 : h4.2.2 43 1 = some 46 := C4.2.2.1.2.2.2.2.2.2.2.2.2.2.2.1
    have e19 : h4.1 53 9 = b.1 19 := C4.1 19 (by decide)
    have rT := C4.rT
    have S := C4.side (tg b) (tg_lt b)
    refine E_aload_n dX2_makeNext_81 rfl ?_
    refine E_getR dX2_makeNext_82 fl_X2_91 (by first | assumption | rfl) (by assumption) rfl ?_
    refine E_aload_n dX2_makeNext_85 rfl ?_
    refine E_getR dX2_makeNext_86 fl_X2_35 (by first | assumption | rfl) (by assumption) rfl ?_
    refine E_aload_n dX2_makeNext_89 rfl ?_
    refine E_getI dX2_makeNext_90 fl_X2_31 (by first | assumption | rfl) rfl ?_
    rw [e19]
    refine cV1 (N := mX6_existing) dX2_makeNext_93 cn_X6_existing lk_X2_95 ⟨Nat.le_of_ble_eq_true rfl, Nat.le_of_ble_eq_true rfl⟩ S.1.1.1 rfl (Nat.le_of_ble_eq_true rfl) ⟨rfl, rfl⟩ (c_existing S.1 _) (fun v5 h5 ⟨hv5, hh5⟩ => ?_)
    rw [hv5, hh5]
    exact go h4 _ C4 (F3.tr F4) rfl
  refine Sp0.of (by decide) (Nat.le_of_ble_eq_true rfl) ?_
  show E mX2_makeNext none _ 0 [some (.ref 53), some (.ref 43), none] [] SH h 0 0
  have e17 : h.1 53 7 = a.1 17 := C.1 17 (by decide)
  have e19 : h.1 53 9 = a.1 19 := C.1 19 (by decide)
  refine E_aload_n dX2_makeNext_0 rfl ?_
  refine E_getI dX2_makeNext_1 fl_X2_48 (by first | assumption | rfl) rfl ?_
  rw [hW.1, hw]
  refine E_if_le 46 dX2_makeNext_4 (by decide) (fun c_4 => ?_) (fun c_4 => absurd (by decide) c_4)
  refine E_aload_n dX2_makeNext_46 rfl ?_
  refine cV0 (N := mX2_leastToDo) dX2_makeNext_47 cn_X2_leastToDo lk_X2_72 ⟨Nat.le_of_ble_eq_true rfl, Nat.le_of_ble_eq_true rfl⟩ (by first | assumption | rfl) rfl (Nat.le_of_ble_eq_true rfl) ⟨rfl, rfl⟩ (c_leastToDo C) (fun v2 h2 ⟨hv2, hh2⟩ => ?_)
  rw [hv2, hh2]
  refine E_istore_n dX2_makeNext_50 (by decide) ?_
  refine E_iload_n dX2_makeNext_51 rfl ?_
  refine E_aload_n dX2_makeNext_52 rfl ?_
  refine E_getI dX2_makeNext_53 fl_X2_31 (by first | assumption | rfl) rfl ?_
  rw [e19]
  refine E_icmp_eq 77 dX2_makeNext_56 (by decide) (fun c_56 => ?_) (fun c_56 => ?_)
  · exact tail h _ (by rw [rPick, if_pos c_56]; exact C0) CF.rf
  · refine E_aload_n dX2_makeNext_59 rfl ?_
    refine E_iload_n dX2_makeNext_60 rfl ?_
    refine E_putI dX2_makeNext_61 fl_X2_31 (by first | assumption | rfl) rfl ?_
    refine E_aload_n dX2_makeNext_64 rfl ?_
    refine E_aload_n dX2_makeNext_65 rfl ?_
    refine E_getI dX2_makeNext_66 fl_X2_42 (by first | assumption | rfl) rfl ?_
    rw [show (sI h 53 9 (ltd (a.2.2.2.2.1 0))).1 53 7 = a.1 17 from (C0.setI 19 (ltd (a.2.2.2.2.1 0)) (by decide) (by decide)).1 17 (by decide)]
    refine E_putI dX2_makeNext_69 fl_X2_85 (by first | assumption | rfl) rfl ?_
    refine E_aload_n dX2_makeNext_72 rfl ?_
    refine E_ic 0 dX2_makeNext_73 (by decide) ?_
    refine E_putI dX2_makeNext_74 fl_X2_88 (by first | assumption | rfl) rfl ?_
    exact tail _ _ (by rw [rPick, if_neg c_56]; exact ((C0.setI 19 (ltd (a.2.2.2.2.1 0)) (by decide) (by decide)).setI 20 (a.1 17) (by decide) (by decide)).setI 21 0 (by decide) (by decide)) (CF_sI (CF_sI (CF_sI CF.rf (by decide)) (by decide)) (by decide))
def clrB (T : Nat → Bool) (i : Nat) : Nat → Bool := fun g => if g < i then false else T g
theorem clrB_step (T : Nat → Bool) (i : Nat) : va_up (clrB T i) i false = clrB T (i + 1) := by
  funext g
  by_cases q : g = i
  · subst q; simp [va_up, clrB]
  · have q2 : (g < i + 1) ↔ (g < i) := by omega
    simp [va_up, clrB, q, q2]
theorem aB2_step (a : Ab) (T D T2 D2 : Nat → Bool) : aB (aB (aB (aB a 0 T) 1 D) 0 T2) 1 D2 = aB (aB a 0 T2) 1 D2 := by
  simp only [aB]
  congr 5
  funext j
  simp only [va_up]
  split
  · rfl
  · split
    · rfl
    · rfl
theorem aB_self (a : Ab) (k : Nat) : aB a k (a.2.2.2.2.1 k) = a := by
  simp only [aB]
  congr 5
  funext j
  simp [va_up]
  intro e
  rw [e]
def rClear (a1 : Ab) : Ab := aI (aI (aI (aI (aI (aI (aN (aN (aB (aB a1 0 (clrB (a1.2.2.2.2.1 0) 8)) 1 (clrB (a1.2.2.2.2.1 1) 8)) 0 [1]) 1 []) 19 (-2)) 22 0) 23 0) 24 0) 25 0) 26 0
def rStartA (a : Ab) (B K rule : Int32) : Ab := rClear (aI (aI (aI a 16 B) 17 K) 18 rule)
theorem rStart_tail {b : Ab} {h h3 : Hp} {x : Nat} {B K rule : Int32} (C3 : CRep b h3) (F3 : CF h h3) : E mX2_start none (fun v sh' h' => sh' = SH ∧ v = none ∧ CRep (aI (aI (aI (aI (aI (aI (aN (aN b 0 [1]) 1 []) 19 (-2)) 22 0) 23 0) 24 0) 25 0) 26 0) h' ∧ CF h h') 53 [some (.ref 53), some (.ref x), some (.int B), some (.int K), some (.int rule), some (.int 8)] [] SH h3 0 0 := by
  refine E_aload_n dX2_start_53 rfl ?_
  refine E_ic 0 dX2_start_54 (by decide) ?_
  refine E_putI dX2_start_55 fl_X2_48 rfl rfl ?_
  have C4 : CRep (aN b 0 []) (sI h3 53 5 0) := C3.wait ⟨by simp [sI, u2, nI], by simp, fun j hj => by simp at hj⟩ rfl (fun y q1 q2 => by funext j; simp [sI, u2, q1]) (fun k hk => by simp [sI, u2, hk])
  have F4 : CF h (sI h3 53 5 0) := CF_sI F3 (by decide)
  refine E_aload_n dX2_start_58 rfl ?_
  refine E_ic 1 dX2_start_59 (by decide) ?_
  rw [show (1 : Int32) = nI 1 by decide]
  refine cV1 (N := mX2_putToWait) dX2_start_60 cn_X2_putToWait lk_X2_51 ⟨Nat.le_of_ble_eq_true rfl, Nat.le_of_ble_eq_true rfl⟩ rfl rfl (Nat.le_of_ble_eq_true rfl) ⟨rfl, rfl⟩ (c_putToWait C4 (by rw [aN_at]; decide)) (fun v5 h5 ⟨hv5, C5, F5⟩ => ?_)
  rw [hv5]
  rw [aN_aN, aN_at] at C5
  refine E_aload_n dX2_start_63 rfl ?_
  refine cV0 (N := mX2_forgetBuilt) dX2_start_64 cn_X2_forgetBuilt lk_X2_54 ⟨Nat.le_of_ble_eq_true rfl, Nat.le_of_ble_eq_true rfl⟩ rfl rfl (Nat.le_of_ble_eq_true rfl) ⟨rfl, rfl⟩ (c_forgetBuilt C5) (fun v6 h6 ⟨hv6, C6, F6⟩ => ?_)
  rw [hv6]
  refine E_aload_n dX2_start_67 rfl ?_
  refine E_bi (-2) dX2_start_68 (by decide) ?_
  refine E_putI dX2_start_70 fl_X2_31 rfl rfl ?_
  have C7 := C6.setI 19 (-2) (by decide) (by decide)
  have F7 : CF h (sI h6 53 9 (-2)) := CF_sI ((F4.tr F5).tr F6) (by decide)
  refine E_aload_n dX2_start_73 rfl ?_
  refine E_ic 0 dX2_start_74 (by decide) ?_
  refine E_putI dX2_start_75 fl_X2_57 rfl rfl ?_
  have C8 := C7.setI 22 0 (by decide) (by decide)
  have F8 := CF_sI (b := 53) (k := 12) (x := 0) F7 (by decide)
  refine E_aload_n dX2_start_78 rfl ?_
  refine E_ic 0 dX2_start_79 (by decide) ?_
  refine E_putI dX2_start_80 fl_X2_60 rfl rfl ?_
  have C9 := C8.setI 23 0 (by decide) (by decide)
  have F9 := CF_sI (b := 53) (k := 13) (x := 0) F8 (by decide)
  refine E_aload_n dX2_start_83 rfl ?_
  refine E_ic 0 dX2_start_84 (by decide) ?_
  refine E_putI dX2_start_85 fl_X2_63 rfl rfl ?_
  have C10 := C9.setI 24 0 (by decide) (by decide)
  have F10 := CF_sI (b := 53) (k := 14) (x := 0) F9 (by decide)
  refine E_aload_n dX2_start_88 rfl ?_
  refine E_ic 0 dX2_start_89 (by decide) ?_
  refine E_putI dX2_start_90 fl_X2_66 rfl rfl ?_
  have C11 := C10.setI 25 0 (by decide) (by decide)
  have F11 := CF_sI (b := 53) (k := 15) (x := 0) F10 (by decide)
  refine E_aload_n dX2_start_93 rfl ?_
  refine E_ic 0 dX2_start_94 (by decide) ?_
  refine E_putI dX2_start_95 fl_X2_69 rfl rfl ?_
  have C12 := C11.setI 26 0 (by decide) (by decide)
  have F12 := CF_sI (b := 53) (k := 16) (x := 0) F11 (by decide)
  refine E_retv dX2_start_98 rfl (Nat.le_of_ble_eq_true rfl) (Nat.le_of_ble_eq_true rfl) ?_
  exact ⟨rfl, rfl, C12, F12⟩
theorem clrB_0 (T : Nat → Bool) : clrB T 0 = T := by
  funext g
  simp [clrB]
theorem rStart_loop {a1 : Ab} {h : Hp} {x : Nat} {B K rule : Int32} : ∀ (n i : Nat) (h3 : Hp), 8 - i ≤ n → i ≤ 8 → CRep (aB (aB a1 0 (clrB (a1.2.2.2.2.1 0) i)) 1 (clrB (a1.2.2.2.2.1 1) i)) h3 → CF h h3 → E mX2_start none (fun v sh' h' => sh' = SH ∧ v = none ∧ CRep (rClear a1) h' ∧ CF h h') 24 [some (.ref 53), some (.ref x), some (.int B), some (.int K), some (.int rule), some (.int (nI i))] [] SH h3 0 0 := by
  intro n
  induction n with
  | zero =>
    intro i h3 q1 q2 C3 F3
    have e : i = 8 := by omega
    subst e
    refine E_iload dX2_start_24 rfl ?_
    refine E_bi 8 dX2_start_26 (by decide) ?_
    refine E_icmp_ge 53 dX2_start_28 (by decide) (fun c_28 => ?_) (fun c_28 => absurd (by decide) c_28)
    exact rStart_tail C3 F3
  | succ n ih =>
    intro i h3 q1 q2 C3 F3
    by_cases e : i = 8
    · subst e
      refine E_iload dX2_start_24 rfl ?_
      refine E_bi 8 dX2_start_26 (by decide) ?_
      refine E_icmp_ge 53 dX2_start_28 (by decide) (fun c_28 => ?_) (fun c_28 => absurd (by decide) c_28)
      exact rStart_tail C3 F3
    · have r55 : h3.2.2 53 1 = some 55 := C3.2.2.1.2.2.2.2.2.2.2.2.2.2.2.2.2.2.2.1
      have r56 : h3.2.2 53 2 = some 56 := C3.2.2.1.2.2.2.2.2.2.2.2.2.2.2.2.2.2.2.2.1
      refine E_iload dX2_start_24 rfl ?_
      refine E_bi 8 dX2_start_26 (by decide) ?_
      rw [show (8 : Int32) = nI 8 by decide]
      refine E_icmp_ge 53 dX2_start_28 (by decide) (fun c_28 => absurd c_28 (nI_ge (by omega) (by omega))) (fun c_28 => ?_)
      refine E_aload_n dX2_start_31 rfl ?_
      refine E_getR dX2_start_32 fl_X2_15 rfl r55 rfl ?_
      refine E_iload dX2_start_35 rfl ?_
      refine E_ic 0 dX2_start_37 (by decide) ?_
      refine E_zast dX2_start_38 rfl (vp_in_nI (by omega) (by omega)) ?_
      rw [nI_clamp (by omega)]
      have C4 := C3.flag (j := 0) (f := i) (by decide) (by omega) false
      refine E_aload_n dX2_start_39 rfl ?_
      refine E_getR dX2_start_40 fl_X2_19 rfl r56 rfl ?_
      refine E_iload dX2_start_43 rfl ?_
      refine E_ic 0 dX2_start_45 (by decide) ?_
      refine E_zast dX2_start_46 rfl (vp_in_nI (by omega) (by omega)) ?_
      refine E_iinc dX2_start_47 rfl (by decide) ?_
      rw [nI_clamp (by omega)]
      have C5 := C4.flag (j := 1) (f := i) (by decide) (by omega) false
      refine E_goto 24 dX2_start_50 (by decide) ?_
      rw [nI_inc]
      rw [aB2_step] at C5
      refine ih (i + 1) _ (by omega) (by omega) ?_ (CF_sI (CF_sI F3 (by decide)) (by decide))
      rw [← clrB_step, ← clrB_step]
      exact C5
theorem c_rStart {a : Ab} {h : Hp} (x : Nat) (hx : x < SH.length) (C : CRep a (sR h 53 4 (some x))) (B K rule : Int32) : Sp0 mX2_start [.ref 53, .ref x, .int B, .int K, .int rule] SH h (fun v h' => v = none ∧ CRep (rStartA a B K rule) h' ∧ CF h h') := by
  have F0 : CF h (sR h 53 4 (some x)) := by
    intro y q
    refine ⟨rfl, rfl, ?_⟩
    funext j
    have : y ≠ 53 := by omega
    simp [sR, u2, this]
  have Ca := C.setI 16 B (by decide) (by decide)
  have Fa := CF_sI (b := 53) (k := 6) (x := B) F0 (by decide)
  have Cb := Ca.setI 17 K (by decide) (by decide)
  have Fb := CF_sI (b := 53) (k := 7) (x := K) Fa (by decide)
  have C1 := Cb.setI 18 rule (by decide) (by decide)
  have F1 := CF_sI (b := 53) (k := 8) (x := rule) Fb (by decide)
  refine Sp0.of (by decide) (Nat.le_of_ble_eq_true rfl) ?_
  show E mX2_start none (fun v sh' h' => sh' = SH ∧ v = none ∧ CRep (rClear (aI (aI (aI a 16 B) 17 K) 18 rule)) h' ∧ CF h h') 0 [some (.ref 53), some (.ref x), some (.int B), some (.int K), some (.int rule), none] [] SH h 0 0
  refine E_aload_n dX2_start_0 rfl ?_
  refine E_aload_n dX2_start_1 rfl ?_
  refine E_putR dX2_start_2 fl_X2_35 rfl rfl hx ?_
  refine E_aload_n dX2_start_5 rfl ?_
  refine E_iload_n dX2_start_6 rfl ?_
  refine E_putI dX2_start_7 fl_X2_39 rfl rfl ?_
  refine E_aload_n dX2_start_10 rfl ?_
  refine E_iload_n dX2_start_11 rfl ?_
  refine E_putI dX2_start_12 fl_X2_42 rfl rfl ?_
  refine E_aload_n dX2_start_15 rfl ?_
  refine E_iload dX2_start_16 rfl ?_
  refine E_putI dX2_start_18 fl_X2_45 rfl rfl ?_
  refine E_ic 0 dX2_start_21 (by decide) ?_
  refine E_istore dX2_start_22 (by decide) ?_
  exact rStart_loop 8 0 _ (by omega) (by omega) (by rw [clrB_0, clrB_0, aB_self, aB_self]; exact C1) F1
theorem c_sStart {h : Hp} (x : Nat) (hx : x < SH.length) : Sp0 mX5_start [.ref 49, .ref x] SH h (fun v h' => v = none ∧ h' = sI (sI (sR h 49 1 (some x)) 49 4 0) 49 5 0) := by
  refine Sp0.of (by decide) (Nat.le_of_ble_eq_true rfl) ?_
  show E mX5_start none _ 0 [some (.ref 49), some (.ref x)] [] SH h 0 0
  refine E_aload_n dX5_start_0 rfl ?_
  refine E_aload_n dX5_start_1 rfl ?_
  refine E_putR dX5_start_2 fl_X5_18 rfl rfl hx ?_
  refine E_aload_n dX5_start_5 rfl ?_
  refine E_ic 0 dX5_start_6 (by decide) ?_
  refine E_putI dX5_start_7 fl_X5_22 rfl rfl ?_
  refine E_aload_n dX5_start_10 rfl ?_
  refine E_ic 0 dX5_start_11 (by decide) ?_
  refine E_putI dX5_start_12 fl_X5_26 rfl rfl ?_
  exact E_retv dX5_start_15 rfl (Nat.le_of_ble_eq_true rfl) (Nat.le_of_ble_eq_true rfl) ⟨rfl, rfl, rfl⟩

