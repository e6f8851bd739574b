/-! RollingSync: the files' calls -/
theorem Sp_mono {M : MI} {av : List Value} {sh : List Sh} {h : Hp} {Q Q2 : QT} (hq : ∀ v sh' h', Q v sh' h' → Q2 v sh' h') (k : Sp M av sh h Q) : Sp M av sh h Q2 := by
  intro l D cyc b adr sz
  refine MetFree.mono (k l D cyc b adr sz) (fun _ _ q => q) (fun _ _ _ _ _ q => q) (fun a st o t _ z => ?_)
  obtain ⟨⟨v, sh', h', adr', q1, q2, q3⟩, q4⟩ := z
  exact ⟨⟨v, sh', h', adr', q1, hq v sh' h' q2, q3⟩, q4⟩
theorem Sp0_mono {M : MI} {av : List Value} {sh : List Sh} {h : Hp} {Q Q2 : Option Value → Hp → Prop} (hq : ∀ v h', Q v h' → Q2 v h') (k : Sp0 M av sh h Q) : Sp0 M av sh h Q2 := Sp_mono (fun v sh' h' q => ⟨q.1, hq v h' q.2⟩) k
abbrev eOk (e : Int32) : Prop := e = 0 ∨ e = 1
abbrev fOk (f : Int32) : Prop := 0 ≤ f.toInt ∧ f.toInt < 8
theorem eOk_of {e : Int32} (h : eOk e) : ∃ k, k < 2 ∧ e = nI k := by
  rcases h with h | h
  · exact ⟨0, by decide, by rw [h]; decide⟩
  · exact ⟨1, by decide, by rw [h]; decide⟩
theorem eOk_nI {k : Nat} (h : k < 2) : eOk (nI k) := by
  rcases (show k = 0 ∨ k = 1 by omega) with rfl | rfl
  · exact Or.inl (by decide)
  · exact Or.inr (by decide)
theorem sid_e {e : Nat} (he : e < 2) : (if nI e = 0 then 1 else 21) = sid e := by
  rcases (show e = 0 ∨ e = 1 by omega) with rfl | rfl <;> decide
theorem c_side {a : Ab} {h : Hp} (C : CRep a h) {e : Nat} (he : e < 2) : Sp0 mX8_side [.ref 0, .int (nI e)] SH h (fun v h' => v = some (.ref (sid e)) ∧ h' = h) := by
  obtain ⟨r00, r01, r02, r03, r420, r421, r422, r423, r424, r425, r430, r431, r490, r491, r530, r531, r532, r533, r534⟩ := id C.2.2.1
  refine Sp0.of (by decide) (Nat.le_of_ble_eq_true rfl) ?_
  show E mX8_side none _ 0 [some (.ref 0), some (.int (nI e))] [] SH h 0 0
  refine E_iload_n dX8_side_0 rfl ?_
  refine E_if_ne 11 dX8_side_1 (by decide) (fun c_1 => ?_) (fun c_1 => ?_)
  · refine E_aload_n dX8_side_11 rfl ?_
    refine E_getR dX8_side_12 fl_X8_16 rfl r01 rfl ?_
    exact E_retr dX8_side_15 rfl (Nat.le_of_ble_eq_true rfl) (Nat.le_of_ble_eq_true rfl) ⟨rfl, by rw [← sid_e he, if_neg c_1], rfl⟩
  · refine E_aload_n dX8_side_4 rfl ?_
    refine E_getR dX8_side_5 fl_X8_12 rfl r00 rfl ?_
    refine E_goto 15 dX8_side_8 (by decide) ?_
    exact E_retr dX8_side_15 rfl (Nat.le_of_ble_eq_true rfl) (Nat.le_of_ble_eq_true rfl) ⟨rfl, by rw [← sid_e he, if_pos c_1], rfl⟩
theorem c_exOk {a : Ab} {h : Hp} (C : CRep a h) {e : Nat} (he : e < 2) (f : Int32) : Sp0 mX8_existing [.ref 0, .int (nI e), .int f] SH h (fun v h' => v = some (va_rf ((exF (a.2.2.2.1 e) f).map (rId (sid e)))) ∧ h' = h) := by
  have S := C.side e he
  refine Sp0.of (by decide) (Nat.le_of_ble_eq_true rfl) ?_
  show E mX8_existing none _ 0 [some (.ref 0), some (.int (nI e)), some (.int f)] [] SH h 0 0
  refine E_iload_n dX8_existing_0 rfl ?_
  refine cS1 (N := mX8_isEnd) dX8_existing_1 cn_X8_isEnd lk_X8_35 ⟨Nat.le_of_ble_eq_true rfl, Nat.le_of_ble_eq_true rfl⟩ (Nat.le_of_ble_eq_true rfl) ⟨rfl, rfl⟩ (c_isEnd _) (fun v2 h2 ⟨hv2, hh2⟩ => ?_)
  rw [hv2, hh2, if_pos (eOk_nI he)]
  refine E_if_eq 19 dX8_existing_4 (by decide) (fun c_4 => absurd c_4 (by decide)) (fun c_4 => ?_)
  refine E_aload_n dX8_existing_7 rfl ?_
  refine E_iload_n dX8_existing_8 rfl ?_
  refine cV1 (N := mX8_side) dX8_existing_9 cn_X8_side lk_X8_42 ⟨Nat.le_of_ble_eq_true rfl, Nat.le_of_ble_eq_true rfl⟩ rfl rfl (Nat.le_of_ble_eq_true rfl) ⟨rfl, rfl⟩ (c_side C he) (fun v3 h3 ⟨hv3, hh3⟩ => ?_)
  rw [hv3, hh3]
  refine E_iload_n dX8_existing_12 rfl ?_
  refine cV1 (N := mX6_existing) dX8_existing_13 cn_X6_existing lk_X8_84 ⟨Nat.le_of_ble_eq_true rfl, Nat.le_of_ble_eq_true rfl⟩ S.1.1.1 rfl (Nat.le_of_ble_eq_true rfl) ⟨rfl, rfl⟩ (c_existing S.1 _) (fun v4 h4 ⟨hv4, hh4⟩ => ?_)
  rw [hv4, hh4]
  refine E_goto 20 dX8_existing_16 (by decide) ?_
  cases hx : (exF (a.2.2.2.1 e) f).map (rId (sid e)) with
  | none => exact E_retn dX8_existing_20 rfl (Nat.le_of_ble_eq_true rfl) (Nat.le_of_ble_eq_true rfl) ⟨rfl, rfl, rfl⟩
  | some r => exact E_retr dX8_existing_20 rfl (Nat.le_of_ble_eq_true rfl) (Nat.le_of_ble_eq_true rfl) ⟨rfl, rfl, rfl⟩
theorem c_exBad {h : Hp} {e : Int32} (he : ¬ eOk e) (f : Int32) : Sp0 mX8_existing [.ref 0, .int e, .int f] SH h (fun v h' => v = some .null ∧ h' = h) := by
  refine Sp0.of (by decide) (Nat.le_of_ble_eq_true rfl) ?_
  show E mX8_existing none _ 0 [some (.ref 0), some (.int e), some (.int f)] [] SH h 0 0
  refine E_iload_n dX8_existing_0 rfl ?_
  refine cS1 (N := mX8_isEnd) dX8_existing_1 cn_X8_isEnd lk_X8_35 ⟨Nat.le_of_ble_eq_true rfl, Nat.le_of_ble_eq_true rfl⟩ (Nat.le_of_ble_eq_true rfl) ⟨rfl, rfl⟩ (c_isEnd _) (fun v2 h2 ⟨hv2, hh2⟩ => ?_)
  rw [hv2, hh2, if_neg he]
  refine E_if_eq 19 dX8_existing_4 (by decide) (fun c_4 => ?_) (fun c_4 => absurd rfl c_4)
  refine E_null dX8_existing_19 ?_
  exact E_retn dX8_existing_20 rfl (Nat.le_of_ble_eq_true rfl) (Nat.le_of_ble_eq_true rfl) ⟨rfl, rfl, rfl⟩
/-- a file by the call's numbers -/
def Fo (a : Ab) (e f : Int32) : Option (List Nat) := if eOk e ∧ fOk f then a.2.2.2.1 e.toNatClampNeg f.toNatClampNeg else none
def setFo (a : Ab) (e f : Int32) (o : Option (List Nat)) : Ab := aF a e.toNatClampNeg (setF (a.2.2.2.1 e.toNatClampNeg) f.toNatClampNeg o)
theorem Fo_nI (a : Ab) {e f : Nat} (he : e < 2) (hf : f < 8) : Fo a (nI e) (nI f) = a.2.2.2.1 e f := by
  rw [Fo, if_pos ⟨eOk_nI he, isF_nI hf⟩, nI_clamp (by omega), nI_clamp (by omega)]
theorem setFo_nI (a : Ab) {e f : Nat} (he : e < 2) (hf : f < 8) (o : Option (List Nat)) : setFo a (nI e) (nI f) o = aF a e (setF (a.2.2.2.1 e) f o) := by
  rw [setFo, nI_clamp (by omega), nI_clamp (by omega)]
theorem Fo_some {a : Ab} {e f : Int32} {xs : List Nat} (h : Fo a e f = some xs) : ∃ k g, k < 2 ∧ g < 8 ∧ e = nI k ∧ f = nI g ∧ a.2.2.2.1 k g = some xs := by
  unfold Fo at h
  split at h
  · next q =>
    obtain ⟨k, hk, rfl⟩ := eOk_of q.1
    obtain ⟨g, hg, rfl⟩ := isF_of q.2
    rw [nI_clamp (by omega), nI_clamp (by omega)] at h
    exact ⟨k, g, hk, hg, rfl, rfl, h⟩
  · cases h
/-- existing, by the call's numbers -/
theorem c_ex {a : Ab} {h : Hp} (C : CRep a h) (e f : Int32) : Sp0 mX8_existing [.ref 0, .int e, .int f] SH h (fun v h' => ((Fo a e f = none ∧ v = some .null) ∨ ∃ k g xs, k < 2 ∧ g < 8 ∧ e = nI k ∧ f = nI g ∧ a.2.2.2.1 k g = some xs ∧ v = some (.ref (rId (sid k) g))) ∧ h' = h) := by
  by_cases he : eOk e
  · obtain ⟨k, hk, rfl⟩ := eOk_of he
    refine Sp0_mono ?_ (c_exOk C hk f)
    rintro v h' ⟨q2, q3⟩
    refine ⟨?_, q3⟩
    cases hx : exF (a.2.2.2.1 k) f with
    | none =>
      left
      refine ⟨?_, by rw [q2, hx]; rfl⟩
      by_cases hf : fOk f
      · obtain ⟨g, hg, rfl⟩ := isF_of hf
        rw [Fo_nI a hk hg]
        cases hz : a.2.2.2.1 k g with
        | none => rfl
        | some xs => rw [exF_of hg hz] at hx; cases hx
      · rw [Fo, if_neg (fun z => hf z.2)]
    | some g =>
      right
      obtain ⟨hg, hfg, xs, hxs⟩ := exF_some hx
      exact ⟨k, g, xs, hk, hg, rfl, hfg, hxs, by rw [q2, hx]; rfl⟩
  · exact Sp0_mono (fun v h' q => ⟨Or.inl ⟨by rw [Fo, if_neg (fun z => he z.1)], q.1⟩, q.2⟩) (c_exBad he f)
/-! at, drop, trim, size, node, weak -/
def atR (a : Ab) (e f i : Int32) : Int32 := match Fo a e f with
  | none => -1
  | some xs => gI xs i
theorem CRep.row {a : Ab} {h : Hp} (C : CRep a h) {k g : Nat} {xs : List Nat} (hk : k < 2) (hg : g < 8) (hx : a.2.2.2.1 k g = some xs) : RowL SH h (rId (sid k) g) (cId (sid k) g) 500 xs ∧ ∀ x ∈ xs, x < 256 := by
  have S := C.side k hk
  have R := S.1.2.1 g hg
  rw [hx] at R
  exact ⟨R, S.1.2.2.2 g xs hx⟩
theorem at_none {a : Ab} {h : Hp} {e f i : Int32} (hn : Fo a e f = none) : E mX8_at none (fun v sh' h' => sh' = SH ∧ v = some (.int (atR a e f i)) ∧ h' = h) 6 [some (.ref 0), some (.int e), some (.int f), some (.int i), none] [.null] SH h 0 0 := by
  refine E_astoreN dX8_at_6 (by decide) ?_
  refine E_aloadN dX8_at_8 rfl ?_
  refine E_ifnonnullN dX8_at_10 ?_
  refine E_ic (-1) dX8_at_13 (by decide) ?_
  refine E_goto 23 dX8_at_14 (by decide) ?_
  exact E_reti dX8_at_23 rfl rfl (Nat.le_of_ble_eq_true rfl) (Nat.le_of_ble_eq_true rfl) ⟨rfl, by rw [atR, hn], rfl⟩
theorem at_some {a : Ab} {h : Hp} (C : CRep a h) {k g : Nat} {xs : List Nat} {i : Int32} (hk : k < 2) (hg : g < 8) (hx : a.2.2.2.1 k g = some xs) : E mX8_at none (fun v sh' h' => sh' = SH ∧ v = some (.int (atR a (nI k) (nI g) i)) ∧ h' = h) 6 [some (.ref 0), some (.int (nI k)), some (.int (nI g)), some (.int i), none] [.ref (rId (sid k) g)] SH h 0 0 := by
  have R := C.row hk hg hx
  refine E_astore dX8_at_6 (by decide) ?_
  refine E_aload dX8_at_8 rfl ?_
  refine E_ifnonnull 17 dX8_at_10 (by decide) ?_
  refine E_aload dX8_at_17 rfl ?_
  refine E_iload_n dX8_at_19 rfl ?_
  refine cV1 (N := mX3_get) dX8_at_20 cn_X3_get lk_X8_68 ⟨Nat.le_of_ble_eq_true rfl, Nat.le_of_ble_eq_true rfl⟩ R.1.1 rfl (Nat.le_of_ble_eq_true rfl) ⟨rfl, rfl⟩ (c_Row_get R.1 _) (fun v2 h2 ⟨hv2, hh2⟩ => ?_)
  rw [hv2, hh2]
  exact E_reti dX8_at_23 rfl rfl (Nat.le_of_ble_eq_true rfl) (Nat.le_of_ble_eq_true rfl) ⟨rfl, by rw [atR, Fo_nI a hk hg, hx], rfl⟩
theorem c_at {a : Ab} {h : Hp} (C : CRep a h) (e f i : Int32) : Sp0 mX8_at [.ref 0, .int e, .int f, .int i] SH h (fun v h' => v = some (.int (atR a e f i)) ∧ h' = h) := by
  refine Sp0.of (by decide) (Nat.le_of_ble_eq_true rfl) ?_
  show E mX8_at none _ 0 [some (.ref 0), some (.int e), some (.int f), some (.int i), none] [] SH h 0 0
  refine E_aload_n dX8_at_0 rfl ?_
  refine E_iload_n dX8_at_1 rfl ?_
  refine E_iload_n dX8_at_2 rfl ?_
  refine cV2 (N := mX8_existing) dX8_at_3 cn_X8_existing lk_X8_54 ⟨Nat.le_of_ble_eq_true rfl, Nat.le_of_ble_eq_true rfl⟩ rfl rfl (Nat.le_of_ble_eq_true rfl) ⟨rfl, rfl⟩ (c_ex C e f) (fun v2 h2 ⟨hv2, hh2⟩ => ?_)
  rw [hh2]
  rcases hv2 with ⟨hn, hv2⟩ | ⟨k, g, xs, hk, hg, he, hf, hx, hv2⟩
  · rw [hv2]
    exact at_none hn
  · rw [hv2]
    subst he hf
    exact at_some C hk hg hx
def drR (a : Ab) (e f : Int32) : Int32 := match Fo a e f with
  | none => -1
  | some xs => nI xs.length
def drS (a : Ab) (e f : Int32) : Ab := match Fo a e f with
  | none => a
  | some _ => setFo a e f none
theorem drop_none {a : Ab} {h : Hp} {e f : Int32} (C : CRep a h) (hn : Fo a e f = none) : E mX8_drop none (fun v sh' h' => sh' = SH ∧ v = some (.int (drR a e f)) ∧ CRep (drS a e f) h' ∧ CF h h') 6 [some (.ref 0), some (.int e), some (.int f), none, none] [.null] SH h 0 0 := by
  refine E_astore_nN dX8_drop_6 (by decide) ?_
  refine E_aload_nN dX8_drop_7 rfl ?_
  refine E_ifnonnullN dX8_drop_8 ?_
  refine E_ic (-1) dX8_drop_11 (by decide) ?_
  exact E_reti dX8_drop_12 rfl rfl (Nat.le_of_ble_eq_true rfl) (Nat.le_of_ble_eq_true rfl) ⟨rfl, by rw [drR, hn], by rw [drS, hn]; exact C, CF.rf⟩
theorem drop_some {a : Ab} {h : Hp} (C : CRep a h) {k g : Nat} {xs : List Nat} (hk : k < 2) (hg : g < 8) (hx : a.2.2.2.1 k g = some xs) : E mX8_drop none (fun v sh' h' => sh' = SH ∧ v = some (.int (drR a (nI k) (nI g))) ∧ CRep (drS a (nI k) (nI g)) h' ∧ CF h h') 6 [some (.ref 0), some (.int (nI k)), some (.int (nI g)), none, none] [.ref (rId (sid k) g)] SH h 0 0 := by
  have R := C.row hk hg hx
  have S := C.side k hk
  refine E_astore_n dX8_drop_6 (by decide) ?_
  refine E_aload_n dX8_drop_7 rfl ?_
  refine E_ifnonnull 13 dX8_drop_8 (by decide) ?_
  refine E_aload_n dX8_drop_13 rfl ?_
  refine cV0 (N := mX3_count) dX8_drop_14 cn_X3_count lk_X8_64 ⟨Nat.le_of_ble_eq_true rfl, Nat.le_of_ble_eq_true rfl⟩ R.1.1 rfl (Nat.le_of_ble_eq_true rfl) ⟨rfl, rfl⟩ (c_Row_count R.1.1) (fun v2 h2 ⟨hv2, hh2⟩ => ?_)
  rw [hv2, hh2, R.1.2.2.2.1]
  refine E_istore dX8_drop_17 (by decide) ?_
  refine E_aload_n dX8_drop_19 rfl ?_
  refine E_iload_n dX8_drop_20 rfl ?_
  refine cV1 (N := mX8_side) dX8_drop_21 cn_X8_side lk_X8_42 ⟨Nat.le_of_ble_eq_true rfl, Nat.le_of_ble_eq_true rfl⟩ rfl rfl (Nat.le_of_ble_eq_true rfl) ⟨rfl, rfl⟩ (c_side C hk) (fun v3 h3 ⟨hv3, hh3⟩ => ?_)
  rw [hv3, hh3]
  refine E_iload_n dX8_drop_24 rfl ?_
  refine cV1 (N := mX6_remove) dX8_drop_25 cn_X6_remove lk_X8_81 ⟨Nat.le_of_ble_eq_true rfl, Nat.le_of_ble_eq_true rfl⟩ S.1.1.1 rfl (Nat.le_of_ble_eq_true rfl) ⟨rfl, rfl⟩ (c_remove S hg) (fun v4 h4 ⟨hv4, S4, F4⟩ => ?_)
  rw [hv4]
  refine E_iload dX8_drop_28 rfl ?_
  exact E_reti dX8_drop_30 rfl rfl (Nat.le_of_ble_eq_true rfl) (Nat.le_of_ble_eq_true rfl) ⟨rfl, by rw [drR, Fo_nI a hk hg, hx], by rw [drS, Fo_nI a hk hg, hx]; show CRep (setFo a (nI k) (nI g) none) h4; rw [setFo_nI a hk hg]; exact C.setF hk S4 F4, CF_fr CF.rf F4 (sid_59 _)⟩
theorem c_drop {a : Ab} {h : Hp} (C : CRep a h) (e f : Int32) : Sp0 mX8_drop [.ref 0, .int e, .int f] SH h (fun v h' => v = some (.int (drR a e f)) ∧ CRep (drS a e f) h' ∧ CF h h') := by
  refine Sp0.of (by decide) (Nat.le_of_ble_eq_true rfl) ?_
  show E mX8_drop none _ 0 [some (.ref 0), some (.int e), some (.int f), none, none] [] SH h 0 0
  refine E_aload_n dX8_drop_0 rfl ?_
  refine E_iload_n dX8_drop_1 rfl ?_
  refine E_iload_n dX8_drop_2 rfl ?_
  refine cV2 (N := mX8_existing) dX8_drop_3 cn_X8_existing lk_X8_54 ⟨Nat.le_of_ble_eq_true rfl, Nat.le_of_ble_eq_true rfl⟩ rfl rfl (Nat.le_of_ble_eq_true rfl) ⟨rfl, rfl⟩ (c_ex C e f) (fun v2 h2 ⟨hv2, hh2⟩ => ?_)
  rw [hh2]
  rcases hv2 with ⟨hn, hv2⟩ | ⟨k, g, xs, hk, hg, he, hf, hx, hv2⟩
  · rw [hv2]
    exact drop_none C hn
  · rw [hv2]
    subst he hf
    exact drop_some C hk hg hx
/-- only the nodes are made anew behind a change of one row -/
theorem C_rowRefresh {a : Ab} {h h1 : Hp} (C : CRep a h) {k g : Nat} {xs ys : List Nat} (hk : k < 2) (hg : g < 8) (hx : a.2.2.2.1 k g = some xs) (F1 : RowF h h1 (rId (sid k) g) (cId (sid k) g)) (R1 : RowL SH h1 (rId (sid k) g) (cId (sid k) g) 500 ys) (hY : ∀ x ∈ ys, x < 256) : SideR SH h1 (sid k) (setF (a.2.2.2.1 k) g (some ys)) ∧ SideN h1 (sid k) (a.2.2.2.1 k) := by
  have S := C.side k hk
  refine ⟨?_, S.2.keep (by rw [F1.1])⟩
  refine S.1.set (o := some ys) hg F1 R1 (fun zs q => by cases q; exact hY) ?_
  have q := S.1.2.2.1 g hg
  rw [hx] at q
  have q2 : h1.1 (sid k + 2) g = 1 := by
    rw [F1.2 (sid k + 2) (by unfold rId; omega) (by unfold cId; omega)]; exact q
  have e : h1.1 = u2 h1.1 (sid k + 2) g 1 := by
    funext x j
    by_cases z : x = sid k + 2 ∧ j = g
    · rw [z.1, z.2, q2]; simp [u2]
    · simp [u2, z]
  show h1 = (u2 h1.1 (sid k + 2) g 1, h1.2.1, h1.2.2)
  rw [← e]
theorem c_side2 {a : Ab} {h h1 : Hp} (C : CRep a h) {k g e : Nat} (F1 : RowF h h1 (rId (sid k) g) (cId (sid k) g)) (he : e < 2) (_hg : g < 8) : Sp0 mX8_side [.ref 0, .int (nI e)] SH h1 (fun v h' => v = some (.ref (sid e)) ∧ h' = h1) := by
  have r00 : h1.2.2 0 0 = some 1 := by rw [F1.1]; exact C.2.2.1.1
  have r01 : h1.2.2 0 1 = some 21 := by rw [F1.1]; exact C.2.2.1.2.1
  refine Sp0.of (by decide) (Nat.le_of_ble_eq_true rfl) ?_
  show E mX8_side none _ 0 [some (.ref 0), some (.int (nI e))] [] SH h1 0 0
  refine E_iload_n dX8_side_0 rfl ?_
  refine E_if_ne 11 dX8_side_1 (by decide) (fun c_1 => ?_) (fun c_1 => ?_)
  · refine E_aload_n dX8_side_11 rfl ?_
    refine E_getR dX8_side_12 fl_X8_16 rfl r01 rfl ?_
    exact E_retr dX8_side_15 rfl (Nat.le_of_ble_eq_true rfl) (Nat.le_of_ble_eq_true rfl) ⟨rfl, by rw [← sid_e he, if_neg c_1], rfl⟩
  · refine E_aload_n dX8_side_4 rfl ?_
    refine E_getR dX8_side_5 fl_X8_12 rfl r00 rfl ?_
    refine E_goto 15 dX8_side_8 (by decide) ?_
    exact E_retr dX8_side_15 rfl (Nat.le_of_ble_eq_true rfl) (Nat.le_of_ble_eq_true rfl) ⟨rfl, by rw [← sid_e he, if_pos c_1], rfl⟩
def trR (a : Ab) (e f n : Int32) : Int32 := match Fo a e f with
  | none => -1
  | some xs => if 0 ≤ n.toInt ∧ n.toInt ≤ xs.length then nI xs.length else -1
def trS (a : Ab) (e f n : Int32) : Ab := match Fo a e f with
  | none => a
  | some xs => if 0 ≤ n.toInt ∧ n.toInt ≤ xs.length then setFo a e f (some (xs.take n.toNatClampNeg)) else a
theorem trim_none {a : Ab} {h : Hp} {e f n : Int32} (C : CRep a h) (hn : Fo a e f = none) : E mX8_trim none (fun v sh' h' => sh' = SH ∧ v = some (.int (trR a e f n)) ∧ CRep (trS a e f n) h' ∧ CF h h') 6 [some (.ref 0), some (.int e), some (.int f), some (.int n), none, none] [.null] SH h 0 0 := by
  refine E_astoreN dX8_trim_6 (by decide) ?_
  refine E_aloadN dX8_trim_8 rfl ?_
  refine E_ifnullN 23 dX8_trim_10 (by decide) ?_
  refine E_ic (-1) dX8_trim_23 (by decide) ?_
  exact E_reti dX8_trim_24 rfl rfl (Nat.le_of_ble_eq_true rfl) (Nat.le_of_ble_eq_true rfl) ⟨rfl, by rw [trR, hn], by rw [trS, hn]; exact C, CF.rf⟩
theorem trim_some {a : Ab} {h : Hp} (C : CRep a h) {k g : Nat} {xs : List Nat} {n : Int32} (hk : k < 2) (hg : g < 8) (hx : a.2.2.2.1 k g = some xs) : E mX8_trim none (fun v sh' h' => sh' = SH ∧ v = some (.int (trR a (nI k) (nI g) n)) ∧ CRep (trS a (nI k) (nI g) n) h' ∧ CF h h') 6 [some (.ref 0), some (.int (nI k)), some (.int (nI g)), some (.int n), none, none] [.ref (rId (sid k) g)] SH h 0 0 := by
  have R := C.row hk hg hx
  have S := C.side k hk
  have hm : xs.length ≤ 500 := R.1.2.2.2.2.1
  by_cases hn : 0 ≤ n.toInt ∧ n.toInt ≤ xs.length
  · obtain ⟨j, hj, rfl⟩ := nI_of2 (x := n) (M := nI xs.length) (n := xs.length) (nI_toInt (by omega)) (by rw [i_lt, i_0]; omega) (by rw [i_le, nI_toInt (n := xs.length) (by omega)]; exact hn.2)
    refine E_astore dX8_trim_6 (by decide) ?_
    refine E_aload dX8_trim_8 rfl ?_
    refine E_ifnull dX8_trim_10 ?_
    refine E_aload dX8_trim_13 rfl ?_
    refine E_ic 0 dX8_trim_15 (by decide) ?_
    refine E_iload_n dX8_trim_16 rfl ?_
    refine cV2 (N := mX3_holds) dX8_trim_17 cn_X3_holds lk_X8_58 ⟨Nat.le_of_ble_eq_true rfl, Nat.le_of_ble_eq_true rfl⟩ R.1.1 rfl (Nat.le_of_ble_eq_true rfl) ⟨rfl, rfl⟩ (c_Row_holds R.1 _ _) (fun v2 h2 ⟨hv2, hh2⟩ => ?_)
    rw [hv2, hh2, if_pos (by rw [i_0]; omega)]
    refine E_if_ne 25 dX8_trim_20 (by decide) (fun c_20 => ?_) (fun c_20 => absurd c_20 (by decide))
    refine E_aload dX8_trim_25 rfl ?_
    refine cV0 (N := mX3_count) dX8_trim_27 cn_X3_count lk_X8_64 ⟨Nat.le_of_ble_eq_true rfl, Nat.le_of_ble_eq_true rfl⟩ R.1.1 rfl (Nat.le_of_ble_eq_true rfl) ⟨rfl, rfl⟩ (c_Row_count R.1.1) (fun v3 h3 ⟨hv3, hh3⟩ => ?_)
    rw [hv3, hh3, R.1.2.2.2.1]
    refine E_istore dX8_trim_30 (by decide) ?_
    refine E_aload dX8_trim_32 rfl ?_
    refine E_iload_n dX8_trim_34 rfl ?_
    refine cV1 (N := mX3_keep) dX8_trim_35 cn_X3_keep lk_X8_78 ⟨Nat.le_of_ble_eq_true rfl, Nat.le_of_ble_eq_true rfl⟩ R.1.1 rfl (Nat.le_of_ble_eq_true rfl) ⟨rfl, rfl⟩ (c_Row_keep R.1 (by omega)) (fun v4 h4 ⟨hv4, R4, F4⟩ => ?_)
    rw [hv4]
    have Z := C_rowRefresh C hk hg hx F4 R4 (take_lt R.2)
    refine E_aload_n dX8_trim_38 rfl ?_
    refine E_iload_n dX8_trim_39 rfl ?_
    refine cV1 (N := mX8_side) dX8_trim_40 cn_X8_side lk_X8_42 ⟨Nat.le_of_ble_eq_true rfl, Nat.le_of_ble_eq_true rfl⟩ rfl rfl (Nat.le_of_ble_eq_true rfl) ⟨rfl, rfl⟩ (c_side2 C F4 hk hg) (fun v5 h5 ⟨hv5, hh5⟩ => ?_)
    rw [hv5, hh5]
    refine E_iload_n dX8_trim_43 rfl ?_
    refine cV1 (N := mX6_refresh) dX8_trim_44 cn_X6_refresh lk_X8_75 ⟨Nat.le_of_ble_eq_true rfl, Nat.le_of_ble_eq_true rfl⟩ Z.1.1.1 rfl (Nat.le_of_ble_eq_true rfl) ⟨rfl, rfl⟩ (c_refresh hg Z.1 Z.2 setF_off) (fun v6 h6 ⟨hv6, N6, e61, e62, e63⟩ => ?_)
    rw [hv6]
    refine E_iload dX8_trim_47 rfl ?_
    refine E_reti dX8_trim_49 rfl rfl (Nat.le_of_ble_eq_true rfl) (Nat.le_of_ble_eq_true rfl) ?_
    have W := SideA.fin Z.1 (F4.side hg) N6 e61 e62 e63
    refine ⟨rfl, by simp only [trR, Fo_nI a hk hg, hx, if_pos hn], ?_, CF_fr CF.rf W.2 (sid_59 _)⟩
    simp only [trS, Fo_nI a hk hg, hx, if_pos hn]
    rw [setFo_nI a hk hg, nI_clamp (by omega)]
    exact C.setF hk W.1 W.2
  · refine E_astore dX8_trim_6 (by decide) ?_
    refine E_aload dX8_trim_8 rfl ?_
    refine E_ifnull dX8_trim_10 ?_
    refine E_aload dX8_trim_13 rfl ?_
    refine E_ic 0 dX8_trim_15 (by decide) ?_
    refine E_iload_n dX8_trim_16 rfl ?_
    refine cV2 (N := mX3_holds) dX8_trim_17 cn_X3_holds lk_X8_58 ⟨Nat.le_of_ble_eq_true rfl, Nat.le_of_ble_eq_true rfl⟩ R.1.1 rfl (Nat.le_of_ble_eq_true rfl) ⟨rfl, rfl⟩ (c_Row_holds R.1 _ _) (fun v2 h2 ⟨hv2, hh2⟩ => ?_)
    rw [hv2, hh2, if_neg (by rw [i_0]; omega)]
    refine E_if_ne 25 dX8_trim_20 (by decide) (fun c_20 => absurd rfl c_20) (fun c_20 => ?_)
    refine E_ic (-1) dX8_trim_23 (by decide) ?_
    exact E_reti dX8_trim_24 rfl rfl (Nat.le_of_ble_eq_true rfl) (Nat.le_of_ble_eq_true rfl) ⟨rfl, by simp only [trR, Fo_nI a hk hg, hx, if_neg hn], by simp only [trS, Fo_nI a hk hg, hx, if_neg hn]; exact C, CF.rf⟩
theorem c_trim {a : Ab} {h : Hp} (C : CRep a h) (e f n : Int32) : Sp0 mX8_trim [.ref 0, .int e, .int f, .int n] SH h (fun v h' => v = some (.int (trR a e f n)) ∧ CRep (trS a e f n) h' ∧ CF h h') := by
  refine Sp0.of (by decide) (Nat.le_of_ble_eq_true rfl) ?_
  show E mX8_trim none _ 0 [some (.ref 0), some (.int e), some (.int f), some (.int n), none, none] [] SH h 0 0
  refine E_aload_n dX8_trim_0 rfl ?_
  refine E_iload_n dX8_trim_1 rfl ?_
  refine E_iload_n dX8_trim_2 rfl ?_
  refine cV2 (N := mX8_existing) dX8_trim_3 cn_X8_existing lk_X8_54 ⟨Nat.le_of_ble_eq_true rfl, Nat.le_of_ble_eq_true rfl⟩ rfl rfl (Nat.le_of_ble_eq_true rfl) ⟨rfl, rfl⟩ (c_ex C e f) (fun v2 h2 ⟨hv2, hh2⟩ => ?_)
  rw [hh2]
  rcases hv2 with ⟨hn, hv2⟩ | ⟨k, g, xs, hk, hg, he, hf, hx, hv2⟩
  · rw [hv2]
    exact trim_none C hn
  · rw [hv2]
    subst he hf
    exact trim_some C hk hg hx

