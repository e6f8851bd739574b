/-! RollingSync's small statics, and RollingSync$Side -/
def isF (f : Int32) : Prop := 0 ≤ f.toInt ∧ f.toInt < 8
theorem isF_nI {f : Nat} (h : f < 8) : isF (nI f) := by rw [isF, nI_toInt (by omega)]; omega
theorem isF_of {x : Int32} (h : isF x) : ∃ f, f < 8 ∧ x = nI f := by
  obtain ⟨j, h1, h2⟩ := nI_of2 (x := x) (M := 7) (n := 7) (by decide) (by rw [i_lt, i_0]; exact Int.not_lt.mpr h.1) (by rw [i_le]; have := h.2; rw [show (7 : Int32).toInt = 7 by decide]; omega)
  exact ⟨j, by omega, h2⟩
theorem c_isEnd {sh : List Sh} {h : Hp} (e : Int32) : Sp0 mX8_isEnd [.int e] sh h (fun v h' => v = some (.int (if e = 0 ∨ e = 1 then 1 else 0)) ∧ h' = h) := by
  refine Sp0.of (by decide) (Nat.le_of_ble_eq_true rfl) ?_
  show E mX8_isEnd none _ 0 [some (.int e)] [] sh h 0 0
  refine E_iload_n dX8_isEnd_0 rfl ?_
  refine E_if_eq 9 dX8_isEnd_1 (by decide) (fun c_1 => ?_) (fun c_1 => ?_)
  · refine E_ic 1 dX8_isEnd_9 (by decide) ?_
    refine E_goto 14 dX8_isEnd_10 (by decide) ?_
    exact E_reti dX8_isEnd_14 rfl rfl (Nat.le_of_ble_eq_true rfl) (Nat.le_of_ble_eq_true rfl) ⟨rfl, by rw [if_pos (Or.inl c_1)], rfl⟩
  · refine E_iload_n dX8_isEnd_4 rfl ?_
    refine E_ic 1 dX8_isEnd_5 (by decide) ?_
    refine E_icmp_ne 13 dX8_isEnd_6 (by decide) (fun c_6 => ?_) (fun c_6 => ?_)
    · refine E_ic 0 dX8_isEnd_13 (by decide) ?_
      exact E_reti dX8_isEnd_14 rfl rfl (Nat.le_of_ble_eq_true rfl) (Nat.le_of_ble_eq_true rfl) ⟨rfl, by rw [if_neg (fun q => q.elim c_1 c_6)], rfl⟩
    · refine E_ic 1 dX8_isEnd_9 (by decide) ?_
      refine E_goto 14 dX8_isEnd_10 (by decide) ?_
      exact E_reti dX8_isEnd_14 rfl rfl (Nat.le_of_ble_eq_true rfl) (Nat.le_of_ble_eq_true rfl) ⟨rfl, by rw [if_pos (Or.inr c_6)], rfl⟩
theorem c_isFile {sh : List Sh} {h : Hp} (f : Int32) : Sp0 mX8_isFile [.int f] sh h (fun v h' => v = some (.int (if 0 ≤ f.toInt ∧ f.toInt < 8 then 1 else 0)) ∧ h' = h) := by
  have h8 : (8 : Int32).toInt = 8 := by decide
  refine Sp0.of (by decide) (Nat.le_of_ble_eq_true rfl) ?_
  show E mX8_isFile none _ 0 [some (.int f)] [] sh h 0 0
  refine E_iload_n dX8_isFile_0 rfl ?_
  refine E_if_lt 14 dX8_isFile_1 (by decide) (fun c_1 => ?_) (fun c_1 => ?_)
  · refine E_ic 0 dX8_isFile_14 (by decide) ?_
    exact E_reti dX8_isFile_15 rfl rfl (Nat.le_of_ble_eq_true rfl) (Nat.le_of_ble_eq_true rfl) ⟨rfl, by rw [i_lt, i_0] at c_1; rw [if_neg (by omega)], rfl⟩
  · refine E_iload_n dX8_isFile_4 rfl ?_
    refine E_bi 8 dX8_isFile_5 (by decide) ?_
    refine E_icmp_ge 14 dX8_isFile_7 (by decide) (fun c_7 => ?_) (fun c_7 => ?_)
    · refine E_ic 0 dX8_isFile_14 (by decide) ?_
      exact E_reti dX8_isFile_15 rfl rfl (Nat.le_of_ble_eq_true rfl) (Nat.le_of_ble_eq_true rfl) ⟨rfl, by rw [i_le, h8] at c_7; rw [if_neg (by omega)], rfl⟩
    · refine E_ic 1 dX8_isFile_10 (by decide) ?_
      refine E_goto 15 dX8_isFile_11 (by decide) ?_
      exact E_reti dX8_isFile_15 rfl rfl (Nat.le_of_ble_eq_true rfl) (Nat.le_of_ble_eq_true rfl) ⟨rfl, by rw [i_le, h8] at c_7; rw [i_lt, i_0] at c_1; rw [if_pos (by omega)], rfl⟩
def byteAt (x : Int64) (i : Nat) : Nat := x.toBitVec.toNat / 2 ^ (56 - 8 * i) % 256
def bytes8 (x : Int64) : List Nat := (List.range 8).map (byteAt x)
theorem bytes8_take (x : Int64) {t : Nat} (h : t < 8) : (bytes8 x).take (t + 1) = (bytes8 x).take t ++ [byteAt x t] := by
  rw [take_s (by simp [bytes8]; omega)]
  simp [bytes8, List.getD, h]
theorem sh_b (x : Int64) {t : Nat} (h : t < 8) : ((x.toUInt64 >>> ((nI (56 - 8 * t)).toInt64.toUInt64 &&& Int64.toUInt64 63)).toInt64 &&& 255) = (nI (byteAt x t)).toInt64 := by
  obtain ⟨n, hn, rfl⟩ := wb_of x
  rw [wb_shr hn (by omega)]
  have e := wb_mask (n := n / 2 ^ (56 - 8 * t)) (k := 8) (Nat.lt_of_le_of_lt (Nat.div_le_self _ _) hn) (by decide)
  rw [show (lN (2 ^ 8 - 1) : Int64) = 255 by decide] at e
  rw [e, nI_l (by have := Nat.mod_lt ((lN n).toBitVec.toNat / 2 ^ (56 - 8 * t)) (show 256 > 0 by decide); unfold byteAt; omega), byteAt, wb_tn hn]
theorem mix_i : ∀ t, t < 8 → nI (56 - 8 * t) + Int32.ofInt (-8) = Int32.ofInt (56 - 8 * ((t + 1 : Nat) : Int)) := by decide
theorem mix_h : ∀ t, t < 8 → Int32.ofInt (56 - 8 * ((t : Nat) : Int)) = nI (56 - 8 * t) := by decide
theorem c_mixed {sh : List Sh} {h : Hp} (d x : Int64) : Sp0 mX6_mixed [.long d, .long x] sh h (fun v h' => v = some (.long ((bytes8 x).foldl dstep d)) ∧ h' = h) := by
  refine Sp0.of (by decide) (Nat.le_of_ble_eq_true rfl) ?_
  show E mX6_mixed none _ 0 [some (.long d), none, some (.long x), none, none, none, none] [] sh h 0 0
  have loop : ∀ (n t : Nat), 8 - t ≤ n → t ≤ 8 → E mX6_mixed none (fun v sh' h' => sh' = sh ∧ v = some (.long ((bytes8 x).foldl dstep d)) ∧ h' = h) 7 [some (.long d), none, some (.long x), none, some (.long (((bytes8 x).take t).foldl dstep d)), none, some (.int (Int32.ofInt (56 - 8 * (t : Int))))] [] sh h 0 0 := by
    intro n
    induction n with
    | zero =>
      intro t h1 h2
      have e : t = 8 := by omega
      subst e
      refine E_iload dX6_mixed_7 rfl ?_
      refine E_if_lt 35 dX6_mixed_9 (by decide) (fun c_9 => ?_) (fun c_9 => absurd (by decide) c_9)
      refine E_lload dX6_mixed_35 rfl ?_
      exact E_retl dX6_mixed_37 rfl (Nat.le_of_ble_eq_true rfl) (Nat.le_of_ble_eq_true rfl) ⟨rfl, rfl, rfl⟩
    | succ n ih =>
      intro t h1 h2
      by_cases e : t = 8
      · subst e
        refine E_iload dX6_mixed_7 rfl ?_
        refine E_if_lt 35 dX6_mixed_9 (by decide) (fun c_9 => ?_) (fun c_9 => absurd (by decide) c_9)
        refine E_lload dX6_mixed_35 rfl ?_
        exact E_retl dX6_mixed_37 rfl (Nat.le_of_ble_eq_true rfl) (Nat.le_of_ble_eq_true rfl) ⟨rfl, rfl, rfl⟩
      · rw [mix_h t (by omega)]
        refine E_iload dX6_mixed_7 rfl ?_
        refine E_if_lt 35 dX6_mixed_9 (by decide) (fun c_9 => absurd c_9 (nI_pos (by omega))) (fun c_9 => ?_)
        refine E_lload dX6_mixed_12 rfl ?_
        refine E_lload_n dX6_mixed_14 rfl ?_
        refine E_iload dX6_mixed_15 rfl ?_
        refine E_lushr dX6_mixed_17 ?_
        refine E_ldc2 dX6_mixed_18 kl_X6_64 ?_
        refine E_land dX6_mixed_21 ?_
        rw [sh_b x (by omega)]
        refine E_lxor dX6_mixed_22 ?_
        refine E_ldc2 dX6_mixed_23 kl_X6_66 ?_
        refine E_lmul dX6_mixed_26 ?_
        refine E_lstore dX6_mixed_27 (by decide) ?_
        refine E_iinc dX6_mixed_29 rfl (by decide) ?_
        refine E_goto 7 dX6_mixed_32 (by decide) ?_
        rw [mix_i t (by omega)]
        have h8 := ih (t + 1) (by omega) (by omega)
        rw [bytes8_take x (by omega), List.foldl_append] at h8
        exact h8
  refine E_lload_n dX6_mixed_0 rfl ?_
  refine E_lstore dX6_mixed_1 (by decide) ?_
  refine E_bi 56 dX6_mixed_3 (by decide) ?_
  refine E_istore dX6_mixed_5 (by decide) ?_
  exact loop 8 0 (by omega) (by omega)
/-! the tree of digests -/
abbrev FS : Type := Nat → Option (List Nat)
def leafD (F : FS) (f : Nat) : Int64 := match F f with
  | none => 0
  | some xs => dig xs
def mx (a b : Int64) : Int64 := (bytes8 b).foldl dstep ((bytes8 a).foldl dstep dgE)
def nd8 (F : FS) (n : Nat) : Int64 := leafD F (n - 8)
def nd4 (F : FS) (n : Nat) : Int64 := mx (nd8 F (2 * n)) (nd8 F (2 * n + 1))
def nd2 (F : FS) (n : Nat) : Int64 := mx (nd4 F (2 * n)) (nd4 F (2 * n + 1))
def nodeF (F : FS) (n : Nat) : Int64 := if 8 ≤ n then nd8 F n else if 4 ≤ n then nd4 F n else if 2 ≤ n then nd2 F n else mx (nd2 F 2) (nd2 F 3)
theorem nodeF_rec (F : FS) {n : Nat} (h1 : 1 ≤ n) (h2 : n < 8) : nodeF F n = mx (nodeF F (2 * n)) (nodeF F (2 * n + 1)) := by
  by_cases h4 : 4 ≤ n
  · simp only [nodeF, if_neg (show ¬ 8 ≤ n by omega), if_pos h4, if_pos (show 8 ≤ 2 * n by omega), if_pos (show 8 ≤ 2 * n + 1 by omega)]
    rfl
  · by_cases h3 : 2 ≤ n
    · simp only [nodeF, if_neg (show ¬ 8 ≤ n by omega), if_neg h4, if_pos h3, if_neg (show ¬ 8 ≤ 2 * n by omega), if_neg (show ¬ 8 ≤ 2 * n + 1 by omega), if_pos (show 4 ≤ 2 * n by omega), if_pos (show 4 ≤ 2 * n + 1 by omega)]
      rfl
    · have : n = 1 := by omega
      subst this
      rfl
def anc (n m : Nat) : Prop := m = n ∨ m = n / 2 ∨ m = n / 4 ∨ m = n / 8
theorem leafD_off {F G : FS} {f : Nat} (h : ∀ g, g ≠ f → G g = F g) {g : Nat} (hg : g ≠ f) : leafD G g = leafD F g := by simp [leafD, h g hg]
theorem nodeF_off {F G : FS} {f m : Nat} (hf : f < 8) (h : ∀ g, g ≠ f → G g = F g) (h1 : 1 ≤ m) (h2 : m < 16) (hn : ¬ anc (8 + f) m) : nodeF G m = nodeF F m := by
  have k8 : ∀ n, 8 ≤ n → n ≠ 8 + f → nd8 G n = nd8 F n := fun n q1 q2 => leafD_off h (by omega)
  have k4 : ∀ n, 4 ≤ n → n ≠ (8 + f) / 2 → nd4 G n = nd4 F n := fun n q1 q2 => by
    simp only [nd4]
    rw [k8 _ (by omega) (by omega), k8 _ (by omega) (by omega)]
  have k2 : ∀ n, 2 ≤ n → n ≠ (8 + f) / 4 → nd2 G n = nd2 F n := fun n q1 q2 => by
    simp only [nd2]
    rw [k4 _ (by omega) (by omega), k4 _ (by omega) (by omega)]
  unfold anc at hn
  unfold nodeF
  split
  · exact k8 _ (by omega) (by omega)
  · split
    · exact k4 _ (by omega) (by omega)
    · split
      · exact k2 _ (by omega) (by omega)
      · exfalso
        omega
def rId (s f : Nat) : Nat := s + 4 + 2 * f
def cId (s f : Nat) : Nat := s + 5 + 2 * f
/-- the shape of a side: what never changes -/
def SideW (sh : List Sh) (h : Hp) (s : Nat) : Prop := sh[s]? = some (.inr 6) ∧ h.2.2 s 0 = some (s + 1) ∧ h.2.2 s 1 = some (s + 2) ∧ h.2.2 s 2 = some (s + 3) ∧ sh[s + 1]? = some (.inl (.object RX3, 8)) ∧ sh[s + 2]? = some (.inl (.boolean, 8)) ∧ sh[s + 3]? = some (.inl (.long, 16)) ∧ ∀ f, f < 8 → h.2.2 (s + 1) f = some (rId s f)
def SideR (sh : List Sh) (h : Hp) (s : Nat) (F : FS) : Prop := SideW sh h s ∧ (∀ f, f < 8 → RowL sh h (rId s f) (cId s f) 500 ((F f).getD [])) ∧ (∀ f, f < 8 → h.1 (s + 2) f = if (F f).isSome then 1 else 0) ∧ (∀ f xs, F f = some xs → ∀ x ∈ xs, x < 256)
def SideN (h : Hp) (s : Nat) (F : FS) : Prop := ∀ n, 1 ≤ n → n < 16 → h.2.1 (s + 3) n = nodeF F n
/-- what a side's methods leave alone -/
def SideF (h h' : Hp) (s : Nat) : Prop := h'.2.2 = h.2.2 ∧ ∀ a, a < s ∨ s + 20 ≤ a → h'.1 a = h.1 a ∧ h'.2.1 a = h.2.1 a
theorem SideF.rf {h : Hp} {s : Nat} : SideF h h s := ⟨rfl, fun _ _ => ⟨rfl, rfl⟩⟩
theorem SideF.tr {h h1 h2 : Hp} {s : Nat} (a : SideF h h1 s) (b : SideF h1 h2 s) : SideF h h2 s := ⟨b.1.trans a.1, fun x q => ⟨(b.2 x q).1.trans (a.2 x q).1, (b.2 x q).2.trans (a.2 x q).2⟩⟩
theorem RowF.side {h h' : Hp} {s f : Nat} (hf : f < 8) (a : RowF h h' (rId s f) (cId s f)) : SideF h h' s := by
  refine ⟨by rw [a.1], fun x q => ⟨a.2 x (by unfold rId; omega) (by unfold cId; omega), by rw [a.1]⟩⟩
def exF (F : FS) (f : Int32) : Option Nat := if 0 ≤ f.toInt ∧ f.toInt < 8 then (if (F f.toNatClampNeg).isSome then some f.toNatClampNeg else none) else none
theorem exF_some {F : FS} {x : Int32} {f : Nat} (h : exF F x = some f) : f < 8 ∧ x = nI f ∧ ∃ xs, F f = some xs := by
  unfold exF at h
  split at h
  · next q =>
    split at h
    · next q2 =>
      obtain ⟨g, hg, rfl⟩ := isF_of q
      rw [nI_clamp (by omega)] at h q2
      cases h
      exact ⟨hg, rfl, Option.isSome_iff_exists.mp q2⟩
    · cases h
  · cases h
theorem exF_of {F : FS} {f : Nat} {xs : List Nat} (hf : f < 8) (h : F f = some xs) : exF F (nI f) = some f := by
  unfold exF
  rw [if_pos (show 0 ≤ (nI f).toInt ∧ (nI f).toInt < 8 from isF_nI hf), nI_clamp (by omega), h]
  rfl
theorem exF_none {F : FS} {f : Nat} (hf : f < 8) (h : F f = none) : exF F (nI f) = none := by
  unfold exF
  rw [if_pos (show 0 ≤ (nI f).toInt ∧ (nI f).toInt < 8 from isF_nI hf), nI_clamp (by omega), h]
  rfl
theorem c_existing {sh : List Sh} {h : Hp} {s : Nat} {F : FS} (S : SideR sh h s F) (f : Int32) : Sp0 mX6_existing [.ref s, .int f] sh h (fun v h' => v = some (va_rf ((exF F f).map (rId s))) ∧ h' = h) := by
  obtain ⟨⟨w1, w2, w3, w4, w5, w6, w7, w8⟩, hR, hP, hB⟩ := S
  refine Sp0.of (by decide) (Nat.le_of_ble_eq_true rfl) ?_
  show E mX6_existing none _ 0 [some (.ref s), some (.int f)] [] sh h 0 0
  by_cases hf : 0 ≤ f.toInt ∧ f.toInt < 8
  · obtain ⟨g, hg, rfl⟩ := isF_of hf
    have hcl : (nI g).toNatClampNeg = g := nI_clamp (by omega)
    cases hx : F g with
    | none =>
      refine E_iload_n dX6_existing_0 rfl ?_
      refine cS1 (N := mX8_isFile) dX6_existing_1 cn_X8_isFile lk_X6_31 ⟨Nat.le_of_ble_eq_true rfl, Nat.le_of_ble_eq_true rfl⟩ (Nat.le_of_ble_eq_true rfl) ⟨rfl, rfl⟩ (c_isFile _) (fun v2 h2 ⟨hv2, hh2⟩ => ?_)
      subst hv2 hh2
      rw [if_pos hf]
      refine E_if_eq 25 dX6_existing_4 (by decide) (fun c_4 => absurd c_4 (by decide)) (fun c_4 => ?_)
      refine E_aload_n dX6_existing_7 rfl ?_
      refine E_getR dX6_existing_8 fl_X6_17 (by first | assumption | rfl) (by assumption) rfl ?_
      refine E_iload_n dX6_existing_11 rfl ?_
      refine E_zald dX6_existing_12 (by first | assumption | rfl) (vp_in_nI hg (by omega)) ?_
      rw [hcl, hP g hg, hx]
      refine E_if_eq 25 dX6_existing_13 (by decide) (fun c_13 => ?_) (fun c_13 => absurd rfl c_13)
      refine E_null dX6_existing_25 ?_
      exact E_retn dX6_existing_26 rfl (Nat.le_of_ble_eq_true rfl) (Nat.le_of_ble_eq_true rfl) ⟨rfl, by rw [exF_none hg hx]; rfl, rfl⟩
    | some xs =>
      refine E_iload_n dX6_existing_0 rfl ?_
      refine cS1 (N := mX8_isFile) dX6_existing_1 cn_X8_isFile lk_X6_31 ⟨Nat.le_of_ble_eq_true rfl, Nat.le_of_ble_eq_true rfl⟩ (Nat.le_of_ble_eq_true rfl) ⟨rfl, rfl⟩ (c_isFile _) (fun v2 h2 ⟨hv2, hh2⟩ => ?_)
      subst hv2 hh2
      rw [if_pos hf]
      refine E_if_eq 25 dX6_existing_4 (by decide) (fun c_4 => absurd c_4 (by decide)) (fun c_4 => ?_)
      refine E_aload_n dX6_existing_7 rfl ?_
      refine E_getR dX6_existing_8 fl_X6_17 (by first | assumption | rfl) (by assumption) rfl ?_
      refine E_iload_n dX6_existing_11 rfl ?_
      refine E_zald dX6_existing_12 (by first | assumption | rfl) (vp_in_nI hg (by omega)) ?_
      rw [hcl, hP g hg, hx]
      refine E_if_eq 25 dX6_existing_13 (by decide) (fun c_13 => absurd c_13 (by simp)) (fun c_13 => ?_)
      refine E_aload_n dX6_existing_16 rfl ?_
      refine E_getR dX6_existing_17 fl_X6_11 (by first | assumption | rfl) (by assumption) rfl ?_
      refine E_iload_n dX6_existing_20 rfl ?_
      refine E_aald dX6_existing_21 (by first | assumption | rfl) (vp_in_nI hg (by omega)) (by rw [hcl]; exact w8 g hg) ?_
      refine E_goto 26 dX6_existing_22 (by decide) ?_
      exact E_retr dX6_existing_26 rfl (Nat.le_of_ble_eq_true rfl) (Nat.le_of_ble_eq_true rfl) ⟨rfl, by rw [exF_of hg hx]; rfl, rfl⟩
  · refine E_iload_n dX6_existing_0 rfl ?_
    refine cS1 (N := mX8_isFile) dX6_existing_1 cn_X8_isFile lk_X6_31 ⟨Nat.le_of_ble_eq_true rfl, Nat.le_of_ble_eq_true rfl⟩ (Nat.le_of_ble_eq_true rfl) ⟨rfl, rfl⟩ (c_isFile _) (fun v2 h2 ⟨hv2, hh2⟩ => ?_)
    subst hv2 hh2
    rw [if_neg hf]
    refine E_if_eq 25 dX6_existing_4 (by decide) (fun c_4 => ?_) (fun c_4 => absurd rfl c_4)
    refine E_null dX6_existing_25 ?_
    exact E_retn dX6_existing_26 rfl (Nat.le_of_ble_eq_true rfl) (Nat.le_of_ble_eq_true rfl) ⟨rfl, by rw [exF, if_neg hf]; rfl, rfl⟩
theorem c_countOf {sh : List Sh} {h : Hp} {s : Nat} {F : FS} (S : SideR sh h s F) {f : Nat} (hf : f < 8) : Sp0 mX6_countOf [.ref s, .int (nI f)] sh h (fun v h' => v = some (.int (nI ((F f).getD []).length)) ∧ h' = h) := by
  have w1 := S.1.1
  refine Sp0.of (by decide) (Nat.le_of_ble_eq_true rfl) ?_
  show E mX6_countOf none _ 0 [some (.ref s), some (.int (nI f)), none] [] sh h 0 0
  cases hx : F f with
  | none =>
    refine E_aload_n dX6_countOf_0 rfl ?_
    refine E_iload_n dX6_countOf_1 rfl ?_
    refine cV1 (N := mX6_existing) dX6_countOf_2 cn_X6_existing lk_X6_35 ⟨Nat.le_of_ble_eq_true rfl, Nat.le_of_ble_eq_true rfl⟩ (by first | assumption | rfl) rfl (Nat.le_of_ble_eq_true rfl) ⟨rfl, rfl⟩ (c_existing S _) (fun v2 h2 ⟨hv2, hh2⟩ => ?_)
    subst hv2 hh2
    rw [exF_none hf hx]
    refine E_astore_nN dX6_countOf_5 (by decide) ?_
    refine E_aload_nN dX6_countOf_6 rfl ?_
    refine E_ifnonnullN dX6_countOf_7 ?_
    refine E_ic 0 dX6_countOf_10 (by decide) ?_
    refine E_goto 18 dX6_countOf_11 (by decide) ?_
    exact E_reti dX6_countOf_18 rfl rfl (Nat.le_of_ble_eq_true rfl) (Nat.le_of_ble_eq_true rfl) ⟨rfl, rfl, rfl⟩
  | some xs =>
    have R := S.2.1 f hf
    rw [hx] at R
    refine E_aload_n dX6_countOf_0 rfl ?_
    refine E_iload_n dX6_countOf_1 rfl ?_
    refine cV1 (N := mX6_existing) dX6_countOf_2 cn_X6_existing lk_X6_35 ⟨Nat.le_of_ble_eq_true rfl, Nat.le_of_ble_eq_true rfl⟩ (by first | assumption | rfl) rfl (Nat.le_of_ble_eq_true rfl) ⟨rfl, rfl⟩ (c_existing S _) (fun v2 h2 ⟨hv2, hh2⟩ => ?_)
    subst hv2 hh2
    rw [exF_of hf hx]
    refine E_astore_n dX6_countOf_5 (by decide) ?_
    refine E_aload_n dX6_countOf_6 rfl ?_
    refine E_ifnonnull 14 dX6_countOf_7 (by decide) ?_
    refine E_aload_n dX6_countOf_14 rfl ?_
    refine cV0 (N := mX3_count) dX6_countOf_15 cn_X3_count lk_X6_39 ⟨Nat.le_of_ble_eq_true rfl, Nat.le_of_ble_eq_true rfl⟩ R.1 rfl (Nat.le_of_ble_eq_true rfl) ⟨rfl, rfl⟩ (c_Row_count R.1) (fun v2 h2 ⟨hv2, hh2⟩ => ?_)
    subst hv2 hh2
    exact E_reti dX6_countOf_18 rfl rfl (Nat.le_of_ble_eq_true rfl) (Nat.le_of_ble_eq_true rfl) ⟨rfl, by rw [R.2.2.2.1], rfl⟩
theorem c_digestAt {sh : List Sh} {h : Hp} {s : Nat} {F : FS} (S : SideW sh h s) (N : SideN h s F) (n : Int32) : Sp0 mX6_digestAt [.ref s, .int n] sh h (fun v h' => v = some (.long (if 1 ≤ n.toInt ∧ n.toInt < 16 then nodeF F n.toNatClampNeg else 0)) ∧ h' = h) := by
  obtain ⟨w1, w2, w3, w4, w5, w6, w7, w8⟩ := S
  have h1 : (1 : Int32).toInt = 1 := by decide
  have h16 : (16 : Int32).toInt = 16 := by decide
  refine Sp0.of (by decide) (Nat.le_of_ble_eq_true rfl) ?_
  show E mX6_digestAt none _ 0 [some (.ref s), some (.int n)] [] sh h 0 0
  refine E_iload_n dX6_digestAt_0 rfl ?_
  refine E_ic 1 dX6_digestAt_1 (by decide) ?_
  refine E_icmp_lt 20 dX6_digestAt_2 (by decide) (fun c_2 => ?_) (fun c_2 => ?_)
  · refine E_lc 0 dX6_digestAt_20 (by decide) ?_
    exact E_retl dX6_digestAt_21 rfl (Nat.le_of_ble_eq_true rfl) (Nat.le_of_ble_eq_true rfl) ⟨rfl, by rw [i_lt, h1] at c_2; rw [if_neg (by omega)], rfl⟩
  · refine E_iload_n dX6_digestAt_5 rfl ?_
    refine E_bi 16 dX6_digestAt_6 (by decide) ?_
    refine E_icmp_ge 20 dX6_digestAt_8 (by decide) (fun c_8 => ?_) (fun c_8 => ?_)
    · refine E_lc 0 dX6_digestAt_20 (by decide) ?_
      exact E_retl dX6_digestAt_21 rfl (Nat.le_of_ble_eq_true rfl) (Nat.le_of_ble_eq_true rfl) ⟨rfl, by rw [i_le, h16] at c_8; rw [if_neg (by omega)], rfl⟩
    · refine E_aload_n dX6_digestAt_11 rfl ?_
      refine E_getR dX6_digestAt_12 fl_X6_21 (by first | assumption | rfl) (by assumption) rfl ?_
      refine E_iload_n dX6_digestAt_15 rfl ?_
      rw [i_lt, h1] at c_2
      rw [i_le, h16] at c_8
      have c0 : ¬ n < 0 := by rw [i_lt, i_0]; omega
      have c3 := cl_toInt c0
      refine E_lald dX6_digestAt_16 (by first | assumption | rfl) (in_of c0 (by omega)) ?_
      refine E_goto 21 dX6_digestAt_17 (by decide) ?_
      exact E_retl dX6_digestAt_21 rfl (Nat.le_of_ble_eq_true rfl) (Nat.le_of_ble_eq_true rfl) ⟨rfl, by rw [if_pos (by omega), N _ (by omega) (by omega)], rfl⟩
theorem SideR.off {sh : List Sh} {h h' : Hp} {s : Nat} {F : FS} (S : SideR sh h s F) (h1 : ∀ a, s ≤ a → a < s + 20 → h'.1 a = h.1 a) (h2 : ∀ a, s ≤ a → a < s + 20 → h'.2.2 a = h.2.2 a) : SideR sh h' s F := by
  obtain ⟨⟨w1, w2, w3, w4, w5, w6, w7, w8⟩, hR, hP, hB⟩ := S
  refine ⟨⟨w1, by rw [h2 _ (by omega) (by omega)]; exact w2, by rw [h2 _ (by omega) (by omega)]; exact w3, by rw [h2 _ (by omega) (by omega)]; exact w4, w5, w6, w7, fun f hf => by rw [h2 _ (by omega) (by omega)]; exact w8 f hf⟩, fun f hf => (hR f hf).keep (h1 _ (by unfold rId; omega) (by unfold rId; omega)) (h1 _ (by unfold cId; omega) (by unfold cId; omega)) (h2 _ (by unfold rId; omega) (by unfold rId; omega)), fun f hf => by rw [h1 _ (by omega) (by omega)]; exact hP f hf, hB⟩
/-- the nodes are made anew along one path -/
theorem c_refresh {sh : List Sh} {h : Hp} {s : Nat} {F G : FS} {f : Nat} (hf : f < 8) (S : SideR sh h s G) (N : SideN h s F) (hFG : ∀ g, g ≠ f → G g = F g) : Sp0 mX6_refresh [.ref s, .int (nI f)] sh h (fun v h' => v = none ∧ SideN h' s G ∧ h'.1 = h.1 ∧ h'.2.2 = h.2.2 ∧ ∀ a, a ≠ s + 3 → h'.2.1 a = h.2.1 a) := by
  obtain ⟨⟨w1, w2, w3, w4, w5, w6, w7, w8⟩, hR, hP, hB⟩ := S
  have hcl : (nI f).toNatClampNeg = f := nI_clamp (by omega)
  refine Sp0.of (by decide) (Nat.le_of_ble_eq_true rfl) ?_
  show E mX6_refresh none _ 0 [some (.ref s), some (.int (nI f)), none] [] sh h 0 0
  have loop : ∀ (k n : Nat) (h' : Hp), n ≤ k → n < 8 → h'.1 = h.1 → h'.2.2 = h.2.2 → (∀ a, a ≠ s + 3 → h'.2.1 a = h.2.1 a) → (∀ m, 1 ≤ m → m < 16 → anc n m ∨ h'.2.1 (s + 3) m = nodeF G m) → E mX6_refresh none (fun v sh' h' => sh' = sh ∧ v = none ∧ SideN h' s G ∧ h'.1 = h.1 ∧ h'.2.2 = h.2.2 ∧ ∀ a, a ≠ s + 3 → h'.2.1 a = h.2.1 a) 50 [some (.ref s), some (.int (nI f)), some (.int (nI n))] [] sh h' 0 0 := by
    intro k
    induction k with
    | zero =>
      intro n h' h1 h2 e1 e2 e3 h3
      have e : n = 0 := by omega
      subst e
      refine E_iload_n dX6_refresh_50 rfl ?_
      refine E_ic 1 dX6_refresh_51 (by decide) ?_
      refine E_icmp_lt 95 dX6_refresh_52 (by decide) (fun c_52 => ?_) (fun c_52 => absurd (by decide) c_52)
      exact E_retv dX6_refresh_95 rfl (Nat.le_of_ble_eq_true rfl) (Nat.le_of_ble_eq_true rfl) ⟨rfl, rfl, fun m q1 q2 => (h3 m q1 q2).elim (fun q => by unfold anc at q; omega) (fun q => q), e1, e2, e3⟩
    | succ k ih =>
      intro n h' h1 h2 e1 e2 e3 h3
      have w4' : h'.2.2 s 2 = some (s + 3) := by rw [e2]; exact w4
      by_cases hn : n = 0
      · subst hn
        refine E_iload_n dX6_refresh_50 rfl ?_
        refine E_ic 1 dX6_refresh_51 (by decide) ?_
        refine E_icmp_lt 95 dX6_refresh_52 (by decide) (fun c_52 => ?_) (fun c_52 => absurd (by decide) c_52)
        exact E_retv dX6_refresh_95 rfl (Nat.le_of_ble_eq_true rfl) (Nat.le_of_ble_eq_true rfl) ⟨rfl, rfl, fun m q1 q2 => (h3 m q1 q2).elim (fun q => by unfold anc at q; omega) (fun q => q), e1, e2, e3⟩
      · have hcn : (nI n).toNatClampNeg = n := nI_clamp (by omega)
        have hv0 : h'.2.1 (s + 3) (2 * n) = nodeF G (2 * n) := (h3 (2 * n) (by omega) (by omega)).elim (fun q => by unfold anc at q; omega) (fun q => q)
        have hv1 : h'.2.1 (s + 3) (2 * n + 1) = nodeF G (2 * n + 1) := (h3 (2 * n + 1) (by omega) (by omega)).elim (fun q => by unfold anc at q; omega) (fun q => q)
        refine E_iload_n dX6_refresh_50 rfl ?_
        refine E_ic 1 dX6_refresh_51 (by decide) ?_
        refine E_icmp_lt 95 dX6_refresh_52 (by decide) (fun c_52 => absurd c_52 (by rw [show (1 : Int32) = nI 1 by decide]; exact nI_nlt (by omega) (by omega))) (fun c_52 => ?_)
        refine E_aload_n dX6_refresh_55 rfl ?_
        refine E_getR dX6_refresh_56 fl_X6_21 (by first | assumption | rfl) (by assumption) rfl ?_
        refine E_iload_n dX6_refresh_59 rfl ?_
        refine E_ldc2 dX6_refresh_60 kl_X6_58 ?_
        refine E_aload_n dX6_refresh_63 rfl ?_
        refine E_getR dX6_refresh_64 fl_X6_21 (by first | assumption | rfl) (by assumption) rfl ?_
        refine E_ic 2 dX6_refresh_67 (by decide) ?_
        refine E_iload_n dX6_refresh_68 rfl ?_
        refine E_imul dX6_refresh_69 ?_
        rw [show (2 : Int32) = nI 2 by decide, pk_mul]
        refine E_lald dX6_refresh_70 (by first | assumption | rfl) (vp_in_nI (by omega) (by omega)) ?_
        rw [nI_clamp (by omega), hv0]
        refine cS2 (N := mX6_mixed) dX6_refresh_71 cn_X6_mixed lk_X6_60 ⟨Nat.le_of_ble_eq_true rfl, Nat.le_of_ble_eq_true rfl⟩ (Nat.le_of_ble_eq_true rfl) ⟨rfl, rfl⟩ (c_mixed _ _) (fun v2 h2 ⟨hv2, hh2⟩ => ?_)
        subst hv2 hh2
        refine E_aload_n dX6_refresh_74 rfl ?_
        refine E_getR dX6_refresh_75 fl_X6_21 (by first | assumption | rfl) (by assumption) rfl ?_
        refine E_ic 2 dX6_refresh_78 (by decide) ?_
        refine E_iload_n dX6_refresh_79 rfl ?_
        refine E_imul dX6_refresh_80 ?_
        refine E_ic 1 dX6_refresh_81 (by decide) ?_
        refine E_iadd dX6_refresh_82 ?_
        rw [show (2 : Int32) = nI 2 by decide, pk_mul, nI_1]
        refine E_lald dX6_refresh_83 (by first | assumption | rfl) (vp_in_nI (by omega) (by omega)) ?_
        rw [nI_clamp (by omega), hv1]
        refine cS2 (N := mX6_mixed) dX6_refresh_84 cn_X6_mixed lk_X6_60 ⟨Nat.le_of_ble_eq_true rfl, Nat.le_of_ble_eq_true rfl⟩ (Nat.le_of_ble_eq_true rfl) ⟨rfl, rfl⟩ (c_mixed _ _) (fun v2 h2 ⟨hv2, hh2⟩ => ?_)
        subst hv2 hh2
        refine E_last dX6_refresh_87 (by first | assumption | rfl) (vp_in_nI (by omega) (by omega)) ?_
        refine E_iload_n dX6_refresh_88 rfl ?_
        refine E_ic 2 dX6_refresh_89 (by decide) ?_
        rw [hcn]
        refine E_idiv (by decide) dX6_refresh_90 ?_
        refine E_istore_n dX6_refresh_91 (by decide) ?_
        rw [show (2 : Int32) = nI 2 by decide, pk_div (by omega) (by omega) (by omega)]
        refine E_goto 50 dX6_refresh_92 (by decide) ?_
        refine ih (n / 2) _ (by omega) (by omega) e1 e2 (fun a ha => ?_) (fun m q1 q2 => ?_)
        · rw [← e3 a ha]; funext j; simp [sL, u2, ha]
        · by_cases hm : m = n
          · right
            subst hm
            rw [nodeF_rec G (by omega) h2]
            simp [sL, u2]
            rfl
          · rcases h3 m q1 q2 with q | q
            · left
              unfold anc at q ⊢
              omega
            · right
              rw [← q]
              simp [sL, u2, hm]
  have start : ∀ x : Int64, x = leafD G f → E mX6_refresh none (fun v sh' h' => sh' = sh ∧ v = none ∧ SideN h' s G ∧ h'.1 = h.1 ∧ h'.2.2 = h.2.2 ∧ ∀ a, a ≠ s + 3 → h'.2.1 a = h.2.1 a) 42 [some (.ref s), some (.int (nI f)), none] [.long x, .int (nI (8 + f)), .ref (s + 3)] sh h 0 0 := by
    intro x hx
    refine E_last dX6_refresh_42 (by first | assumption | rfl) (vp_in_nI (by omega) (by omega)) ?_
    rw [nI_clamp (by omega)]
    refine E_bi 8 dX6_refresh_43 (by decide) ?_
    refine E_iload_n dX6_refresh_45 rfl ?_
    refine E_iadd dX6_refresh_46 ?_
    refine E_ic 2 dX6_refresh_47 (by decide) ?_
    rw [show (8 : Int32) = nI 8 by decide, nI_add, show (2 : Int32) = nI 2 by decide]
    refine E_idiv (by decide) dX6_refresh_48 ?_
    rw [pk_div (by omega) (by omega) (by omega)]
    refine E_istore_n dX6_refresh_49 (by decide) ?_
    refine loop 8 ((8 + f) / 2) _ (by omega) (by omega) rfl rfl (fun a ha => ?_) (fun m q1 q2 => ?_)
    · funext j; simp [sL, u2, ha]
    · by_cases hm : m = 8 + f
      · right
        subst hm
        simp [sL, u2, hx, nodeF, nd8]
      · by_cases ha : anc (8 + f) m
        · left
          unfold anc at ha ⊢
          omega
        · right
          rw [nodeF_off hf hFG q1 q2 ha, ← N m q1 q2]
          simp [sL, u2, hm]
  cases hx : G f with
  | none =>
    refine E_iload_n dX6_refresh_0 rfl ?_
    refine cS1 (N := mX8_isFile) dX6_refresh_1 cn_X8_isFile lk_X6_31 ⟨Nat.le_of_ble_eq_true rfl, Nat.le_of_ble_eq_true rfl⟩ (Nat.le_of_ble_eq_true rfl) ⟨rfl, rfl⟩ (c_isFile _) (fun v2 h2 ⟨hv2, hh2⟩ => ?_)
    subst hv2 hh2
    rw [if_pos (show 0 ≤ (nI f).toInt ∧ (nI f).toInt < 8 from isF_nI hf)]
    refine E_if_ne 8 dX6_refresh_4 (by decide) (fun c_4 => ?_) (fun c_4 => absurd c_4 (by decide))
    refine E_aload_n dX6_refresh_8 rfl ?_
    refine E_getR dX6_refresh_9 fl_X6_21 (by first | assumption | rfl) (by assumption) rfl ?_
    refine E_bi 8 dX6_refresh_12 (by decide) ?_
    refine E_iload_n dX6_refresh_14 rfl ?_
    refine E_iadd dX6_refresh_15 ?_
    rw [show (8 : Int32) = nI 8 by decide, nI_add]
    refine E_aload_n dX6_refresh_16 rfl ?_
    refine E_getR dX6_refresh_17 fl_X6_17 (by first | assumption | rfl) (by assumption) rfl ?_
    refine E_iload_n dX6_refresh_20 rfl ?_
    refine E_zald dX6_refresh_21 (by first | assumption | rfl) (vp_in_nI hf (by omega)) ?_
    rw [hcl, hP f hf, hx]
    refine E_if_eq 41 dX6_refresh_22 (by decide) (fun c_22 => ?_) (fun c_22 => absurd rfl c_22)
    refine E_lc 0 dX6_refresh_41 (by decide) ?_
    exact start _ (by rw [leafD, hx])
  | some xs =>
    have R := hR f hf
    rw [hx] at R
    refine E_iload_n dX6_refresh_0 rfl ?_
    refine cS1 (N := mX8_isFile) dX6_refresh_1 cn_X8_isFile lk_X6_31 ⟨Nat.le_of_ble_eq_true rfl, Nat.le_of_ble_eq_true rfl⟩ (Nat.le_of_ble_eq_true rfl) ⟨rfl, rfl⟩ (c_isFile _) (fun v2 h2 ⟨hv2, hh2⟩ => ?_)
    subst hv2 hh2
    rw [if_pos (show 0 ≤ (nI f).toInt ∧ (nI f).toInt < 8 from isF_nI hf)]
    refine E_if_ne 8 dX6_refresh_4 (by decide) (fun c_4 => ?_) (fun c_4 => absurd c_4 (by decide))
    refine E_aload_n dX6_refresh_8 rfl ?_
    refine E_getR dX6_refresh_9 fl_X6_21 (by first | assumption | rfl) (by assumption) rfl ?_
    refine E_bi 8 dX6_refresh_12 (by decide) ?_
    refine E_iload_n dX6_refresh_14 rfl ?_
    refine E_iadd dX6_refresh_15 ?_
    rw [show (8 : Int32) = nI 8 by decide, nI_add]
    refine E_aload_n dX6_refresh_16 rfl ?_
    refine E_getR dX6_refresh_17 fl_X6_17 (by first | assumption | rfl) (by assumption) rfl ?_
    refine E_iload_n dX6_refresh_20 rfl ?_
    refine E_zald dX6_refresh_21 (by first | assumption | rfl) (vp_in_nI hf (by omega)) ?_
    rw [hcl, hP f hf, hx]
    refine E_if_eq 41 dX6_refresh_22 (by decide) (fun c_22 => absurd c_22 (by simp)) (fun c_22 => ?_)
    refine E_aload_n dX6_refresh_25 rfl ?_
    refine E_getR dX6_refresh_26 fl_X6_11 (by first | assumption | rfl) (by assumption) rfl ?_
    refine E_iload_n dX6_refresh_29 rfl ?_
    refine E_aald dX6_refresh_30 (by first | assumption | rfl) (vp_in_nI hf (by omega)) (by rw [hcl]; exact w8 f hf) ?_
    refine E_ic 0 dX6_refresh_31 (by decide) ?_
    refine E_si 500 dX6_refresh_32 (by decide) ?_
    rw [show (0 : Int32) = nI 0 by decide, show (500 : Int32) = nI 500 by decide]
    refine cV2 (N := mX3_digestOf) dX6_refresh_35 cn_X3_digestOf lk_X6_54 ⟨Nat.le_of_ble_eq_true rfl, Nat.le_of_ble_eq_true rfl⟩ R.1 rfl (Nat.le_of_ble_eq_true rfl) ⟨rfl, rfl⟩ (c_Row_digestOf R (by omega) (by omega)) (fun v2 h2 ⟨hv2, hh2⟩ => ?_)
    subst hv2 hh2
    refine E_goto 42 dX6_refresh_38 (by decide) ?_
    exact start _ (by rw [leafD, hx]; simp; rw [List.take_of_length_le (show xs.length ≤ 500 from R.2.2.2.2.1)])

