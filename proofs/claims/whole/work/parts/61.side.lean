/-! what `new` makes: a side -/
theorem os0 {n : Nat} : ∀ v ∈ ([] : List Value), old n v := fun _ h => nomatch h
theorem osI {n : Nat} {x : Int32} {st : List Value} (h : ∀ v ∈ st, old n v) : ∀ v ∈ (Value.int x :: st), old n v := fun v hv => (List.mem_cons.mp hv).elim (fun e => by rw [e]; trivial) (h v)
theorem osR {n x : Nat} {st : List Value} (hx : x < n) (h : ∀ v ∈ st, old n v) : ∀ v ∈ (Value.ref x :: st), old n v := fun v hv => (List.mem_cons.mp hv).elim (fun e => by rw [e]; exact hx) (h v)
theorem ol0 {n : Nat} : ∀ v, some v ∈ ([] : List (Option Value)) → old n v := fun _ h => nomatch h
theorem olI {n : Nat} {x : Int32} {st : List (Option Value)} (h : ∀ v, some v ∈ st → old n v) : ∀ v, some v ∈ (some (Value.int x) :: st) → old n v := fun v hv => (List.mem_cons.mp hv).elim (fun e => by rw [Option.some.inj e]; trivial) (h v)
theorem olR {n x : Nat} {st : List (Option Value)} (hx : x < n) (h : ∀ v, some v ∈ st → old n v) : ∀ v, some v ∈ (some (Value.ref x) :: st) → old n v := fun v hv => (List.mem_cons.mp hv).elim (fun e => by rw [Option.some.inj e]; exact hx) (h v)
theorem olN {n : Nat} {st : List (Option Value)} (h : ∀ v, some v ∈ st → old n v) : ∀ v, some v ∈ ((none : Option Value) :: st) → old n v := fun v hv => (List.mem_cons.mp hv).elim (fun e => nomatch e) (h v)
theorem E_kk {M : MI} {scr : Option (Nat × (Nat → Int32))} {Q : QT} {pc : Nat} {lv : List (Option Value)} {st : List Value} {sh : List Sh} {h : Hp} {kc ks kc' ks' : Nat} (e1 : kc = kc') (e2 : ks = ks') (k : E M scr Q pc lv st sh h kc' ks') : E M scr Q pc lv st sh h kc ks := by
  subst e1
  subst e2
  exact k
theorem E_sh {M : MI} {scr : Option (Nat × (Nat → Int32))} {Q : QT} {pc : Nat} {lv : List (Option Value)} {st : List Value} {sh sh' : List Sh} {h : Hp} {kc ks : Nat} (e1 : sh = sh') (k : E M scr Q pc lv st sh' h kc ks) : E M scr Q pc lv st sh h kc ks := by
  subst e1
  exact k
def U (mx : Int64 → Int64 → Int64) (N : Nat → Int64) (n : Nat) : Nat → Int64 := va_up N n (mx (N (2 * n)) (N (2 * n + 1)))
def upP (mx : Int64 → Int64 → Int64) : Nat → Nat → (Nat → Int64) → Nat → Int64
  | 0, _, N => N
  | k + 1, n, N => if n = 0 then N else upP mx k (n / 2) (U mx N n)
def rfN (mx : Int64 → Int64 → Int64) (N : Nat → Int64) (f : Nat) : Nat → Int64 := upP mx 8 ((8 + f) / 2) (va_up N (8 + f) 0)
def rfA (mx : Int64 → Int64 → Int64) : Nat → (Nat → Int64) → Nat → Int64
  | 0, N => N
  | f + 1, N => rfN mx (rfA mx f N) f
theorem rf_8 (mx : Int64 → Int64 → Int64) (N : Nat → Int64) (n : Nat) (h1 : 8 ≤ n) (h2 : n < 16) : rfA mx 8 N n = 0 := by
  rcases (show n = 8 ∨ n = 9 ∨ n = 10 ∨ n = 11 ∨ n = 12 ∨ n = 13 ∨ n = 14 ∨ n = 15 by omega) with rfl | rfl | rfl | rfl | rfl | rfl | rfl | rfl <;> rfl
theorem rf_4 (mx : Int64 → Int64 → Int64) (N : Nat → Int64) (n : Nat) (h1 : 4 ≤ n) (h2 : n < 8) : rfA mx 8 N n = mx 0 0 := by
  rcases (show n = 4 ∨ n = 5 ∨ n = 6 ∨ n = 7 by omega) with rfl | rfl | rfl | rfl <;> rfl
theorem rf_2 (mx : Int64 → Int64 → Int64) (N : Nat → Int64) (n : Nat) (h1 : 2 ≤ n) (h2 : n < 4) : rfA mx 8 N n = mx (mx 0 0) (mx 0 0) := by
  rcases (show n = 2 ∨ n = 3 by omega) with rfl | rfl <;> rfl
theorem rf_1 (mx : Int64 → Int64 → Int64) (N : Nat → Int64) : rfA mx 8 N 1 = mx (mx (mx 0 0) (mx 0 0)) (mx (mx 0 0) (mx 0 0)) := rfl
def mt : FS := fun _ => none
theorem rf_node (N : Nat → Int64) (n : Nat) (h1 : 1 ≤ n) (h2 : n < 16) : rfA mx 8 N n = nodeF mt n := by
  unfold nodeF
  split
  · rw [rf_8 mx N n (by omega) h2]; rfl
  · split
    · rw [rf_4 mx N n (by omega) (by omega)]; rfl
    · split
      · rw [rf_2 mx N n (by omega) (by omega)]; rfl
      · have : n = 1 := by omega
        subst this
        rw [rf_1 mx N]; rfl
/-- the nodes of a side without files, made anew along one path, whatever stood there -/
theorem c_refresh0 {sh : List Sh} {h : Hp} {s f : Nat} (hf : f < 8) (w1 : sh[s]? = some (.inr 6)) (w3 : h.2.2 s 1 = some (s + 2)) (w4 : h.2.2 s 2 = some (s + 3)) (w6 : sh[s + 2]? = some (.inl (.boolean, 8))) (w7 : sh[s + 3]? = some (.inl (.long, 16))) (hP : h.1 (s + 2) f = 0) : Sp0 mX6_refresh [.ref s, .int (nI f)] sh h (fun v h' => v = none ∧ h'.1 = h.1 ∧ h'.2.2 = h.2.2 ∧ (∀ a, a ≠ s + 3 → h'.2.1 a = h.2.1 a) ∧ h'.2.1 (s + 3) = rfN mx (h.2.1 (s + 3)) f) := by
  have hcl : (nI f).toNatClampNeg = f := nI_clamp (by omega)
  refine Sp0.of (by decide) (Nat.le_of_ble_eq_true rfl) ?_
  show E mX6_refresh none _ 0 [some (.ref s), some (.int (nI f)), none] [] sh h 0 0
  generalize hF : rfN mx (h.2.1 (s + 3)) f = Fin
  have loop : ∀ (k n : Nat) (h' : Hp), n ≤ k → n < 8 → h'.1 = h.1 → h'.2.2 = h.2.2 → (∀ a, a ≠ s + 3 → h'.2.1 a = h.2.1 a) → upP mx k n (h'.2.1 (s + 3)) = Fin → E mX6_refresh none (fun v sh' h' => sh' = sh ∧ v = none ∧ h'.1 = h.1 ∧ h'.2.2 = h.2.2 ∧ (∀ a, a ≠ s + 3 → h'.2.1 a = h.2.1 a) ∧ h'.2.1 (s + 3) = Fin) 50 [some (.ref s), some (.int (nI f)), some (.int (nI n))] [] sh h' 0 0 := by
    intro k
    induction k with
    | zero =>
      intro n h' h1 h2 e1 e2 e3 h3
      have e : n = 0 := by omega
      subst e
      refine E_iload_n dX6_refresh_50 rfl ?_
      refine E_ic 1 dX6_refresh_51 (by decide) ?_
      refine E_icmp_lt 95 dX6_refresh_52 (by decide) (fun c_52 => ?_) (fun c_52 => absurd (by decide) c_52)
      exact E_retv dX6_refresh_95 rfl (Nat.le_of_ble_eq_true rfl) (Nat.le_of_ble_eq_true rfl) ⟨rfl, rfl, e1, e2, e3, h3⟩
    | succ k ih =>
      intro n h' h1 h2 e1 e2 e3 h3
      have w4' : h'.2.2 s 2 = some (s + 3) := by rw [e2]; exact w4
      by_cases hn : n = 0
      · subst hn
        refine E_iload_n dX6_refresh_50 rfl ?_
        refine E_ic 1 dX6_refresh_51 (by decide) ?_
        refine E_icmp_lt 95 dX6_refresh_52 (by decide) (fun c_52 => ?_) (fun c_52 => absurd (by decide) c_52)
        exact E_retv dX6_refresh_95 rfl (Nat.le_of_ble_eq_true rfl) (Nat.le_of_ble_eq_true rfl) ⟨rfl, rfl, e1, e2, e3, h3⟩
      · have hcn : (nI n).toNatClampNeg = n := nI_clamp (by omega)
        rw [upP, if_neg hn] at h3
        refine E_iload_n dX6_refresh_50 rfl ?_
        refine E_ic 1 dX6_refresh_51 (by decide) ?_
        refine E_icmp_lt 95 dX6_refresh_52 (by decide) (fun c_52 => absurd c_52 (by rw [show (1 : Int32) = nI 1 by decide]; exact nI_nlt (by omega) (by omega))) (fun c_52 => ?_)
        refine E_aload_n dX6_refresh_55 rfl ?_
        refine E_getR dX6_refresh_56 fl_X6_21 (by first | assumption | rfl) (by assumption) rfl ?_
        refine E_iload_n dX6_refresh_59 rfl ?_
        refine E_ldc2 dX6_refresh_60 kl_X6_58 ?_
        refine E_aload_n dX6_refresh_63 rfl ?_
        refine E_getR dX6_refresh_64 fl_X6_21 (by first | assumption | rfl) (by assumption) rfl ?_
        refine E_ic 2 dX6_refresh_67 (by decide) ?_
        refine E_iload_n dX6_refresh_68 rfl ?_
        refine E_imul dX6_refresh_69 ?_
        rw [show (2 : Int32) = nI 2 by decide, pk_mul]
        refine E_lald dX6_refresh_70 (by first | assumption | rfl) (vp_in_nI (by omega) (by omega)) ?_
        rw [nI_clamp (by omega)]
        refine cS2 (N := mX6_mixed) dX6_refresh_71 cn_X6_mixed lk_X6_60 ⟨Nat.le_of_ble_eq_true rfl, Nat.le_of_ble_eq_true rfl⟩ (Nat.le_of_ble_eq_true rfl) ⟨rfl, rfl⟩ (c_mixed _ _) (fun v2 h2 ⟨hv2, hh2⟩ => ?_)
        subst hv2 hh2
        refine E_aload_n dX6_refresh_74 rfl ?_
        refine E_getR dX6_refresh_75 fl_X6_21 (by first | assumption | rfl) (by assumption) rfl ?_
        refine E_ic 2 dX6_refresh_78 (by decide) ?_
        refine E_iload_n dX6_refresh_79 rfl ?_
        refine E_imul dX6_refresh_80 ?_
        refine E_ic 1 dX6_refresh_81 (by decide) ?_
        refine E_iadd dX6_refresh_82 ?_
        rw [show (2 : Int32) = nI 2 by decide, pk_mul, nI_1]
        refine E_lald dX6_refresh_83 (by first | assumption | rfl) (vp_in_nI (by omega) (by omega)) ?_
        rw [nI_clamp (by omega)]
        refine cS2 (N := mX6_mixed) dX6_refresh_84 cn_X6_mixed lk_X6_60 ⟨Nat.le_of_ble_eq_true rfl, Nat.le_of_ble_eq_true rfl⟩ (Nat.le_of_ble_eq_true rfl) ⟨rfl, rfl⟩ (c_mixed _ _) (fun v2 h2 ⟨hv2, hh2⟩ => ?_)
        subst hv2 hh2
        refine E_last dX6_refresh_87 (by first | assumption | rfl) (vp_in_nI (by omega) (by omega)) ?_
        refine E_iload_n dX6_refresh_88 rfl ?_
        refine E_ic 2 dX6_refresh_89 (by decide) ?_
        rw [hcn]
        refine E_idiv (by decide) dX6_refresh_90 ?_
        refine E_istore_n dX6_refresh_91 (by decide) ?_
        rw [show (2 : Int32) = nI 2 by decide, pk_div (by omega) (by omega) (by omega)]
        refine E_goto 50 dX6_refresh_92 (by decide) ?_
        refine ih (n / 2) _ (by omega) (by omega) e1 e2 (fun a ha => ?_) ?_
        · rw [← e3 a ha]; funext j; simp [sL, u2, ha]
        · rw [← h3]
          congr 1
          funext m
          simp [sL, u2, U, va_up]
          rfl
  refine E_iload_n dX6_refresh_0 rfl ?_
  refine cS1 (N := mX8_isFile) dX6_refresh_1 cn_X8_isFile lk_X6_31 ⟨Nat.le_of_ble_eq_true rfl, Nat.le_of_ble_eq_true rfl⟩ (Nat.le_of_ble_eq_true rfl) ⟨rfl, rfl⟩ (c_isFile _) (fun v2 h2 ⟨hv2, hh2⟩ => ?_)
  subst hv2 hh2
  rw [if_pos (show 0 ≤ (nI f).toInt ∧ (nI f).toInt < 8 from isF_nI hf)]
  refine E_if_ne 8 dX6_refresh_4 (by decide) (fun c_4 => ?_) (fun c_4 => absurd c_4 (by decide))
  refine E_aload_n dX6_refresh_8 rfl ?_
  refine E_getR dX6_refresh_9 fl_X6_21 (by first | assumption | rfl) (by assumption) rfl ?_
  refine E_bi 8 dX6_refresh_12 (by decide) ?_
  refine E_iload_n dX6_refresh_14 rfl ?_
  refine E_iadd dX6_refresh_15 ?_
  rw [show (8 : Int32) = nI 8 by decide, nI_add]
  refine E_aload_n dX6_refresh_16 rfl ?_
  refine E_getR dX6_refresh_17 fl_X6_17 (by first | assumption | rfl) (by assumption) rfl ?_
  refine E_iload_n dX6_refresh_20 rfl ?_
  refine E_zald dX6_refresh_21 (by first | assumption | rfl) (vp_in_nI hf (by omega)) ?_
  rw [hcl, hP]
  refine E_if_eq 41 dX6_refresh_22 (by decide) (fun c_22 => ?_) (fun c_22 => absurd rfl c_22)
  refine E_lc 0 dX6_refresh_41 (by decide) ?_
  refine E_last dX6_refresh_42 (by first | assumption | rfl) (vp_in_nI (by omega) (by omega)) ?_
  rw [nI_clamp (by omega)]
  refine E_bi 8 dX6_refresh_43 (by decide) ?_
  refine E_iload_n dX6_refresh_45 rfl ?_
  refine E_iadd dX6_refresh_46 ?_
  refine E_ic 2 dX6_refresh_47 (by decide) ?_
  rw [show (8 : Int32) = nI 8 by decide, nI_add, show (2 : Int32) = nI 2 by decide]
  refine E_idiv (by decide) dX6_refresh_48 ?_
  rw [pk_div (by omega) (by omega) (by omega)]
  refine E_istore_n dX6_refresh_49 (by decide) ?_
  refine loop 8 ((8 + f) / 2) _ (by omega) (by omega) rfl rfl (fun a ha => ?_) ?_
  · funext j; simp [sL, u2, ha]
  · rw [← hF, rfN]
    congr 1
    funext m
    simp [sL, u2, va_up]
theorem shp {m k : Nat} {s : Sh} (h : k < m) (e : SH[k]? = some s) : (SH.take m)[k]? = some s := by
  rw [List.getElem?_take, if_pos h]
  exact e
def aOk (a : Nat) : Prop := a = 1 ∨ a = 21
theorem aOk.s0 {a : Nat} (h : aOk a) : SH[a]? = some (.inr 6) := by rcases h with rfl | rfl <;> rfl
theorem aOk.s1 {a : Nat} (h : aOk a) : SH[a + 1]? = some (.inl (.object RX3, 8)) := by rcases h with rfl | rfl <;> rfl
theorem aOk.s2 {a : Nat} (h : aOk a) : SH[a + 2]? = some (.inl (.boolean, 8)) := by rcases h with rfl | rfl <;> rfl
theorem aOk.s3 {a : Nat} (h : aOk a) : SH[a + 3]? = some (.inl (.long, 16)) := by rcases h with rfl | rfl <;> rfl
theorem aOk.r {a i : Nat} (h : aOk a) (hi : i < 8) : SH[a + 4 + 2 * i]? = some (.inr 3) := by
  rcases h with rfl | rfl <;> rcases (show i = 0 ∨ i = 1 ∨ i = 2 ∨ i = 3 ∨ i = 4 ∨ i = 5 ∨ i = 6 ∨ i = 7 by omega) with rfl | rfl | rfl | rfl | rfl | rfl | rfl | rfl <;> rfl
theorem aOk.c {a i : Nat} (h : aOk a) (hi : i < 8) : SH[a + 5 + 2 * i]? = some (.inl (.int, 500)) := by
  rcases h with rfl | rfl <;> rcases (show i = 0 ∨ i = 1 ∨ i = 2 ∨ i = 3 ∨ i = 4 ∨ i = 5 ∨ i = 6 ∨ i = 7 by omega) with rfl | rfl | rfl | rfl | rfl | rfl | rfl | rfl <;> rfl
theorem aOk.le {a : Nat} (h : aOk a) : a ≤ 21 := by rcases h with rfl | rfl <;> decide
def Ow (lo : Nat) (h h' : Hp) : Prop := ∀ x, x < lo → h'.1 x = h.1 x ∧ h'.2.1 x = h.2.1 x ∧ h'.2.2 x = h.2.2 x
theorem Ow.rf {lo : Nat} {h : Hp} : Ow lo h h := fun _ _ => ⟨rfl, rfl, rfl⟩
theorem Ow.tr {lo : Nat} {h h1 h2 : Hp} (a : Ow lo h h1) (b : Ow lo h1 h2) : Ow lo h h2 := fun x q => ⟨(b x q).1.trans (a x q).1, (b x q).2.1.trans (a x q).2.1, (b x q).2.2.trans (a x q).2.2⟩
theorem Ow.mono {lo lo2 : Nat} {h h1 : Hp} (a : Ow lo h h1) (hl : lo2 ≤ lo) : Ow lo2 h h1 := fun x q => a x (by omega)
theorem Ow_clr {lo n : Nat} {h h1 : Hp} (F : Ow lo h h1) (hn : lo ≤ n) : Ow lo h (clr h1 n) := by
  intro x q
  have ne : x ≠ n := by omega
  refine ⟨?_, ?_, ?_⟩
  · rw [← (F x q).1]; funext j; simp [clr, ne]
  · rw [← (F x q).2.1]; funext j; simp [clr, ne]
  · rw [← (F x q).2.2]; funext j; simp [clr, ne]
theorem Ow_sR {lo n k : Nat} {x : Option Nat} {h h1 : Hp} (F : Ow lo h h1) (hn : lo ≤ n) : Ow lo h (sR h1 n k x) := by
  intro y q
  have ne : y ≠ n := by omega
  exact ⟨(F y q).1, (F y q).2.1, by rw [← (F y q).2.2]; funext j; simp [sR, u2, ne]⟩
theorem Ow_sI {lo n k : Nat} {x : Int32} {h h1 : Hp} (F : Ow lo h h1) (hn : lo ≤ n) : Ow lo h (sI h1 n k x) := by
  intro y q
  have ne : y ≠ n := by omega
  exact ⟨by rw [← (F y q).1]; funext j; simp [sI, u2, ne], (F y q).2.1, (F y q).2.2⟩
theorem Ow_rwH {lo a n : Nat} {h h1 : Hp} (F : Ow lo h h1) (ha : lo ≤ a) (hn : lo ≤ n) : Ow lo h (rwH h1 a n) := Ow_sR (Ow_clr F hn) ha
theorem Ow_smH {lo a n : Nat} {h h1 : Hp} (F : Ow lo h h1) (ha : lo ≤ a) (hn : lo ≤ n) : Ow lo h (smH h1 a n) := Ow_sR (Ow_clr (Ow_sR (Ow_clr F hn) ha) (by omega)) ha
def SP (a i : Nat) (h h3 : Hp) : Prop := (h3.2.2 a 0 = some (a + 1) ∧ h3.2.2 a 1 = some (a + 2) ∧ h3.2.2 a 2 = some (a + 3)) ∧ (∀ f, f < i → h3.2.2 (a + 1) f = some (a + 4 + 2 * f) ∧ h3.2.2 (a + 4 + 2 * f) 0 = some (a + 5 + 2 * f) ∧ h3.1 (a + 4 + 2 * f) 1 = 0) ∧ (∀ f, h3.1 (a + 2) f = 0) ∧ Ow a h h3
def rowX (h3 : Hp) (a i : Nat) : Hp := sR (rwH (clr h3 (a + 4 + 2 * i)) (a + 4 + 2 * i) (a + 5 + 2 * i)) (a + 1) i (some (a + 4 + 2 * i))
theorem SP.row {a i : Nat} {h h3 : Hp} (S : SP a i h h3) : SP a (i + 1) h (rowX h3 a i) := by
  obtain ⟨⟨s1, s2, s3⟩, s4, s5, s6⟩ := S
  have k1 : ∀ x j, x ≠ a + 4 + 2 * i → x ≠ a + 5 + 2 * i → (rowX h3 a i).1 x j = h3.1 x j := fun x j q1 q2 => by simp [rowX, rwH, sR, clr, q1, q2]
  have k3 : ∀ x j, x ≠ a + 4 + 2 * i → x ≠ a + 5 + 2 * i → ¬ (x = a + 1 ∧ j = i) → (rowX h3 a i).2.2 x j = h3.2.2 x j := fun x j q1 q2 q3 => by simp [rowX, rwH, sR, u2, clr, q1, q2, q3]
  refine ⟨⟨?_, ?_, ?_⟩, fun f hf => ?_, fun f => ?_, ?_⟩
  · rw [k3 _ _ (by omega) (by omega) (by omega)]; exact s1
  · rw [k3 _ _ (by omega) (by omega) (by omega)]; exact s2
  · rw [k3 _ _ (by omega) (by omega) (by omega)]; exact s3
  · by_cases e : f = i
    · subst e
      refine ⟨?_, ?_, ?_⟩
      · simp [rowX, sR, u2]
      · have q : ¬ (a + 4 + 2 * f = a + 1 ∧ 0 = f) := by omega
        have q2 : (a + 4 + 2 * f) ≠ (a + 5 + 2 * f) := by omega
        simp [rowX, rwH, sR, u2, q]
      · have q2 : (a + 4 + 2 * f) ≠ (a + 5 + 2 * f) := by omega
        simp [rowX, rwH, sR, clr]
    · obtain ⟨t1, t2, t3⟩ := s4 f (by omega)
      exact ⟨by rw [k3 _ _ (by omega) (by omega) (by omega)]; exact t1, by rw [k3 _ _ (by omega) (by omega) (by omega)]; exact t2, by rw [k1 _ _ (by omega) (by omega)]; exact t3⟩
  · rw [k1 _ _ (by omega) (by omega)]; exact s5 f
  · exact Ow_sR (Ow_rwH (Ow_clr s6 (by omega)) (by omega) (by omega)) (by omega)
theorem side_rows {a : Nat} (ha : aOk a) {h : Hp} {Q : QT} (kk : ∀ h4, SP a 8 h h4 → E mX6_init none Q 59 [some (.ref a), some (.int (nI 8))] [] (SH.take (a + 20)) h4 19 4048) : ∀ (n i : Nat) (h3 : Hp), 8 - i ≤ n → i ≤ 8 → SP a i h h3 → E mX6_init none Q 31 [some (.ref a), some (.int (nI i))] [] (SH.take (a + 4 + 2 * i)) h3 (3 + 2 * i) (32 + 502 * i) := by
  have hle := ha.le
  have fin : ∀ h3, SP a 8 h h3 → E mX6_init none Q 31 [some (.ref a), some (.int (nI 8))] [] (SH.take (a + 4 + 2 * 8)) h3 (3 + 2 * 8) (32 + 502 * 8) := by
    intro h3 S
    refine E_iload_n dX6_init_31 rfl ?_
    refine E_bi 8 dX6_init_32 (by decide) ?_
    refine E_icmp_ge 59 dX6_init_34 (by decide) (fun c_34 => ?_) (fun c_34 => absurd (by decide) c_34)
    exact kk h3 S
  intro n
  induction n with
  | zero =>
    intro i h3 hn hi S
    have e : i = 8 := by omega
    subst e
    exact fin h3 S
  | succ n ih =>
    intro i h3 hn hi S
    by_cases e : i = 8
    · subst e
      exact fin h3 S
    · have hl : (SH.take (a + 4 + 2 * i)).length = a + 4 + 2 * i := ln _ (by omega)
      have hl2 : (SH.take (a + 5 + 2 * i)).length = a + 5 + 2 * i := ln _ (by omega)
      have r0 := S.1.1
      have g0 : (SH.take (a + 4 + 2 * i))[a]? = some (.inr 6) := shp (by omega) ha.s0
      have g3 : (SH.take (a + 5 + 2 * i))[a + 4 + 2 * i]? = some (.inr 3) := shp (by omega) (ha.r (by omega))
      have g4 : (SH.take (a + 4 + 2 * (i + 1)))[a + 1]? = some (.inl (.object RX3, 8)) := shp (by omega) ha.s1
      have g5 : (SH.take (a + 4 + 2 * (i + 1)))[a + 4 + 2 * i]? = some (.inr 3) := shp (by omega) (ha.r (by omega))
      have p1 : SH.take (a + 4 + 2 * i) ++ [.inr 3] = SH.take (a + 5 + 2 * i) := tks (ha.r (by omega)) (by omega)
      have p2 : SH.take (a + 5 + 2 * i) ++ [.inl (.int, 500)] = SH.take (a + 4 + 2 * (i + 1)) := tks (ha.c (by omega)) (by omega)
      refine E_iload_n dX6_init_31 rfl ?_
      refine E_bi 8 dX6_init_32 (by decide) ?_
      refine E_icmp_ge 59 dX6_init_34 (by decide) (fun c_34 => absurd c_34 (by rw [show (8 : Int32) = nI 8 by decide]; exact nI_ge (by omega) (by omega))) (fun c_34 => ?_)
      refine E_aload_n dX6_init_37 rfl ?_
      refine E_getR dX6_init_38 fl_X6_11 g0 r0 rfl ?_
      refine E_iload_n dX6_init_41 rfl ?_
      refine E_new dX6_init_42 nw_X6_9 (show 3 + 2 * i + 1 ≤ 19 by omega) (show 32 + 502 * i + 2 ≤ 4048 by omega) (by rw [hl]; exact osI (osR (by omega) os0)) (by rw [hl]; exact olR (by omega) (olI ol0)) ?_
      rw [hl, p1]
      refine E_dup rfl dX6_init_45 ?_
      refine E_si 500 dX6_init_46 (by decide) ?_
      rw [show (500 : Int32) = nI 500 by decide]
      refine cI1 (N := mX3_init) dX6_init_49 cn_X3_init lk_X6_25 ⟨Nat.le_of_ble_eq_true rfl, Nat.le_of_ble_eq_true rfl⟩ (Nat.le_of_ble_eq_true rfl) ⟨show 3 + 2 * i + 1 + 1 ≤ 19 by omega, show 32 + 502 * i + 2 + 500 ≤ 4048 by omega⟩ (by rw [hl2]; exact osR (by omega) (osI (osR (by omega) os0))) (by rw [hl2]; exact olR (by omega) (olI ol0)) (i_Row (Or.inr rfl) g3) (fun v2 sh2 h2 ⟨hv2, hs2, hh2⟩ => ?_)
      rw [hv2, hs2, hh2, hl2, p2]
      refine E_aast dX6_init_52 g4 g5 (vp_in_nI (by omega) (by omega)) ?_
      rw [nI_clamp (by omega)]
      refine E_iinc dX6_init_53 rfl (by decide) ?_
      refine E_goto 31 dX6_init_56 (by decide) ?_
      rw [nI_inc]
      refine E_kk (kc' := 3 + 2 * (i + 1)) (ks' := 32 + 502 * (i + 1)) (by show 3 + 2 * i + 1 + 1 = _; omega) (by show 32 + 502 * i + 2 + 500 = _; omega) ?_
      exact ih (i + 1) _ (by omega) (by omega) S.row
theorem side_nodes {a : Nat} (ha : aOk a) {h : Hp} {Q : QT} {N0 : Nat → Int64} (kk : ∀ h4, SP a 8 h h4 → h4.2.1 (a + 3) = rfA mx 8 N0 → Q none (SH.take (a + 20)) h4) : ∀ (n i : Nat) (h3 : Hp), 8 - i ≤ n → i ≤ 8 → SP a 8 h h3 → h3.2.1 (a + 3) = rfA mx i N0 → E mX6_init none Q 61 [some (.ref a), some (.int (nI i))] [] (SH.take (a + 20)) h3 19 4048 := by
  have hle := ha.le
  have fin : ∀ h3, SP a 8 h h3 → h3.2.1 (a + 3) = rfA mx 8 N0 → E mX6_init none Q 61 [some (.ref a), some (.int (nI 8))] [] (SH.take (a + 20)) h3 19 4048 := by
    intro h3 S e
    refine E_iload_n dX6_init_61 rfl ?_
    refine E_bi 8 dX6_init_62 (by decide) ?_
    refine E_icmp_ge 78 dX6_init_64 (by decide) (fun c_64 => ?_) (fun c_64 => absurd (by decide) c_64)
    exact E_retv dX6_init_78 rfl (Nat.le_of_ble_eq_true rfl) (Nat.le_of_ble_eq_true rfl) (kk h3 S e)
  intro n
  induction n with
  | zero =>
    intro i h3 hn hi S e3
    have e : i = 8 := by omega
    subst e
    exact fin h3 S e3
  | succ n ih =>
    intro i h3 hn hi S e3
    by_cases e : i = 8
    · subst e
      exact fin h3 S e3
    · have g0 : (SH.take (a + 20))[a]? = some (.inr 6) := shp (by omega) ha.s0
      have g2 : (SH.take (a + 20))[a + 2]? = some (.inl (.boolean, 8)) := shp (by omega) ha.s2
      have g3 : (SH.take (a + 20))[a + 3]? = some (.inl (.long, 16)) := shp (by omega) ha.s3
      refine E_iload_n dX6_init_61 rfl ?_
      refine E_bi 8 dX6_init_62 (by decide) ?_
      refine E_icmp_ge 78 dX6_init_64 (by decide) (fun c_64 => absurd c_64 (by rw [show (8 : Int32) = nI 8 by decide]; exact nI_ge (by omega) (by omega))) (fun c_64 => ?_)
      refine E_aload_n dX6_init_67 rfl ?_
      refine E_iload_n dX6_init_68 rfl ?_
      refine E_callV (N := mX6_refresh) (av := [.int (nI i)]) (st := []) dX6_init_69 cn_X6_refresh lk_X6_28 ⟨Nat.le_of_ble_eq_true rfl, Nat.le_of_ble_eq_true rfl⟩ g0 rfl rfl (Nat.le_of_ble_eq_true rfl) ⟨rfl, rfl⟩ ⟨Nat.le_of_ble_eq_true rfl, Nat.le_of_ble_eq_true rfl⟩ (c_refresh0 (by omega) g0 S.1.2.1 S.1.2.2 g2 g3 (S.2.2.1 i)) (fun v2 h2 hq => ?_)
      obtain ⟨hv2, d1, d2, d3, d4⟩ := hq
      rw [hv2]
      refine E_iinc dX6_init_72 rfl (by decide) ?_
      refine E_goto 61 dX6_init_75 (by decide) ?_
      rw [nI_inc]
      obtain ⟨⟨s1, s2, s3⟩, s4, s5, s6⟩ := S
      refine ih (i + 1) h2 (by omega) (by omega) ⟨⟨by rw [d2]; exact s1, by rw [d2]; exact s2, by rw [d2]; exact s3⟩, fun f hf => by rw [d1, d2]; exact s4 f hf, fun f => by rw [d1]; exact s5 f, fun x hx => ⟨by rw [d1]; exact (s6 x hx).1, by rw [d3 x (by omega)]; exact (s6 x hx).2.1, by rw [d2]; exact (s6 x hx).2.2⟩⟩ ?_
      rw [d4, e3]
      rfl
theorem i_Side {a : Nat} (ha : aOk a) {h : Hp} : Sp mX6_init [.ref a] (SH.take (a + 1)) h (fun v sh' h' => v = none ∧ sh' = SH.take (a + 20) ∧ SP a 8 h h' ∧ ∃ N0, h'.2.1 (a + 3) = rfA mx 8 N0) := by
  have hle := ha.le
  have l1 : (SH.take (a + 1)).length = a + 1 := ln _ (by omega)
  have l2 : (SH.take (a + 2)).length = a + 2 := ln _ (by omega)
  have l3 : (SH.take (a + 3)).length = a + 3 := ln _ (by omega)
  have p1 : SH.take (a + 1) ++ [.inl (.object RX3, 8)] = SH.take (a + 2) := tks ha.s1 (by omega)
  have p2 : SH.take (a + 2) ++ [.inl (.boolean, 8)] = SH.take (a + 3) := tks ha.s2 (by omega)
  have p3 : SH.take (a + 3) ++ [.inl (.long, 16)] = SH.take (a + 4) := tks ha.s3 (by omega)
  have g2 : (SH.take (a + 2))[a]? = some (.inr 6) := shp (by omega) ha.s0
  have g3 : (SH.take (a + 3))[a]? = some (.inr 6) := shp (by omega) ha.s0
  have g4 : (SH.take (a + 4))[a]? = some (.inr 6) := shp (by omega) ha.s0
  have S0 : SP a 0 h (sR (clr (sR (clr (sR (clr h (a + 1)) a 0 (some (a + 1))) (a + 2)) a 1 (some (a + 2))) (a + 3)) a 2 (some (a + 3))) := by
    refine ⟨⟨?_, ?_, ?_⟩, fun f hf => absurd hf (by omega), fun f => ?_, ?_⟩
    · simp [sR, u2, clr]
    · simp [sR, u2, clr]
    · simp [sR, u2]
    · simp [sR, clr]
    · exact Ow_sR (Ow_clr (Ow_sR (Ow_clr (Ow_sR (Ow_clr Ow.rf (by omega)) (by omega)) (by omega)) (by omega)) (by omega)) (by omega)
  refine Sp.of (by decide) (Nat.le_of_ble_eq_true rfl) ?_
  show E mX6_init none _ 0 [some (.ref a), none] [] (SH.take (a + 1)) h 0 0
  refine E_aload_n dX6_init_0 rfl ?_
  refine E_objInit dX6_init_1 oi_X6 oi_inst oi_code (by decide) (Nat.le_of_ble_eq_true rfl) ?_
  refine E_aload_n dX6_init_4 rfl ?_
  refine E_bi 8 dX6_init_5 (by decide) ?_
  refine E_anewa (N := 8) dX6_init_7 al_X6_9 (by decide) rfl (by decide) (by decide) (by decide) (by rw [l1]; exact osR (by omega) os0) (by rw [l1]; exact olR (by omega) (olN ol0)) ?_
  rw [l1, p1]
  refine E_putF dX6_init_10 ff_X6_11 g2 rfl (by rw [l2]; omega) (Or.inr ⟨_, rfl⟩) ?_
  refine E_aload_n dX6_init_13 rfl ?_
  refine E_bi 8 dX6_init_14 (by decide) ?_
  refine E_newa_z (N := 8) dX6_init_16 ar_boolean (by decide) rfl (by decide) (by decide) (by decide) (by rw [l2]; exact osR (by omega) os0) (by rw [l2]; exact olR (by omega) (olN ol0)) ?_
  rw [l2, p2]
  refine E_putF dX6_init_18 ff_X6_17 g3 rfl (by rw [l3]; omega) (Or.inr ⟨_, rfl⟩) ?_
  refine E_aload_n dX6_init_21 rfl ?_
  refine E_bi 16 dX6_init_22 (by decide) ?_
  refine E_newa_l (N := 16) dX6_init_24 ar_long (by decide) rfl (by decide) (by decide) (by decide) (by rw [l3]; exact osR (by omega) os0) (by rw [l3]; exact olR (by omega) (olN ol0)) ?_
  rw [l3, p3]
  refine E_putF dX6_init_26 ff_X6_21 g4 rfl (by rw [ln (a + 4) (by omega)]; omega) (Or.inr ⟨_, rfl⟩) ?_
  refine E_ic 0 dX6_init_29 (by decide) ?_
  refine E_istore_n dX6_init_30 (by decide) ?_
  refine side_rows ha (fun h4 S4 => ?_) 8 0 _ (by omega) (by omega) S0
  refine E_ic 0 dX6_init_59 (by decide) ?_
  refine E_istore_n dX6_init_60 (by decide) ?_
  exact side_nodes ha (N0 := h4.2.1 (a + 3)) (fun h5 S5 e5 => ⟨rfl, rfl, S5, _, e5⟩) 8 0 h4 (by omega) (by omega) S4 rfl
theorem SP.side {a : Nat} (ha : aOk a) {h h' : Hp} (S : SP a 8 h h') {N0 : Nat → Int64} (hN : h'.2.1 (a + 3) = rfA mx 8 N0) : SideA SH h' a mt := by
  obtain ⟨⟨s1, s2, s3⟩, s4, s5, s6⟩ := S
  refine ⟨⟨⟨ha.s0, s1, s2, s3, ha.s1, ha.s2, ha.s3, fun f hf => (s4 f hf).1⟩, fun f hf => ⟨ha.r hf, (s4 f hf).2.1, ha.c hf, by rw [show rId a f = a + 4 + 2 * f from rfl, (s4 f hf).2.2]; rfl, Nat.zero_le _, Nat.le_refl _, fun j hj => absurd hj (Nat.not_lt_zero j)⟩, fun f hf => s5 f, fun f xs hx => nomatch hx⟩, fun n h1 h2 => ?_⟩
  rw [hN]
  exact rf_node N0 n h1 h2
theorem SP.ow {a : Nat} {h h1 h2 : Hp} (S : SP a 8 h h1) (O : Ow (a + 20) h1 h2) : SP a 8 h h2 := by
  obtain ⟨⟨s1, s2, s3⟩, s4, s5, s6⟩ := S
  have oa := O a (by omega)
  have ob := O (a + 1) (by omega)
  refine ⟨⟨by rw [oa.2.2]; exact s1, by rw [oa.2.2]; exact s2, by rw [oa.2.2]; exact s3⟩, fun f hf => ?_, fun f => by rw [(O (a + 2) (by omega)).1]; exact s5 f, s6.tr (O.mono (by omega))⟩
  have oc := O (a + 4 + 2 * f) (by omega)
  obtain ⟨t1, t2, t3⟩ := s4 f hf
  exact ⟨by rw [ob.2.2]; exact t1, by rw [oc.2.2]; exact t2, by rw [oc.1]; exact t3⟩

