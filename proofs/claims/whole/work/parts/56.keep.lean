/-! every CALL keeps class and model together -/
theorem steps_ok : ∀ (n : Nat) {a b : Ab}, R a b → (stepF n a).1 = (stepM n b).1 ∧ R (stepF n a).2 (stepM n b).2 := by
  intro n
  induction n with
  | zero => intro a b H; exact ⟨rfl, H⟩
  | succ n ih =>
    intro a b H
    have e0 : a.1 0 = b.1 0 := H.1.i 0 rfl
    by_cases hp : a.1 0 = 1
    · have hq : b.1 0 = 1 := by rw [← e0]; exact hp
      obtain ⟨_, _, H2⟩ := step_ok H hp
      obtain ⟨e, H3⟩ := ih H2
      rw [stepF, if_pos hp, stepM, if_pos hq]
      exact ⟨by show (stepF n (oneA a)).1 + 1 = (stepM n (mOne b)).1 + 1; rw [e], H3⟩
    · have hq : ¬ b.1 0 = 1 := by rw [← e0]; exact hp
      rw [stepF, if_neg hp, stepM, if_neg hq]
      exact ⟨rfl, H⟩
theorem st_ok {a b : Ab} (H : R a b) (n : Int32) : stR a n = stRM b n ∧ R (stS a n) (stSM b n) := by
  have e0 : a.1 0 = b.1 0 := H.1.i 0 rfl
  obtain ⟨e, H2⟩ := steps_ok n.toNatClampNeg H
  constructor
  · unfold stR stRM
    rw [e, e0]
  · unfold stS stSM
    rw [← e0]
    split
    · exact H2
    · exact H
theorem I_pre {a : Ab} (h : ∃ b, R a b) (hp : a.1 0 = 1) : OnePre a := by
  obtain ⟨b, H⟩ := h
  exact (step_ok H hp).1
theorem I_one {a : Ab} (h : ∃ b, R a b) (hp : a.1 0 = 1) : ∃ b, R (oneA a) b := by
  obtain ⟨b, H⟩ := h
  exact ⟨_, (step_ok H hp).2.2⟩
theorem J_pre {b : Ab} (h : ∃ a, R a b) (hp : b.1 0 = 1) : MOnePre b := by
  obtain ⟨a, H⟩ := h
  exact (step_ok H ((H.1.i 0 rfl).trans hp)).2.1
theorem J_one {b : Ab} (h : ∃ a, R a b) (hp : b.1 0 = 1) : ∃ a, R a (mOne b) := by
  obtain ⟨a, H⟩ := h
  exact ⟨_, (step_ok H ((H.1.i 0 rfl).trans hp)).2.2⟩
theorem Fo_eq {a b : Ab} (D : Dt a b) (e f : Int32) : Fo a e f = Fo b e f := by
  unfold Fo
  rw [D.r]
def Fb (a : Ab) : Prop := ∀ e, e < 2 → ∀ f, f < 8 → ((a.2.2.2.1 e f).getD []).length ≤ 500
theorem CRep.fb {a : Ab} {h : Hp} (C : CRep a h) : Fb a := by
  intro e he f hf
  cases hx : a.2.2.2.1 e f with
  | none => exact Nat.zero_le _
  | some xs => exact (C.row he hf hx).1.2.2.2.2.1
theorem R.fil {a b : Ab} (H : R a b) {e e' : Nat} {F G : FS} (he : e = e') (hF : F = G) (hB : Fb (aF a e F)) : R (aF a e F) (aF b e' G) := by
  obtain ⟨D, l1, bd, T, hs, h20, h8, hr⟩ := H
  refine ⟨D.sF hF he, l1, ⟨hB, bd.b, bd.s0, bd.s1⟩, T, hs, h20, h8, fun z => ?_⟩
  obtain ⟨S, rb, hC, hL⟩ := hr z
  exact ⟨S, rb, fun y => ⟨(hC y).1.of (fun _ _ => rfl) (fun _ _ => rfl) rfl (fun _ _ => rfl), (hC y).2⟩, fun y => ⟨(hL y).1.of (fun _ _ => rfl) (fun _ _ => rfl) rfl (fun _ _ => rfl), (hL y).2⟩⟩
theorem R.fo {a b : Ab} (H : R a b) (e f : Int32) {o o' : Option (List Nat)} (ho : o = o') (hB : Fb (setFo a e f o)) : R (setFo a e f o) (setFo b e f o') := by
  unfold setFo at hB ⊢
  exact H.fil rfl (by rw [ho, H.1.r]) hB
theorem wr_ok {a b : Ab} (H : R a b) (e f p : Int32) (x : Int64) (n : Int32) (hB : Fb (wrS a e f p x n)) : wrR a e f p x n = wrR b e f p x n ∧ R (wrS a e f p x n) (wrS b e f p x n) := by
  have eF := Fo_eq H.1 e f
  constructor
  · unfold wrR wrOk
    rw [eF]
  · unfold wrS wrOk at hB ⊢
    rw [← eF]
    split at hB
    · rename_i h
      rw [if_pos h, if_pos h]
      exact H.fo e f rfl hB
    · rename_i h
      rw [if_neg h, if_neg h]
      exact H
theorem ag_ok {a b : Ab} (H : R a b) (e f p n : Int32) (hB : Fb (agS a e f p n)) : agR a e f p n = agR b e f p n ∧ R (agS a e f p n) (agS b e f p n) := by
  have eF := Fo_eq H.1 e f
  constructor
  · unfold agR
    rw [eF]
  · unfold agS at hB ⊢
    rw [← eF]
    cases hx : Fo a e f with
    | none => exact H
    | some xs =>
      rw [hx] at hB
      dsimp only at hB ⊢
      split at hB
      · rename_i h
        rw [if_pos h, if_pos h]
        exact H.fo e f rfl hB
      · rename_i h
        rw [if_neg h, if_neg h]
        exact H
theorem tr_ok {a b : Ab} (H : R a b) (e f n : Int32) (hB : Fb (trS a e f n)) : trR a e f n = trR b e f n ∧ R (trS a e f n) (trS b e f n) := by
  have eF := Fo_eq H.1 e f
  constructor
  · unfold trR
    rw [eF]
  · unfold trS at hB ⊢
    rw [← eF]
    cases hx : Fo a e f with
    | none => exact H
    | some xs =>
      rw [hx] at hB
      dsimp only at hB ⊢
      split at hB
      · rename_i h
        rw [if_pos h, if_pos h]
        exact H.fo e f rfl hB
      · rename_i h
        rw [if_neg h, if_neg h]
        exact H
theorem dr_ok {a b : Ab} (H : R a b) (e f : Int32) (hB : Fb (drS a e f)) : drR a e f = drR b e f ∧ R (drS a e f) (drS b e f) := by
  have eF := Fo_eq H.1 e f
  constructor
  · unfold drR
    rw [eF]
  · unfold drS at hB ⊢
    rw [← eF]
    cases hx : Fo a e f with
    | none => exact H
    | some xs =>
      rw [hx] at hB
      exact H.fo e f rfl hB
theorem sa_ok {a b : Ab} (H : R a b) (e f : Int32) (hB : Fb (saS a e f)) : saR a e f = saR b e f ∧ R (saS a e f) (saS b e f) := by
  have eF := Fo_eq H.1 (1 - e) f
  constructor
  · unfold saR
    rw [eF]
  · unfold saS at hB ⊢
    split at hB
    · rename_i h
      rw [if_pos h, if_pos h]
      exact H.fo e f eF hB
    · rename_i h
      rw [if_neg h, if_neg h]
      exact H
theorem cu_ok {a b : Ab} (H : R a b) : cuR a = cuR b ∧ R (cuS a) (cuS b) := by
  have e0 : a.1 0 = b.1 0 := H.1.i 0 rfl
  have e4 : a.1 4 = b.1 4 := H.1.i 4 rfl
  constructor
  · unfold cuR
    rw [e0, e4]
  · unfold cuS
    rw [← e0]
    by_cases h0 : a.1 0 = 1
    · rw [if_pos h0, if_pos h0]
      obtain ⟨D, l1, bd, T, hs, h20, h8, hr⟩ := H
      have e8 : a.1 8 = b.1 8 := h8.2 (by rw [h0]; decide)
      unfold stopA
      refine ⟨(D.sI 0 rfl).sN 1 rfl, by rw [aN_at, aN_at], ⟨bd.f, by rw [aN_at]; exact Nat.zero_le _, bd.s0, bd.s1⟩, T, hs, h20, ⟨fun z => absurd (show (3 : Int32) = 0 from z) (by decide), fun _ => e8⟩, fun z => absurd (show (3 : Int32) = 1 from z) (by decide)⟩
    · rw [if_neg h0, if_neg h0]
      exact H
theorem be_dt {a b : Ab} (D : Dt a b) (s B K r : Int32) : Dt (beginA a s B K r) (mBegin b s B K r) := by
  refine ⟨fun k hk => ?_, D.l, fun k hk => ?_, ?_⟩
  · have hlt : k < 27 := by
      simp only [shd, Bool.and_eq_true, decide_eq_true_eq] at hk
      exact hk.2
    rcases (show k = 0 ∨ k = 1 ∨ k = 2 ∨ k = 3 ∨ k = 4 ∨ k = 5 ∨ k = 6 ∨ k = 7 ∨ k = 8 ∨ k = 9 ∨ k = 10 ∨ k = 11 ∨ k = 12 ∨ k = 13 ∨ k = 14 ∨ k = 15 ∨ k = 16 ∨ k = 17 ∨ k = 18 ∨ k = 19 ∨ k = 20 ∨ k = 21 ∨ k = 22 ∨ k = 23 ∨ k = 24 ∨ k = 25 ∨ k = 26 by omega) with rfl | rfl | rfl | rfl | rfl | rfl | rfl | rfl | rfl | rfl | rfl | rfl | rfl | rfl | rfl | rfl | rfl | rfl | rfl | rfl | rfl | rfl | rfl | rfl | rfl | rfl | rfl
    · rfl
    · rfl
    · rfl
    · exact absurd hk (by decide)
    · rfl
    · rfl
    · rfl
    · rfl
    · exact absurd hk (by decide)
    · exact absurd hk (by decide)
    · exact absurd hk (by decide)
    · exact absurd hk (by decide)
    · exact absurd hk (by decide)
    · exact D.i 13 rfl
    · rfl
    · rfl
    · rfl
    · rfl
    · rfl
    · exact absurd hk (by decide)
    · exact D.i 20 rfl
    · exact D.i 21 rfl
    · rfl
    · rfl
    · rfl
    · rfl
    · rfl
  · by_cases e0 : k = 0
    · subst e0; rfl
    · have e1 : k ≠ 1 := fun e => by rw [e] at hk; exact absurd hk (by decide)
      show (va_up (va_up a.2.2.1 0 [1]) 1 []) k = (va_up (va_up b.2.2.1 0 [1]) 1 []) k
      unfold va_up
      rw [if_neg e1, if_neg e0, if_neg e1, if_neg e0]
      exact D.n k hk
  · show (aB (aB a 0 (clrB (a.2.2.2.2.1 0) 8)) 1 (clrB (a.2.2.2.2.1 1) 8)).2.2.2 = (aB (aB b 0 (clrB (b.2.2.2.2.1 0) 8)) 1 (clrB (b.2.2.2.2.1 1) 8)).2.2.2
    unfold aB
    rw [D.r]
theorem beg_ok {a b : Ab} (H : R a b) {s B K r : Int32} (hok : beOk s B K r) : R (beginA a s B K r) (mBegin b s B K r) := by
  obtain ⟨D, l1, bd, T, hs, h20, h8, hr⟩ := H
  obtain ⟨hs1, ⟨hB1, hB2⟩, ⟨hK1, hK2⟩, hr1, hr2⟩ := hok
  have rb : RB (beginA a s B K r) := by
    obtain ⟨B', hB', eB⟩ := nI_of (x := B) (by rw [i_lt, i_0]; omega)
    obtain ⟨K', hK', eK⟩ := nI_of (x := K) (by rw [i_lt, i_0]; omega)
    have tB := nI_toInt hB'
    have tK := nI_toInt hK'
    rw [eB, tB] at hB1 hB2
    rw [eK, tK] at hK1 hK2
    exact ⟨B', K', eB, by omega, by omega, eK, by omega⟩
  refine ⟨be_dt D s B K r, rfl, ⟨bd.f, Nat.zero_le _, bd.s0, bd.s1⟩, T, hs1, h20, ⟨fun z => absurd (show (1 : Int32) = 0 from z) (by decide), fun _ => rfl⟩, fun _ => ⟨⟨fun _ => rfl, fun z => absurd rfl z⟩, rb, fun _ => ⟨Cm.tree (Or.inl rfl) rfl rfl rfl ⟨?_, ?_⟩, fun _ => Or.inl (show 0 < [1].length by decide)⟩, fun z => absurd rfl z⟩⟩
  · intro y hy
    have hy' : y ∈ [1] := hy
    rw [List.mem_singleton] at hy'
    omega
  · show ws [1] + 0 ≤ 15
    decide
theorem be_ok {a b : Ab} (H : R a b) (s B K r : Int32) : beR a s B K r = beR b s B K r ∧ R (beS a s B K r) (mBe b s B K r) := by
  have e0 : a.1 0 = b.1 0 := H.1.i 0 rfl
  constructor
  · unfold beR
    rw [e0]
  · unfold beS mBe
    rw [← e0]
    by_cases h : beOk s B K r ∧ ¬ a.1 0 = 1
    · rw [if_pos h, if_pos h]
      exact beg_ok H h.1
    · rw [if_neg h, if_neg h]
      exact H
theorem tell_ok {a b : Ab} (H : R a b) (w : Int32) : tellA a w = if w = 14 ∧ b.1 0 = 0 then -2 else tellA b w := by
  obtain ⟨D, l1, bd, T, hs, h20, h8, hr⟩ := H
  have e0 : a.1 0 = b.1 0 := D.i 0 rfl
  by_cases hw : 0 ≤ w.toInt ∧ w.toInt ≤ 15
  · obtain ⟨j, hj, ej⟩ := tell_in hw
    by_cases h14 : j = 14
    · have ew : w = 14 := by rw [ej, h14]; decide
      by_cases h0 : b.1 0 = 0
      · rw [if_pos ⟨ew, h0⟩, tellA, if_pos hw, ew]
        exact h8.1 (by rw [e0]; exact h0)
      · rw [if_neg (fun z => h0 z.2), tellA, if_pos hw, tellA, if_pos hw, ew]
        exact h8.2 (by rw [e0]; exact h0)
    · have nw : ¬ (w = 14 ∧ b.1 0 = 0) := fun z => by
        have z1 : nI j = nI 14 := by rw [← ej, z.1]; decide
        exact h14 ((nI_eq (by omega) (by omega)).mp z1)
      rw [if_neg nw, tellA, if_pos hw, tellA, if_pos hw, ej, nI_clamp (by omega)]
      rcases (show j = 0 ∨ j = 1 ∨ j = 2 ∨ j = 3 ∨ j = 4 ∨ j = 5 ∨ j = 6 ∨ j = 7 ∨ j = 8 ∨ j = 9 ∨ j = 10 ∨ j = 11 ∨ j = 12 ∨ j = 13 ∨ j = 15 by omega) with rfl | rfl | rfl | rfl | rfl | rfl | rfl | rfl | rfl | rfl | rfl | rfl | rfl | rfl | rfl
      · exact D.i 0 rfl
      · exact D.i 4 rfl
      · exact D.i 5 rfl
      · exact D.i 6 rfl
      · show nI (tcount (a.2.2.2.2.1 0) 8) = nI (tcount (b.2.2.2.2.1 0) 8)
        rw [D.fl]
      · exact D.i 22 rfl
      · exact D.i 23 rfl
      · exact D.i 24 rfl
      · exact D.i 25 rfl
      · exact D.i 26 rfl
      · exact D.i 14 rfl
      · exact D.i 15 rfl
      · exact D.i 7 rfl
      · show nI (a.2.2.1 1).length = nI (b.2.2.1 1).length
        rw [l1]
      · show nI (a.2.2.1 0).length = nI (b.2.2.1 0).length
        rw [D.n 0 rfl]
  · have nw : ¬ (w = 14 ∧ b.1 0 = 0) := fun z => hw (by rw [z.1]; decide)
    rw [if_neg nw, tellA, if_neg hw, tellA, if_neg hw]
theorem se_ok {a b : Ab} (H : R a b) (e : Int32) : seR a e = seR b e := by
  unfold seR
  rw [H.1.l 1 (by decide) (by decide), H.1.l 2 (by decide) (by decide)]
theorem at_ok {a b : Ab} (H : R a b) (e f i : Int32) : atR a e f i = atR b e f i := by
  unfold atR
  rw [Fo_eq H.1]
theorem sz_ok {a b : Ab} (H : R a b) (e f : Int32) : szR a e f = szR b e f := by
  unfold szR
  rw [Fo_eq H.1]
theorem nd_ok {a b : Ab} (H : R a b) (e n : Int32) : ndR a e n = ndR b e n := by
  unfold ndR
  rw [H.1.r]
theorem wk_ok {a b : Ab} (H : R a b) (e f p n : Int32) : wkR a e f p n = wkR b e f p n := by
  unfold wkR
  rw [Fo_eq H.1]
theorem gI_ok {a b : Ab} (H : R a b) (i : Int32) : gI (a.2.2.1 1) i = gI (b.2.2.1 1) i := by rw [H.2.1]
theorem sum_ok {a b : Ab} (H : R a b) (i w : Int32) : sumA (a.2.2.2.2.2 1) i w = sumA (b.2.2.2.2.2 1) i w := by rw [H.1.sm]

