/-! the MESSAGE is sent, and comes -/
theorem Bd.of {a a' : Ab} (B : Bd a) (hr : a'.2.2.2 = a.2.2.2) (h1 : a'.2.2.1 1 = a.2.2.1 1) : Bd a' := by
  obtain ⟨b1, b2, b3, b4⟩ := B
  unfold Bd
  rw [hr, h1]
  exact ⟨b1, b2, b3, b4⟩
theorem Fl.kind {a b : Ab} (F : Fl a b) : a.1 9 = 2 → a.2.2.1 1 = [] ∧ ∃ B K, a.2.2.1 3 = [B, K] ∧ b.1 11 = nI K := by
  intro h
  rcases F with ⟨x, hk, _⟩ | ⟨x, hk, _⟩ | ⟨f, B, K, fp, bf, hk, td, sub, bk, hB, hB64, hK, xb, bl⟩ | ⟨f, fp, bf, hk, _⟩ | ⟨f, B, K, p, fp, bf, hk, _⟩ | ⟨f, fp, bf, hk, _⟩ | ⟨f, fp, bf, hk, _⟩
  · rw [h] at hk; exact absurd hk (by decide)
  · rw [h] at hk; exact absurd hk (by decide)
  · exact ⟨bl, B, K, bk, xb⟩
  · rw [h] at hk; exact absurd hk (by decide)
  · rw [h] at hk; exact absurd hk (by decide)
  · rw [h] at hk; exact absurd hk (by decide)
  · rw [h] at hk; exact absurd hk (by decide)
theorem em_dt {a b : Ab} (D : Dt a b) (Y : Fy a b) (F : Fl a b) (T : Tl a) : Dt (em5 a) (mEm b) := by
  have h5 : a.2.2.1 5 = b.2.2.1 5 := D.n 5 rfl
  have e29 : (mEm1 b).1 29 = emEnd a := by unfold mEm1; split <;> exact Y.k29
  have e10 : (mEm1 b).1 10 = a.1 10 := by unfold mEm1; split <;> exact Y.k10
  have e9 : (mEm1 b).1 9 = a.1 9 := by unfold mEm1; split <;> exact Y.k9
  have el : (mEm1 b).2.1 = b.2.1 := by unfold mEm1; split <;> rfl
  have eT : (mEm1 b).2.2.1 5 = b.2.2.1 5 := by unfold mEm1; split <;> rfl
  have hl : (if a.2.1 0 &&& 1 = 0 then (0 : Int32) else 1) = if 1 ∈ b.2.2.1 5 then 1 else 0 := by
    rw [← h5]
    by_cases q : 1 ∈ a.2.2.1 5
    · rw [if_neg (fun z => T.bit.mp z q), if_pos q]
    · rw [if_pos (T.bit.mpr q), if_neg q]
  have D1 : Dt (emK a) (aI (aI (mEm1 b) 5 ((mEm1 b).1 5 + 1)) 8 ((mEm1 b).1 9)) := by
    unfold emK mEm1
    by_cases h2 : a.1 9 = 2
    · obtain ⟨-, B, K, bk, xb⟩ := F.kind h2
      rw [if_pos h2, if_pos (Y.k9.trans h2), bk, xb, show ([B, K].getD 1 0) = K from rfl]
      rw [aI_comm (aI a 5 (a.1 5 + 1)) (a.1 9) (nI K) (show 8 ≠ 7 by decide), aI_comm a (a.1 5 + 1) (nI K) (show 5 ≠ 7 by decide)]
      exact (((D.sI 7 (x := nI K) rfl).nR 1 [] rfl).sI 5 (by rw [D.i 5 rfl]; rfl)).sI 8 Y.k9.symm
    · rw [if_neg h2, if_neg (fun z => h2 (Y.k9.symm.trans z))]
      exact (D.sI 5 (by rw [D.i 5 rfl])).sI 8 Y.k9.symm
  have D2 : Dt (if emEnd a = 0 then aL (emK a) 1 (a.2.1 1 + (a.1 10).toInt64) else aL (emK a) 2 (a.2.1 2 + (a.1 10).toInt64)) (mEm3 (mEm2 (mEm1 b))) := by
    unfold mEm2
    rw [e29, e10, el]
    by_cases h0 : emEnd a = 0
    · rw [if_pos h0, if_pos h0]
      exact D1.sL 1 (by rw [D.l 1 (by decide) (by decide)])
    · rw [if_neg h0, if_neg h0]
      exact D1.sL 2 (by rw [D.l 2 (by decide) (by decide)])
  have e5 : (mEm3 (mEm2 (mEm1 b))).2.2.1 5 = b.2.2.1 5 := by
    rw [← eT]
    show (mEm2 (mEm1 b)).2.2.1 5 = _
    unfold mEm2
    split <;> rfl
  unfold mEm mEm4
  rw [e5, ← hl, ← h5]
  exact ((D2.lL (ushr1 (a.2.1 0))).sN 5 (x := shT (a.2.2.1 5)) rfl).sI 2 rfl
theorem em_8 {a b : Ab} (Y : Fy a b) : (em5 a).1 8 = (mEm b).1 8 := by
  have e9 : (mEm2 (mEm1 b)).1 9 = a.1 9 := by
    have : (mEm2 (mEm1 b)).1 9 = (mEm1 b).1 9 := by unfold mEm2; split <;> rfl
    rw [this]
    unfold mEm1; split <;> exact Y.k9
  have e : (mEm b).1 8 = (mEm2 (mEm1 b)).1 9 := rfl
  rw [e, e9]
  show (if emEnd a = 0 then aL (emK a) 1 (a.2.1 1 + (a.1 10).toInt64) else aL (emK a) 2 (a.2.1 2 + (a.1 10).toInt64)).1 8 = a.1 9
  have q : (emK a).1 8 = a.1 9 := by unfold emK; split <;> rfl
  split <;> exact q
theorem em_l1 {a b : Ab} (F : Fl a b) (Y : Fy a b) (l1 : ¬ a.1 9 = 2 → a.2.2.1 1 = b.2.2.1 1) : (em5 a).2.2.1 1 = (mEm b).2.2.1 1 := by
  rw [em5_n a (by decide)]
  show _ = (mEm2 (mEm1 b)).2.2.1 1
  have : (mEm2 (mEm1 b)).2.2.1 1 = (mEm1 b).2.2.1 1 := by unfold mEm2; split <;> rfl
  rw [this]
  unfold mEm1
  by_cases h2 : a.1 9 = 2
  · rw [if_pos (Y.k9.trans h2)]
    exact (F.kind h2).1
  · rw [if_neg (fun z => h2 (Y.k9.symm.trans z))]
    exact l1 h2
theorem em_fl {a b : Ab} (F : Fl a b) : Fl (em5 a) (mEm b) := by
  refine F.of (fun k hk => em5_i a (by omega) (by omega) (by omega) (by omega)) (fun k hk => em5_n a (by omega)) (by rw [em5_r]) (fun k hk => mEm_i b (by omega) (by omega) (by omega) (by omega))
theorem em_fy {a b : Ab} (Y : Fy a b) : Fy (em5 a) (mEm b) := by
  refine ⟨?_, ?_, ?_⟩
  · rw [em5_i a (by decide) (by decide) (by decide) (by decide), mEm_i b (by decide) (by decide) (by decide) (by decide)]; exact Y.k9
  · rw [em5_i a (by decide) (by decide) (by decide) (by decide), mEm_i b (by decide) (by decide) (by decide) (by decide)]; exact Y.k10
  · rw [mEm_i b (by decide) (by decide) (by decide) (by decide), Y.k29, emEnd, emEnd, em5_i a (by decide) (by decide) (by decide) (by decide), em5_i a (by decide) (by decide) (by decide) (by decide)]
theorem em_tl {a : Ab} (T : Tl a) : Tl (em5 a) := by
  refine T.sh ?_ ?_
  · exact aN_at _ _ _
  · rfl
/-- what comes -/
def TkOk (a b : Ab) : Prop := TkPre a ∧ MTkPre b ∧ Dt (tkA a) (mTk b) ∧ Cm (tkA a) (mTk b) ∧ (tkA a).2.2.1 1 = (mTk b).2.2.1 1 ∧ Bd (tkA a) ∧ Kp a (tkA a) ∧ Kq b (mTk b) ∧ (tkA a).1 9 = a.1 9 ∧ ∃ k, (tkA a).1 20 = nI k ∧ k ≤ 8
theorem tk_ask {a b : Ab} (D : Dt a b) (Y : Fy a b) (l1 : a.2.2.1 1 = b.2.2.1 1) (bd : Bd a) (h20 : ∃ k, a.1 20 = nI k ∧ k ≤ 8) {x : Nat} (hk : a.1 9 = 0) (fa : a.1 19 = -2) (fb : b.1 19 = -2) (x1 : 1 ≤ x) (x2 : x < 16) (xa : a.1 11 = nI x) (xb : b.1 11 = nI x) (w : Wok (a.2.2.1 0) (wg x)) : TkOk a b := by
  have kb : b.1 9 = 0 := Y.k9.trans hk
  have ea : tkA a = a := by rw [tkA, hk]; rfl
  have eb : mTk b = aI b 12 1 := by rw [mTk, if_pos kb]
  refine ⟨Or.inr (Or.inr (Or.inr (Or.inr (Or.inr (Or.inr (Or.inl hk)))))), Or.inl kb, ?_⟩
  rw [ea, eb]
  exact ⟨D.iR 12 1 rfl, Cm.ask x hk rfl fa fb x1 x2 xa xb w, l1, bd, Kp.rf, ⟨rfl, rfl⟩, rfl, h20⟩
theorem tk_node {a b : Ab} (D : Dt a b) (Y : Fy a b) (l1 : a.2.2.1 1 = b.2.2.1 1) (bd : Bd a) (h20 : ∃ k, a.1 20 = nI k ∧ k ≤ 8) {x : Nat} (hk : a.1 9 = 1) (fa : a.1 19 = -2) (fb : b.1 19 = -2) (x1 : 1 ≤ x) (x2 : x < 16) (xa : a.1 11 = nI x) (xb : b.1 11 = nI x) (w : Wok (a.2.2.1 0) (wg x)) : TkOk a b := by
  have kb : b.1 9 = 1 := Y.k9.trans hk
  have ea : tkA a = takeNodeA a x (a.2.1 3) := by rw [tkA, if_pos hk, xN_of xa (by omega)]
  have eb : mTk b = takeNodeA (aI b 12 0) x (b.2.1 3) := by rw [mTk, if_neg (by rw [kb]; decide), if_pos kb, xN_of xb (by omega)]
  have e0 : a.2.2.1 0 = b.2.2.1 0 := D.n 0 rfl
  have wl := ws_len (a.2.2.1 0)
  have wp := wg_pos x
  have w2 := w.2
  have W0 : Wok (a.2.2.1 0) 0 := ⟨w.1, by omega⟩
  refine ⟨Or.inl ⟨hk, x, x1, x2, xa, by omega⟩, Or.inr (Or.inl ⟨kb, x, x1, x2, xb, by rw [← e0]; omega⟩), ?_⟩
  rw [ea, eb]
  have D12 : Dt a (aI b 12 0) := D.iR 12 0 rfl
  unfold takeNodeA
  rw [← D12.tF, D.l 3 (by decide) (by decide)]
  by_cases h1 : nodeF (tF a) x = b.2.1 3
  · rw [if_pos h1, if_pos h1]
    exact ⟨D12, Cm.tree (Or.inr hk) rfl fa fb W0, l1, bd, Kp.rf, ⟨rfl, rfl⟩, rfl, h20⟩
  · rw [if_neg h1, if_neg h1]
    by_cases h2 : x < 8
    · rw [if_pos h2, if_pos h2]
      have kids := wg_kids x1 h2
      refine ⟨D12.sN 0 (by show a.2.2.1 0 ++ _ = b.2.2.1 0 ++ _; rw [e0]), Cm.tree (Or.inr hk) rfl fa fb ⟨fun y hy => ?_, ?_⟩, l1, bd, ⟨fun _ _ => rfl, rfl, rfl⟩, ⟨rfl, rfl⟩, rfl, h20⟩
      · rw [aN_at] at hy
        rcases List.mem_append.mp hy with q | q
        · exact w.1 y q
        · simp at q
          omega
      · rw [aN_at, ws_app]
        have : ws [2 * x + 1, 2 * x] = wg (2 * x + 1) + wg (2 * x) := by simp [ws]
        omega
    · rw [if_neg h2, if_neg h2]
      exact ⟨D12.sB 0 (by show va_up (a.2.2.2.2.1 0) _ _ = va_up (b.2.2.2.2.1 0) _ _; rw [D.fl]), Cm.tree (Or.inr hk) rfl fa fb W0, l1, bd, ⟨fun _ _ => rfl, rfl, rfl⟩, ⟨rfl, rfl⟩, rfl, h20⟩
theorem tk_sums {a b : Ab} (D : Dt a b) (Y : Fy a b) (l1 : a.2.2.1 1 = b.2.2.1 1) (bd : Bd a) (h20 : ∃ k, a.1 20 = nI k ∧ k ≤ 8) {f B K : Nat} (fp : FP a f) (bf : b.1 19 = nI f) (hk : a.1 9 = 2) (td : a.2.2.2.2.1 0 f = true) (sub : a.1 11 = nI f) (bk : a.2.2.1 3 = [B, K]) (hB : a.1 16 = nI B) (hB64 : B ≤ 64) (hK : K ≤ 8) (xb : b.1 11 = nI K) : TkOk a b := by
  have kb : b.1 9 = 2 := Y.k9.trans hk
  have ea : tkA a = sTakeA a := by rw [tkA, if_neg (by rw [hk]; decide), if_pos hk]
  have eb : mTk b = mSumC b := by rw [mTk, if_neg (by rw [kb]; decide), if_neg (by rw [kb]; decide), if_pos kb]
  refine ⟨Or.inr (Or.inl hk), Or.inr (Or.inr (Or.inl kb)), ?_⟩
  rw [ea, eb]
  refine ⟨?_, Cm.src f B K 0 (fp.of rfl rfl rfl rfl rfl) bf (Or.inl hk) rfl sub td ⟨fun _ => hk, fun _ => by show ¬ (1 : Int32) = 0; decide⟩ bk xb hB hB64 hK rfl (by decide), l1, ⟨bd.f, bd.b, bd.s0, bd.s0⟩, ?_, ⟨rfl, rfl⟩, rfl, h20⟩
  · have D1 := ((((D.nL 4 (a.2.2.1 3) rfl).iR 30 (b.1 11) rfl).sS 1 (x := a.2.2.2.2.2 0) (y := b.2.2.2.2.2 0) (by rw [D.sm])).iL 12 (a.1 11) rfl).sI 13 (x := 0) rfl
    exact (D1.iR 27 1 rfl).iR 12 2 rfl
  · exact ((show Kp a (aS (aN a 4 (a.2.2.1 3)) 1 (a.2.2.2.2.2 0)) from ⟨fun _ _ => rfl, rfl, rfl⟩).i 12 _ (kp_no (by decide))).i 13 _ (kp_no (by decide))
theorem tk_ans {a b : Ab} (D : Dt a b) (Y : Fy a b) (l1 : a.2.2.1 1 = b.2.2.1 1) (bd : Bd a) (h20 : ∃ k, a.1 20 = nI k ∧ k ≤ 8) {f : Nat} (fp : FP a f) (bf : b.1 19 = nI f) (hk : a.1 9 = 7) (dn : (¬ b.1 28 = 0 ∨ b.1 21 = 3) ↔ a.2.2.2.2.1 0 f = false) : TkOk a b := by
  have kb : b.1 9 = 7 := Y.k9.trans hk
  have ea : tkA a = a := by rw [tkA, hk]; rfl
  have eb : mTk b = mAnsA b := by rw [mTk, kb]; rfl
  refine ⟨Or.inr (Or.inr (Or.inr (Or.inr (Or.inr (Or.inr (Or.inr hk)))))), Or.inr (Or.inr (Or.inr (Or.inr (Or.inr (Or.inr (Or.inr kb)))))), ?_⟩
  rw [ea, eb]
  refine ⟨(D.iR 12 0 rfl).iR 19 _ rfl, Cm.ans f fp (Or.inr hk) rfl ?_, l1, bd, Kp.rf, ⟨rfl, rfl⟩, rfl, h20⟩
  cases ht : a.2.2.2.2.1 0 f with
  | false => exact Or.inl ⟨rfl, by show (if _ then (-2 : Int32) else _) = -2; rw [if_pos (dn.mpr ht)]⟩
  | true => exact Or.inr ⟨rfl, by show (if _ then (-2 : Int32) else b.1 19) = _; rw [if_neg (fun z => by rw [dn.mp z] at ht; cases ht)]; exact bf⟩
theorem va_self {α : Type} (g : Nat → α) (f : Nat) : va_up g f (g f) = g := by
  funext j
  simp only [va_up]
  split
  · rename_i e; rw [e]
  · rfl
theorem va_eq {α : Type} (g : Nat → α) (f : Nat) (x : α) : va_up g f x f = x := by simp [va_up]
theorem va_ne {α : Type} (g : Nat → α) {f j : Nat} (x : α) (h : j ≠ f) : va_up g f x j = g j := by simp [va_up, h]
theorem FP.clear {a a' : Ab} {f : Nat} (P : FP a f) (h19 : a'.1 19 = a.1 19) (h20 : ∃ K, a'.1 20 = nI K ∧ K ≤ 8) (h21 : ∃ t, a'.1 21 = nI t ∧ t ≤ 3) (hw : a'.2.2.1 0 = a.2.2.1 0) (hT : a'.2.2.2.2.1 0 = va_up (a.2.2.2.2.1 0) f false) : FP a' f := by
  refine ⟨P.lt, h19.trans P.fa, hw.trans P.w, fun g hg => ?_, h20, ?_⟩
  · rw [hT, va_ne _ _ (by omega)]; exact P.lo g hg
  · obtain ⟨t, h1, h2⟩ := h21
    exact ⟨t, h1, h2, fun z => by rw [hT, va_eq] at z; cases z⟩
theorem aB_at (a : Ab) (k : Nat) (x : Nat → Bool) : (aB a k x).2.2.2.2.1 k = x := by simp [aB, va_up]
theorem tk_gone {a b : Ab} (D : Dt a b) (Y : Fy a b) (l1 : a.2.2.1 1 = b.2.2.1 1) (bd : Bd a) (h20 : ∃ k, a.1 20 = nI k ∧ k ≤ 8) {f : Nat} (fp : FP a f) (bf : b.1 19 = nI f) (hk : a.1 9 = 3) : TkOk a b := by
  have lt := fp.lt
  have kb : b.1 9 = 3 := Y.k9.trans hk
  have ea : tkA a = takeGoneA a f := by rw [tkA, if_neg (by rw [hk]; decide), if_neg (by rw [hk]; decide), if_pos hk, xN_of fp.fa (by omega)]
  have eb : mTk b = mGoneA b f := by rw [mTk, if_neg (by rw [kb]; decide), if_neg (by rw [kb]; decide), if_neg (by rw [kb]; decide), if_pos kb, xN_of bf (by omega)]
  refine ⟨Or.inr (Or.inr (Or.inl ⟨hk, f, lt, fp.fa⟩)), Or.inr (Or.inr (Or.inr (Or.inl ⟨kb, f, lt, bf⟩))), ?_⟩
  rw [ea, eb]
  have e18 : a.1 18 = b.1 18 := D.i 18 rfl
  have D0 : Dt (aB a 0 (va_up (a.2.2.2.2.1 0) f false)) (aB b 0 (va_up (b.2.2.2.2.1 0) f false)) := D.sB 0 (by rw [D.fl])
  have fin : ∀ (a1 b1 : Ab), Dt a1 b1 → mGoneA b f = aI (aI b1 19 (-2)) 12 0 → takeGoneA a f = a1 → a1.1 = a.1 → a1.2.1 = a.2.1 → a1.2.2.1 = a.2.2.1 → b1.1 = b.1 → b1.2.2.1 = b.2.2.1 → a1.2.2.2.2.1 0 = va_up (a.2.2.2.2.1 0) f false → Bd a1 → Dt (takeGoneA a f) (mGoneA b f) ∧ Cm (takeGoneA a f) (mGoneA b f) ∧ (takeGoneA a f).2.2.1 1 = (mGoneA b f).2.2.1 1 ∧ Bd (takeGoneA a f) ∧ Kp a (takeGoneA a f) ∧ Kq b (mGoneA b f) ∧ (takeGoneA a f).1 9 = a.1 9 ∧ ∃ k, (takeGoneA a f).1 20 = nI k ∧ k ≤ 8 := by
    intro a1 b1 D1 e1 e2 i1 i2 i3 j1 j3 hT hb
    rw [e1, e2]
    refine ⟨(D1.iR 19 (-2) rfl).iR 12 0 rfl, Cm.ans f (fp.clear (by rw [i1]) (by rw [i1]; exact h20) ?_ (by rw [i3]) hT) (Or.inl (by rw [i1]; exact hk)) rfl (Or.inl ⟨by rw [hT, va_eq], rfl⟩), ?_, hb, ⟨fun k _ => by rw [i1], by rw [i2], by rw [i3]⟩, ⟨?_, ?_⟩, by rw [i1], by rw [i1]; exact h20⟩
    · obtain ⟨t, h1, h2, _⟩ := fp.t
      exact ⟨t, by rw [i1]; exact h1, h2⟩
    · show a1.2.2.1 1 = b1.2.2.1 1
      rw [i3, j3]; exact l1
    · show b1.1 3 = b.1 3
      rw [j1]
    · show b1.1 8 = b.1 8
      rw [j1]
  have n0 : (aB b 0 (va_up (b.2.2.2.2.1 0) f false)).2.2.2.2.1 1 = b.2.2.2.2.1 1 := rfl
  by_cases h1 : a.1 18 = 1
  · have h2 : ¬ b.1 18 = 2 := by rw [← e18, h1]; decide
    refine fin _ _ (D0.sF (k := tg a) (k' := tg b) (x := setF (tF a) f none) (y := setF (tF b) f none) (by rw [D.tF]) D.tg) ?_ (by rw [takeGoneA, if_pos h1]) rfl rfl rfl rfl rfl (aB_at _ _ _) ?_
    · rw [mGoneA, if_pos (e18.symm.trans h1), decide_eq_false h2, Bool.or_false, va_self, ← n0, aB_self]
    · refine ⟨fun e he g hg => ?_, bd.b, bd.s0, bd.s1⟩
      show ((va_up a.2.2.2.1 (tg a) (setF (tF a) f none) e g).getD []).length ≤ 500
      by_cases q : e = tg a
      · subst q
        rw [va_eq]
        unfold setF
        split
        · simp
        · exact bd.f _ he g hg
      · rw [va_ne _ _ q]; exact bd.f e he g hg
  · have h1b : ¬ b.1 18 = 1 := fun z => h1 (e18.trans z)
    by_cases h2 : a.1 18 = 2
    · refine fin _ _ (D0.sB 1 (x := va_up (a.2.2.2.2.1 1) f true) (y := va_up (b.2.2.2.2.1 1) f true) (by rw [D.fl])) ?_ (by rw [takeGoneA, if_neg h1, if_pos h2]) rfl rfl rfl rfl rfl rfl bd
      rw [mGoneA, if_neg h1b, decide_eq_true (e18.symm.trans h2), Bool.or_true, setF_self]
      have e := aF_self (aB (aB b 0 (va_up (b.2.2.2.2.1 0) f false)) 1 (va_up (b.2.2.2.2.1 1) f true)) (tg b)
      rw [show (aB (aB b 0 (va_up (b.2.2.2.2.1 0) f false)) 1 (va_up (b.2.2.2.2.1 1) f true)).2.2.2.1 (tg b) = tF b from rfl] at e
      rw [e]
    · refine fin _ _ D0 ?_ (by rw [takeGoneA, if_neg h1, if_neg h2]) rfl rfl rfl rfl rfl (aB_at _ _ _) bd
      have h2b : ¬ b.1 18 = 2 := fun z => h2 (e18.trans z)
      rw [mGoneA, if_neg h1b, decide_eq_false h2b, Bool.or_false, va_self, ← n0, aB_self, setF_self]
      have e := aF_self (aB b 0 (va_up (b.2.2.2.2.1 0) f false)) (tg b)
      rw [show (aB b 0 (va_up (b.2.2.2.2.1 0) f false)).2.2.2.1 (tg b) = tF b from rfl] at e
      rw [e]
theorem tk_part {a b : Ab} (D : Dt a b) (Y : Fy a b) (l1 : a.2.2.1 1 = b.2.2.1 1) (bd : Bd a) (h20 : ∃ k, a.1 20 = nI k ∧ k ≤ 8) {f B K p : Nat} (fp : FP a f) (bf : b.1 19 = nI f) (hk : a.1 9 = 4 ∨ a.1 9 = 5) (d : b.1 12 = 2) (sf : a.1 12 = nI f) (td : a.2.2.2.2.1 0 f = true) (bg : b.1 27 = 0) (bk : a.2.2.1 4 = [B, K]) (kb : b.1 30 = nI K) (hB : a.1 16 = nI B) (hB64 : B ≤ 64) (hK : K ≤ 8) (hp : a.1 13 = nI p) (hp2 : p ≤ 500) (hj : a.1 9 = 5 → ∃ j, j ≤ 500 ∧ a.1 11 = nI j ∧ b.1 11 = nI j) : TkOk a b := by
  have lt := fp.lt
  have hBb : b.1 16 = nI B := by rw [← D.i 16 rfl]; exact hB
  have hbg : a.1 9 = 4 ∨ a.1 9 = 5 → (¬ b.1 27 = 0 ↔ a.1 9 = 2) := fun z => ⟨fun y => absurd bg y, fun y => by rw [y] at z; exact absurd z (by decide)⟩
  rcases hk with hk | hk
  · have k9 : b.1 9 = 4 := Y.k9.trans hk
    have ea : tkA a = takeBytesA a := by rw [tkA, if_neg (by rw [hk]; decide), if_neg (by rw [hk]; decide), if_neg (by rw [hk]; decide), if_pos hk]
    have eb : mTk b = takeBytesA b := by rw [mTk, if_neg (by rw [k9]; decide), if_neg (by rw [k9]; decide), if_neg (by rw [k9]; decide), if_neg (by rw [k9]; decide), if_pos k9]
    refine ⟨Or.inr (Or.inr (Or.inr (Or.inl hk))), Or.inr (Or.inr (Or.inr (Or.inr (Or.inl k9)))), ?_⟩
    rw [ea, eb]
    have h2 : a.2.2.1 2 = b.2.2.1 2 := D.n 2 rfl
    refine ⟨(D.sI 26 (by rw [D.i 26 rfl, h2])).sN 1 (by rw [l1, h2]), Cm.src f B K p (fp.of rfl rfl rfl rfl rfl) bf (Or.inr (Or.inl hk)) d sf td (hbg (Or.inl hk)) bk kb hB hB64 hK hp hp2, ?_, ⟨bd.f, ?_, bd.s0, bd.s1⟩, ?_, ⟨rfl, rfl⟩, rfl, h20⟩
    · show (aN _ 1 _).2.2.1 1 = (aN _ 1 _).2.2.1 1
      rw [aN_at, aN_at, l1, h2]
    · show ((aN _ 1 _).2.2.1 1).length ≤ 500
      rw [aN_at, List.length_take]; omega
    · exact ⟨fun k hk => by show (aI a 26 _).1 k = _; rw [aI_ne _ _ (by unfold kp at hk; omega)], rfl, rfl⟩
  · have k9 : b.1 9 = 5 := Y.k9.trans hk
    obtain ⟨j, hj5, ja, jb⟩ := hj hk
    have ea : tkA a = takeBlockA a j B f := by rw [tkA, if_neg (by rw [hk]; decide), if_neg (by rw [hk]; decide), if_neg (by rw [hk]; decide), if_neg (by rw [hk]; decide), if_pos hk, xN_of ja (by omega), xN_of hB (by omega), xN_of fp.fa (by omega)]
    have eb : mTk b = mBlkA b j B f := by rw [mTk, if_neg (by rw [k9]; decide), if_neg (by rw [k9]; decide), if_neg (by rw [k9]; decide), if_neg (by rw [k9]; decide), if_neg (by rw [k9]; decide), if_pos k9, xN_of jb (by omega), xN_of hBb (by omega), xN_of bf (by omega)]
    refine ⟨Or.inr (Or.inr (Or.inr (Or.inr (Or.inl ⟨hk, j, B, f, hj5, ja, hB, hB64, lt, fp.fa⟩)))), Or.inr (Or.inr (Or.inr (Or.inr (Or.inr (Or.inl ⟨k9, j, B, f, hj5, jb, hBb, hB64, lt, bf⟩))))), ?_⟩
    rw [ea, eb]
    have e25 : a.1 25 + 1 = b.1 25 + 1 := by rw [D.i 25 rfl]
    have k25 : ∀ k, kp k → (aI a 25 (a.1 25 + 1)).1 k = a.1 k := fun k hk => aI_ne _ _ (by unfold kp at hk; omega)
    unfold takeBlockA mBlkA
    rw [← D.tF]
    cases hx : tF a f with
    | none =>
      have hl1 : (b.2.2.1 1 ++ List.take B (List.drop (B * j) ((none : Option (List Nat)).getD []))).take 500 = b.2.2.1 1 := by
        rw [show List.take B (List.drop (B * j) ((none : Option (List Nat)).getD [])) = [] by simp]
        exact take_idle (by rw [← l1]; exact bd.b)
      refine ⟨(D.sI 25 e25).nR 1 _ rfl, Cm.src f B K p (fp.of rfl rfl rfl rfl rfl) bf (Or.inr (Or.inr hk)) d sf td (hbg (Or.inr hk)) bk kb hB hB64 hK hp hp2, ?_, bd, ⟨k25, rfl, rfl⟩, ⟨rfl, rfl⟩, rfl, h20⟩
      show a.2.2.1 1 = (aN _ 1 _).2.2.1 1
      rw [aN_at, hl1]; exact l1
    | some own =>
      refine ⟨?_, Cm.src f B K p (fp.of rfl rfl rfl rfl rfl) bf (Or.inr (Or.inr hk)) d sf td (hbg (Or.inr hk)) bk kb hB hB64 hK hp hp2, ?_, ⟨bd.f, ?_, bd.s0, bd.s1⟩, ⟨k25, rfl, rfl⟩, ⟨rfl, rfl⟩, rfl, h20⟩
      · exact ((D.sI 25 e25).nL 1 _ rfl).nR 1 _ rfl
      · show (aN _ 1 _).2.2.1 1 = (aN _ 1 _).2.2.1 1
        rw [aN_at, aN_at, l1, Nat.mul_comm]
        rfl
      · show ((aN _ 1 _).2.2.1 1).length ≤ 500
        rw [aN_at, List.length_take]; omega
theorem kt_ok : ∀ K, K < 9 → kTwice (nI K) = mKT (nI K) ∧ kTwice (nI K) = nI (min 8 (2 * K)) := by decide
theorem tk_fin {a b : Ab} (D : Dt a b) (Y : Fy a b) (l1 : a.2.2.1 1 = b.2.2.1 1) (bd : Bd a) (h20 : ∃ k, a.1 20 = nI k ∧ k ≤ 8) {f : Nat} (fp : FP a f) (bf : b.1 19 = nI f) (hk : a.1 9 = 6) (td : a.2.2.2.2.1 0 f = true) : TkOk a b := by
  have lt := fp.lt
  have kb : b.1 9 = 6 := Y.k9.trans hk
  have ea : tkA a = takeEndA a (a.2.1 3) f := by rw [tkA, if_neg (by rw [hk]; decide), if_neg (by rw [hk]; decide), if_neg (by rw [hk]; decide), if_neg (by rw [hk]; decide), if_neg (by rw [hk]; decide), if_pos hk, xN_of fp.fa (by omega)]
  have eb : mTk b = mEndA b f := by rw [mTk, if_neg (by rw [kb]; decide), if_neg (by rw [kb]; decide), if_neg (by rw [kb]; decide), if_neg (by rw [kb]; decide), if_neg (by rw [kb]; decide), if_neg (by rw [kb]; decide), if_pos kb, xN_of bf (by omega)]
  refine ⟨Or.inr (Or.inr (Or.inr (Or.inr (Or.inr (Or.inl ⟨hk, f, lt, fp.fa⟩))))), Or.inr (Or.inr (Or.inr (Or.inr (Or.inr (Or.inr (Or.inl ⟨kb, f, lt, bf⟩)))))), ?_⟩
  rw [ea, eb]
  obtain ⟨K, hK, hK2⟩ := h20
  obtain ⟨t, ht, ht3, ht2⟩ := fp.t
  have ht2 := ht2 td
  have hKb : b.1 20 = nI K := by rw [← D.i 20 rfl]; exact hK
  have htb : b.1 21 = nI t := by rw [← D.i 21 rfl]; exact ht
  unfold takeEndA mEndA
  rw [← l1, ← D.l 3 (by decide) (by decide)]
  by_cases h1 : dig (a.2.2.1 1) = a.2.1 3
  · rw [if_pos h1, if_pos h1]
    refine ⟨?_, ?_, l1, ?_, ?_, ⟨rfl, rfl⟩, rfl, ⟨K, hK, hK2⟩⟩
    · exact (((((D.iR 12 3 rfl).iR 28 1 rfl).sF (k := tg a) (k' := tg b) (x := setF (tF a) f (some (a.2.2.1 1))) (y := setF (tF b) f (some (a.2.2.1 1))) (by rw [D.tF]) D.tg).sI 22 (by rw [D.i 22 rfl])).sB 0 (by rw [D.fl]))
    · refine Cm.fin f (fp.clear rfl ⟨K, hK, hK2⟩ ⟨t, ht, ht3⟩ rfl (aB_at _ _ _)) bf hk rfl ⟨fun _ => ?_, fun _ => Or.inl (by show ¬ (1 : Int32) = 0; decide)⟩
      rw [aB_at, va_eq]
    · refine ⟨fun e he g hg => ?_, bd.b, bd.s0, bd.s1⟩
      show ((va_up a.2.2.2.1 (tg a) (setF (tF a) f (some (a.2.2.1 1))) e g).getD []).length ≤ 500
      by_cases q : e = tg a
      · subst q
        rw [va_eq]
        unfold setF
        split
        · exact bd.b
        · exact bd.f _ he g hg
      · rw [va_ne _ _ q]; exact bd.f e he g hg
    · exact ⟨fun k hk => by show (aI _ 22 _).1 k = _; rw [aI_ne _ _ (by unfold kp at hk; omega)]; rfl, rfl, rfl⟩
  · rw [if_neg h1, if_neg h1, ht, htb, hK, hKb, nI_1]
    have kt := kt_ok K (by omega)
    rw [← kt.1, kt.2]
    have D1 : Dt (aI (aI (aI a 24 (a.1 24 + 1)) 21 (nI (t + 1))) 20 (nI (min 8 (2 * K)))) (aI (aI (aI (aI (aI b 12 3) 28 0) 24 (b.1 24 + 1)) 21 (nI (t + 1))) 20 (nI (min 8 (2 * K)))) := ((((D.iR 12 3 rfl).iR 28 0 rfl).sI 24 (by rw [D.i 24 rfl])).sI 21 rfl).sI 20 rfl
    have hK8 : ∃ k, nI (min 8 (2 * K)) = nI k ∧ k ≤ 8 := ⟨min 8 (2 * K), rfl, by omega⟩
    have kpa : Kp a (aI (aI (aI a 24 (a.1 24 + 1)) 21 (nI (t + 1))) 20 (nI (min 8 (2 * K)))) := ((Kp.rf.i 24 _ (kp_no (by decide))).i 21 _ (kp_no (by decide))).i 20 _ (kp_no (by decide))
    by_cases h2 : t + 1 < 3
    · have c1 : nI (t + 1) < 3 := by rw [show (3 : Int32) = nI 3 by decide]; exact nI_lt h2 (by decide)
      have c2 : ¬ nI (t + 1) = 3 := fun z => by rw [show (3 : Int32) = nI 3 by decide] at z; have := (nI_eq (b := 3) (by omega) (by decide)).mp z; omega
      rw [if_pos c1, if_neg c2]
      refine ⟨D1, Cm.fin f ⟨lt, fp.fa, fp.w, fp.lo, hK8, t + 1, rfl, by omega, fun _ => by omega⟩ bf hk rfl ⟨fun z => ?_, fun z => ?_⟩, l1, bd, kpa, ⟨rfl, rfl⟩, rfl, hK8⟩
      · exact z.elim (fun y => absurd rfl y) (fun y => absurd y c2)
      · have z' : a.2.2.2.2.1 0 f = false := z
        rw [td] at z'; cases z'
    · have e3 : t + 1 = 3 := by omega
      rw [e3]
      rw [e3] at D1 kpa
      rw [if_neg (by decide), if_pos (by decide)]
      refine ⟨(D1.sI 23 (by rw [D.i 23 rfl])).sB 0 (by rw [D.fl]), Cm.fin f (fp.clear rfl hK8 ⟨3, rfl, by decide⟩ rfl (aB_at _ _ _)) bf hk rfl ⟨fun _ => ?_, fun _ => Or.inr (by show nI 3 = 3; decide)⟩, l1, bd, ?_, ⟨rfl, rfl⟩, rfl, hK8⟩
      · rw [aB_at, va_eq]
      · have k2 := kpa.i 23 (a.1 23 + 1) (kp_no (by decide))
        exact ⟨k2.1, rfl, rfl⟩
theorem take_ok {a b : Ab} (D : Dt a b) (Y : Fy a b) (F : Fl a b) (l1 : a.2.2.1 1 = b.2.2.1 1) (bd : Bd a) (h20 : ∃ k, a.1 20 = nI k ∧ k ≤ 8) : TkOk a b := by
  rcases F with ⟨x, hk, fa, fb, x1, x2, xa, xb, w⟩ | ⟨x, hk, fa, fb, x1, x2, xa, xb, w⟩ | ⟨f, B, K, fp, bf, hk, td, sub, bk, hB, hB64, hK, xb, bl⟩ | ⟨f, fp, bf, hk, td⟩ | ⟨f, B, K, p, fp, bf, hk, d, sf, td, bg, bk, kb, hB, hB64, hK, hp, hp2, hj⟩ | ⟨f, fp, bf, hk, td⟩ | ⟨f, fp, bf, hk, dn⟩
  · exact tk_ask D Y l1 bd h20 hk fa fb x1 x2 xa xb w
  · exact tk_node D Y l1 bd h20 hk fa fb x1 x2 xa xb w
  · exact tk_sums D Y l1 bd h20 fp bf hk td sub bk hB hB64 hK xb
  · exact tk_gone D Y l1 bd h20 fp bf hk
  · exact tk_part D Y l1 bd h20 fp bf hk d sf td bg bk kb hB hB64 hK hp hp2 hj
  · exact tk_fin D Y l1 bd h20 fp bf hk td
  · exact tk_ans D Y l1 bd h20 fp bf hk dn

