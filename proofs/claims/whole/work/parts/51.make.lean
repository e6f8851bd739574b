/-! what is made on both sides goes together -/
abbrev kp (k : Nat) : Prop := k < 9 ∨ k = 16 ∨ k = 17 ∨ k = 18
def Kp (a a' : Ab) : Prop := (∀ k, kp k → a'.1 k = a.1 k) ∧ a'.2.1 0 = a.2.1 0 ∧ a'.2.2.1 5 = a.2.2.1 5
def Kq (b b' : Ab) : Prop := b'.1 3 = b.1 3 ∧ b'.1 8 = b.1 8
def MkOk (a b : Ab) : Prop := MkPre a ∧ MMkPre b ∧ Dt (mkA a) (mMk b) ∧ Fy (mkA a) (mMk b) ∧ Fl (mkA a) (mMk b) ∧ (¬ (mkA a).1 9 = 2 → (mkA a).2.2.1 1 = (mMk b).2.2.1 1) ∧ Bd (mkA a) ∧ Kp a (mkA a) ∧ Kq b (mMk b)
theorem emEnd_s {a : Ab} {κ : Int32} (h : a.1 9 = κ) (hκ : ¬ (κ = 0 ∨ κ = 2 ∨ κ = 7)) : emEnd a = a.1 1 := by rw [emEnd, h, if_neg hκ]
theorem emEnd_t {a : Ab} {κ : Int32} (h : a.1 9 = κ) (hκ : κ = 0 ∨ κ = 2 ∨ κ = 7) (hs : eOk (a.1 1)) : emEnd a = nI (tg a) := by
  rw [emEnd, h, if_pos hκ]
  unfold tg
  rcases hs with q | q <;> rw [q] <;> decide
theorem FP.of {a a' : Ab} {f : Nat} (P : FP a f) (h19 : a'.1 19 = a.1 19) (h20 : a'.1 20 = a.1 20) (h21 : a'.1 21 = a.1 21) (hw : a'.2.2.1 0 = a.2.2.1 0) (hT : a'.2.2.2.2.1 = a.2.2.2.2.1) : FP a' f := by
  obtain ⟨p1, p2, p3, p4, p5, p6⟩ := P
  exact ⟨p1, by rw [h19]; exact p2, by rw [hw]; exact p3, by rw [hT]; exact p4, by rw [h20]; exact p5, by rw [h21, hT]; exact p6⟩
theorem Kp.i {a a' : Ab} (K : Kp a a') (k : Nat) (x : Int32) (h : ¬ kp k) : Kp a (aI a' k x) := ⟨fun j hj => by
  have e : j ≠ k := fun e => h (by rw [← e]; exact hj)
  rw [aI_ne _ _ e]; exact K.1 j hj, K.2⟩
theorem Kp.rf {a : Ab} : Kp a a := ⟨fun _ _ => rfl, rfl, rfl⟩
theorem Kp.tr {a b c : Ab} (h1 : Kp a b) (h2 : Kp b c) : Kp a c := ⟨fun k hk => (h2.1 k hk).trans (h1.1 k hk), h2.2.1.trans h1.2.1, h2.2.2.trans h1.2.2⟩
theorem kp_no {k : Nat} (h : 9 ≤ k ∧ k ≠ 16 ∧ k ≠ 17 ∧ k ≠ 18) : ¬ kp k := by unfold kp; omega
theorem mk_node {a b : Ab} (D : Dt a b) (l1 : a.2.2.1 1 = b.2.2.1 1) (bd : Bd a) {x : Nat} (hk : a.1 9 = 0) (d : b.1 12 = 1) (fa : a.1 19 = -2) (fb : b.1 19 = -2) (x1 : 1 ≤ x) (x2 : x < 16) (xa : a.1 11 = nI x) (xb : b.1 11 = nI x) (w : Wok (a.2.2.1 0) (wg x)) : MkOk a b := by
  have ea : mkA a = sNodeA a x := by rw [mkA, if_pos hk, xN_of xa (by omega)]
  have eb : mMk b = aL (msgA b (b.1 1) 1 10) 3 (nodeF (sF b) x) := by rw [mMk, if_pos d, xN_of xb (by omega)]
  refine ⟨Or.inl ⟨hk, x, x1, x2, xa⟩, Or.inl ⟨d, x, x1, x2, xb⟩, ?_⟩
  rw [ea, eb]
  refine ⟨(((D.iR 29 _ rfl).sI 9 rfl).sI 10 rfl).sL 3 (by rw [D.sFi]), ⟨rfl, rfl, ?_⟩, Fl.node x rfl fa fb x1 x2 xa xb w, fun _ => l1, bd, (Kp.rf.i 9 1 (kp_no (by decide))).i 10 10 (kp_no (by decide)), rfl, rfl⟩
  exact (D.src.symm).trans (emEnd_s (a := sNodeA a x) (κ := 1) rfl (by decide)).symm
theorem mk_fin {a b : Ab} (D : Dt a b) (l1 : a.2.2.1 1 = b.2.2.1 1) (bd : Bd a) (hs : eOk (a.1 1)) {f : Nat} (fp : FP a f) (bf : b.1 19 = nI f) (hk : a.1 9 = 6) (d : b.1 12 = 3) (dn : (¬ b.1 28 = 0 ∨ b.1 21 = 3) ↔ a.2.2.2.2.1 0 f = false) : MkOk a b := by
  have ea : mkA a = aI (aI a 9 7) 10 1 := by rw [mkA, if_neg (by rw [hk]; decide), if_neg (by rw [hk]; decide), if_pos hk]
  have eb : mMk b = msgA b (nI (tg b)) 7 1 := by rw [mMk, if_neg (by rw [d]; decide), if_neg (by rw [d]; decide), if_pos d]
  refine ⟨Or.inr (Or.inr (Or.inl hk)), Or.inr (Or.inr (Or.inl d)), ?_⟩
  rw [ea, eb]
  refine ⟨((D.iR 29 _ rfl).sI 9 rfl).sI 10 rfl, ⟨rfl, rfl, ?_⟩, Fl.ans f (fp.of rfl rfl rfl rfl rfl) bf rfl dn, fun _ => l1, bd, (Kp.rf.i 9 7 (kp_no (by decide))).i 10 1 (kp_no (by decide)), rfl, rfl⟩
  have e := emEnd_t (a := aI (aI a 9 7) 10 1) (κ := 7) rfl (by decide) hs
  rw [e]
  show nI (tg b) = nI (tg a)
  rw [D.tg]
theorem mkPre_tree {a : Ab} {B K : Nat} (hk : a.1 9 = -2 ∨ a.1 9 = 1) (hB : a.1 16 = nI B) (hB0 : 0 < B) (hB2 : B ≤ 64) (hK : a.1 17 = nI K) (hK2 : K ≤ 8) (fa : a.1 19 = -2) (h20 : ∃ k, a.1 20 = nI k ∧ k ≤ 8) : MkPre a := by
  refine Or.inr (Or.inr (Or.inr ⟨hk.elim Or.inl (fun z => Or.inr (Or.inl z)), ?_⟩))
  obtain ⟨k, h1, h2⟩ := h20
  unfold rPick
  split
  · exact ⟨B, k, hB, hB0, hB2, h1, by omega⟩
  · exact ⟨B, K, hB, hB0, hB2, hK, by omega⟩
theorem mk_ask {a b : Ab} (D : Dt a b) (l1 : a.2.2.1 1 = b.2.2.1 1) (bd : Bd a) (rb : RB a) (h20 : ∃ k, a.1 20 = nI k ∧ k ≤ 8) (hs : eOk (a.1 1)) (hk : a.1 9 = -2 ∨ a.1 9 = 1) (d : b.1 12 = 0) (fa : a.1 19 = -2) (fb : b.1 19 = -2) (w : Wok (a.2.2.1 0) 0) (hw : 0 < (a.2.2.1 0).length) : MkOk a b := by
  have e0 : a.2.2.1 0 = b.2.2.1 0 := D.n 0 rfl
  have n0 : ¬ a.1 9 = 0 := by rcases hk with q | q <;> rw [q] <;> decide
  have n2 : ¬ (a.1 9 = 2 ∨ a.1 9 = 4 ∨ a.1 9 = 5) := by rcases hk with q | q <;> rw [q] <;> decide
  have n6 : ¬ a.1 9 = 6 := by rcases hk with q | q <;> rw [q] <;> decide
  have ea : mkA a = rAsk a := by rw [mkA, if_neg n0, if_neg n2, if_neg n6, if_pos hw]
  have eb : mMk b = mAsk b := by rw [mMk, if_neg (by rw [d]; decide), if_neg (by rw [d]; decide), if_neg (by rw [d]; decide), if_pos (by rw [← e0]; exact hw)]
  obtain ⟨B, K, hB, hB0, hB2, hK, hK2⟩ := rb
  have hx := w.1 _ (mem_yes (T := a.2.2.1 0) (k := (a.2.2.1 0).getD ((a.2.2.1 0).length - 1) 0) (j := (a.2.2.1 0).length - 1) (by omega) rfl)
  have wl := ws_last hw
  have w2 := w.2
  refine ⟨?_, Or.inr (Or.inr (Or.inr ⟨d, Or.inl (by rw [← e0]; exact hw)⟩)), ?_⟩
  · exact mkPre_tree hk hB hB0 hB2 hK hK2 fa h20
  · rw [ea, eb]
    have W' : Wok (a.2.2.1 0).dropLast (wg ((a.2.2.1 0).getD ((a.2.2.1 0).length - 1) 0)) := ⟨fun y hy => w.1 y ((List.dropLast_sublist _).subset hy), by omega⟩
    refine ⟨?_, ⟨rfl, rfl, ?_⟩, Fl.ask _ rfl fa fb hx.1 hx.2 rfl (by show nI _ = nI _; rw [e0]) W', fun _ => l1, bd, ?_, rfl, rfl⟩
    · rw [mAsk, ← e0]
      have D1 := ((((D.sN 0 (x := (a.2.2.1 0).dropLast) rfl).iR 11 (nI ((a.2.2.1 0).getD ((a.2.2.1 0).length - 1) 0)) rfl).iR 29 (nI (tg b)) rfl).sI 9 (x := 0) rfl).sI 10 (x := 2) rfl
      exact D1.iL 11 _ rfl
    · have e := emEnd_t (a := rAsk a) (κ := 0) rfl (by decide) hs
      rw [e]
      show nI (tg b) = nI (tg a)
      rw [D.tg]
    · exact (((show Kp a (aN a 0 (a.2.2.1 0).dropLast) from ⟨fun _ _ => rfl, rfl, rfl⟩).i 9 0 (kp_no (by decide))).i 10 2 (kp_no (by decide))).i 11 _ (kp_no (by decide))
theorem aI_comm (a : Ab) {j k : Nat} (x y : Int32) (h : j ≠ k) : aI (aI a j x) k y = aI (aI a k y) j x := by
  simp only [aI]
  congr 1
  funext i
  simp only [va_up]
  by_cases e1 : i = k
  · have : i ≠ j := fun z => h (by rw [← z, e1])
    simp [e1, this]
    intro z
    exact absurd z.symm h
  · simp [e1]
theorem fileL_n {F : FS} {f : Nat} (hf : f < 8) : fileL F (nI f) = (F f).getD [] := by
  unfold fileL
  cases hx : F f with
  | none => rw [exF_none hf hx]; rfl
  | some xs => rw [exF_of hf hx]; simp [hx]
theorem mk_sums {a b a1 b1 : Ab} {f B K : Nat} (ea1 : rPick a = a1) (eb1 : mPick b = b1) (D : Dt a1 b1) (l1 : a.2.2.1 1 = b.2.2.1 1) (bd : Bd a) (hs : eOk (a.1 1)) (hk : a.1 9 = -2 ∨ a.1 9 = 1 ∨ a.1 9 = 3 ∨ a.1 9 = 7) (d : b.1 12 = 0) (hw : a.2.2.1 0 = []) (wb : b.2.2.1 0 = []) (fp : FP a1 f) (td : a1.2.2.2.2.1 0 f = true) (bf : b1.1 19 = nI f) (hB : a.1 16 = nI B) (hB0 : 0 < B) (hB2 : B ≤ 64) (hBb : b.1 16 = nI B) (hK : a1.1 20 = nI K) (hK2 : K ≤ 8) (b8 : Kq b b1) : MkOk a b := by
  have n0 : ¬ a.1 9 = 0 := by rcases hk with q | q | q | q <;> rw [q] <;> decide
  have n2 : ¬ (a.1 9 = 2 ∨ a.1 9 = 4 ∨ a.1 9 = 5) := by rcases hk with q | q | q | q <;> rw [q] <;> decide
  have n6 : ¬ a.1 9 = 6 := by rcases hk with q | q | q | q <;> rw [q] <;> decide
  have w0 : ¬ 0 < (a.2.2.1 0).length := by rw [hw]; decide
  have w0b : ¬ 0 < (b.2.2.1 0).length := by rw [wb]; decide
  have hKb : b1.1 20 = nI K := by rw [← D.i 20 rfl]; exact hK
  have ea : mkA a = rSums a B K := by rw [mkA, if_neg n0, if_neg n2, if_neg n6, if_neg w0, xN_of hB (by omega), ea1, hK, nI_clamp (by omega)]
  have eb : mMk b = mSumT b1 f B K := by rw [mMk, if_neg (by rw [d]; decide), if_neg (by rw [d]; decide), if_neg (by rw [d]; decide), if_neg w0b, eb1, xN_of bf (by have := fp.lt; omega), xN_of hBb (by omega), xN_of hKb (by omega)]
  have q2 : a1.2 = a.2 := by rw [← ea1]; exact rPick_2 a
  have qi : ∀ {k}, k ≠ 19 → k ≠ 20 → k ≠ 21 → a1.1 k = a.1 k := fun h1 h2 h3 => by rw [← ea1]; exact rPick_i a h1 h2 h3
  have htF : tF a = tF a1 := by
    have e1 : a1.1 1 = a.1 1 := qi (by decide) (by decide) (by decide)
    unfold tF tg
    rw [e1, q2]
  have hfl : fileL (tF a) (a1.1 19) = (tF b1 f).getD [] := by rw [fp.fa, fileL_n fp.lt, htF, D.tF]
  have hlen : ((tF b1 f).getD []).length ≤ 500 := by
    rw [← D.tF, ← htF]
    exact bd.f (tg a) (tg_lt a) f fp.lt
  refine ⟨?_, ?_, ?_⟩
  · refine Or.inr (Or.inr (Or.inr ⟨hk, B, K, hB, hB0, hB2, ?_, by omega⟩))
    rw [ea1]; exact hK
  · refine Or.inr (Or.inr (Or.inr ⟨d, Or.inr ⟨by rw [wb]; rfl, f, B, K, fp.lt, by rw [eb1]; exact bf, hBb, hB0, hB2, by rw [eb1]; exact hKb, hK2⟩⟩))
  · rw [ea, eb, rSums, ea1, hfl, mSumT]
    have hbl : (blks B K ((tF b1 f).getD [])).length ≤ 500 := by
      rw [blks_len]
      exact Nat.le_trans (Nat.div_le_self _ _) hlen
    generalize blks B K ((tF b1 f).getD []) = L at hbl
    refine ⟨?_, ⟨rfl, rfl, ?_⟩, Fl.sums f B K (fp.of rfl rfl rfl rfl rfl) bf rfl td fp.fa rfl ((qi (by decide) (by decide) (by decide)).trans hB) hB2 hK2 rfl rfl, fun z => absurd rfl z, ?_, ?_, b8⟩
    · have D1 := ((((((D.nL 1 [] rfl).nL 3 [B, K] rfl).sS 0 (x := L) rfl).iR 11 (nI K) rfl).iR 29 (nI (tg b1)) rfl).sI 9 (x := 2) rfl).sI 10 (x := 6 + (4 + nI K) * nI L.length) rfl
      exact D1.iL 11 _ rfl
    · have hs1 : eOk (a1.1 1) := by rw [qi (by decide) (by decide) (by decide)]; exact hs
      have e := emEnd_t (a := aI (aI (aI (aS (aN (aN a1 1 []) 3 [B, K]) 0 L) 9 2) 10 (6 + (4 + nI K) * nI L.length)) 11 (a1.1 19)) (κ := 2) rfl (by decide) hs1
      rw [e]
      show nI (tg b1) = nI (tg a1)
      rw [D.tg]
    · refine ⟨fun e he g hg => ?_, by show 0 ≤ 500; decide, hbl, ?_⟩
      · show ((a1.2.2.2.1 e g).getD []).length ≤ 500
        rw [q2]; exact bd.f e he g hg
      · show (a1.2.2.2.2.2 1).length ≤ 500
        rw [q2]; exact bd.s1
    · have k1 : Kp a a1 := ⟨fun k hk => qi (by unfold kp at hk; omega) (by unfold kp at hk; omega) (by unfold kp at hk; omega), by rw [q2], by rw [q2]⟩
      have k2 : Kp a1 (aS (aN (aN a1 1 []) 3 [B, K]) 0 L) := ⟨fun _ _ => rfl, rfl, rfl⟩
      exact (((k1.tr k2).i 9 2 (kp_no (by decide))).i 10 _ (kp_no (by decide))).i 11 _ (kp_no (by decide))
theorem mk_pick {a b : Ab} {f : Nat} (D : Dt a b) (hf : f < 8) (hl : ltd (a.2.2.2.2.1 0) = nI f) (ha : ¬ nI f = a.1 19) (hb : b.1 19 = -2) : rPick a = aI (aI (aI a 19 (nI f)) 20 (a.1 17)) 21 0 ∧ mPick b = aI (aI (aI b 19 (nI f)) 21 0) 20 (b.1 17) ∧ Dt (aI (aI (aI a 19 (nI f)) 20 (a.1 17)) 21 0) (aI (aI (aI b 19 (nI f)) 21 0) 20 (b.1 17)) := by
  have hlb : ltd (b.2.2.2.2.1 0) = nI f := by rw [← D.fl]; exact hl
  refine ⟨by rw [rPick, hl, if_neg ha], by rw [mPick, if_pos hb, hlb], ?_⟩
  rw [aI_comm (aI b 19 (nI f)) 0 (b.1 17) (show 21 ≠ 20 by decide)]
  exact ((D.sI 19 rfl).sI 20 (D.i 17 rfl)).sI 21 rfl
theorem mk_new {a b : Ab} (D : Dt a b) (l1 : a.2.2.1 1 = b.2.2.1 1) (bd : Bd a) (rb : RB a) (hs : eOk (a.1 1)) (hk : a.1 9 = -2 ∨ a.1 9 = 1 ∨ a.1 9 = 3 ∨ a.1 9 = 7) (d : b.1 12 = 0) (hw : a.2.2.1 0 = []) (hn : ¬ ltd (a.2.2.2.2.1 0) = -2) (ha : ∀ f, a.2.2.2.2.1 0 f = true → f < 8 → ¬ nI f = a.1 19) (hb : b.1 19 = -2) : MkOk a b := by
  obtain ⟨f, hf, hl, ht, hlo⟩ := ltd_ex hn
  obtain ⟨B, K, hB, hB0, hB2, hK, hK2⟩ := rb
  obtain ⟨e1, e2, D1⟩ := mk_pick D hf hl (ha f ht hf) hb
  refine mk_sums (f := f) (K := K) e1 e2 D1 l1 bd hs hk d hw (by rw [← D.n 0 rfl]; exact hw) ⟨hf, rfl, hw, hlo, ⟨K, hK, hK2⟩, 0, rfl, by decide, fun _ => by decide⟩ ht rfl hB hB0 hB2 (by rw [← D.i 16 rfl]; exact hB) hK hK2 ⟨rfl, rfl⟩
theorem mk_old {a b : Ab} (D : Dt a b) (l1 : a.2.2.1 1 = b.2.2.1 1) (bd : Bd a) (rb : RB a) (hs : eOk (a.1 1)) (hk : a.1 9 = -2 ∨ a.1 9 = 1 ∨ a.1 9 = 3 ∨ a.1 9 = 7) (d : b.1 12 = 0) {f : Nat} (fp : FP a f) (td : a.2.2.2.2.1 0 f = true) (hb : b.1 19 = nI f) : MkOk a b := by
  obtain ⟨B, K0, hB, hB0, hB2, hK0, hK02⟩ := rb
  obtain ⟨K, hK, hK2⟩ := fp.k
  have hl : ltd (a.2.2.2.2.1 0) = nI f := ltd_some fp.lt fp.lo td
  have lt := fp.lt
  exact mk_sums (f := f) (K := K) (a1 := a) (b1 := b) (by rw [rPick, hl, if_pos fp.fa.symm]) (by rw [mPick, hb, if_neg (nI_no2 (by omega))]) D l1 bd hs hk d fp.w (by rw [← D.n 0 rfl]; exact fp.w) fp td hb hB hB0 hB2 (by rw [← D.i 16 rfl]; exact hB) hK hK2 ⟨rfl, rfl⟩

