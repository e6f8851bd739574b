/-! what SOURCE makes of a file goes together -/
theorem Fl_part_of {a b a' b' : Ab} {f B K q : Nat} (fp : FP a f) (h19 : a'.1 19 = a.1 19) (h20 : a'.1 20 = a.1 20) (h21 : a'.1 21 = a.1 21) (hw : a'.2.2.1 0 = a.2.2.1 0) (hT : a'.2.2.2 = a.2.2.2) (h12 : a'.1 12 = a.1 12) (h4 : a'.2.2.1 4 = a.2.2.1 4) (h16 : a'.1 16 = a.1 16) (b19 : b'.1 19 = b.1 19) (b12 : b'.1 12 = b.1 12) (b30 : b'.1 30 = b.1 30) (bf : b.1 19 = nI f) (d : b.1 12 = 2) (sf : a.1 12 = nI f) (td : a.2.2.2.2.1 0 f = true) (bk : a.2.2.1 4 = [B, K]) (kb : b.1 30 = nI K) (hB : a.1 16 = nI B) (hB64 : B ≤ 64) (hK : K ≤ 8) (hk : a'.1 9 = 4 ∨ a'.1 9 = 5) (bg : b'.1 27 = 0) (hp : a'.1 13 = nI q) (hp2 : q ≤ 500) (hj : a'.1 9 = 5 → ∃ j, j ≤ 500 ∧ a'.1 11 = nI j ∧ b'.1 11 = nI j) : Fl a' b' :=
  Fl.part f B K q (fp.of h19 h20 h21 hw (by rw [hT])) (b19.trans bf) hk (b12.trans d) (h12.trans sf) (by rw [hT]; exact td) bg (h4.trans bk) (b30.trans kb) (h16.trans hB) hB64 hK hp hp2 hj
def PtOk (a b a' b' : Ab) : Prop := Dt a' b' ∧ Fy a' b' ∧ Fl a' b' ∧ (¬ a'.1 9 = 2 → a'.2.2.1 1 = b'.2.2.1 1) ∧ Bd a' ∧ Kp a a' ∧ Kq b b'
theorem mk_part {a b : Ab} (D : Dt a b) (l1 : a.2.2.1 1 = b.2.2.1 1) (bd : Bd a) {f B K p : Nat} {xs : List Nat} (fp : FP a f) (bf : b.1 19 = nI f) (d : b.1 12 = 2) (sf : a.1 12 = nI f) (td : a.2.2.2.2.1 0 f = true) (bg : b.1 27 = 0) (bk : a.2.2.1 4 = [B, K]) (kb : b.1 30 = nI K) (hB : a.1 16 = nI B) (hB64 : B ≤ 64) (hK : K ≤ 8) (hp : a.1 13 = nI p) (hx : xs.length ≤ 500) (hlt : p < xs.length) : PtOk a b (partA a xs p B K) (mPartA b xs p B K) := by
  have DL := D.look xs p B K
  unfold partA mPartA
  rw [← D.lookR]
  by_cases hl : lookR a xs p B K = -2
  · rw [if_pos hl, if_pos hl]
    have D0 : Dt (aN (lookS a xs p B K) 2 []) (aN (lookS b xs p B K) 2 []) := DL.sN 2 rfl
    have Dc := Dt.loop (xs := xs) (B := B) (K := K) 16 p D0
    have ai : ∀ {k}, k ≠ 13 → k ≠ 14 → k ≠ 15 → (pLoop xs B K 16 p (aN (lookS a xs p B K) 2 [])).1 k = a.1 k := fun h1 h2 h3 => by
      rw [pLoop_i h1 h2 h3]
      exact lookS_i a xs p B K h2 h3
    have bi : ∀ {k}, k ≠ 13 → k ≠ 14 → k ≠ 15 → (pLoop xs B K 16 p (aN (lookS b xs p B K) 2 [])).1 k = b.1 k := fun h1 h2 h3 => by
      rw [pLoop_i h1 h2 h3]
      exact lookS_i b xs p B K h2 h3
    obtain ⟨al, ar, an⟩ := pLoop_l (xs := xs) (B := B) (K := K) 16 p (aN (lookS a xs p B K) 2 [])
    obtain ⟨-, -, bn⟩ := pLoop_l (xs := xs) (B := B) (K := K) 16 p (aN (lookS b xs p B K) 2 [])
    have al' : (pLoop xs B K 16 p (aN (lookS a xs p B K) 2 [])).2.1 = a.2.1 := al.trans (by show (lookS a xs p B K).2.1 = _; rw [lookS_2])
    have ar' : (pLoop xs B K 16 p (aN (lookS a xs p B K) 2 [])).2.2.2 = a.2.2.2 := ar.trans (by show (lookS a xs p B K).2.2.2 = _; rw [lookS_2])
    have an' : ∀ k, k ≠ 2 → (pLoop xs B K 16 p (aN (lookS a xs p B K) 2 [])).2.2.1 k = a.2.2.1 k := fun k hk => (an k hk).trans (by simp only [aN, va_up, if_neg hk]; rw [lookS_2])
    have bn' : ∀ k, k ≠ 2 → (pLoop xs B K 16 p (aN (lookS b xs p B K) 2 [])).2.2.1 k = b.2.2.1 k := fun k hk => (bn k hk).trans (by simp only [aN, va_up, if_neg hk]; rw [lookS_2])
    obtain ⟨q, hq, hq2⟩ := pLoop_13 (xs := xs) (B := B) (K := K) 16 p (aN (lookS a xs p B K) 2 []) (by show (lookS a xs p B K).1 13 = _; rw [lookS_i a xs p B K (by decide) (by decide)]; exact hp) (by omega)
    generalize pLoop xs B K 16 p (aN (lookS a xs p B K) 2 []) = c at Dc ai al' ar' an' hq
    generalize pLoop xs B K 16 p (aN (lookS b xs p B K) 2 []) = e at Dc bi bn'
    have h2 : c.2.2.1 2 = e.2.2.1 2 := Dc.n 2 rfl
    have z : 2 + nI (c.2.2.1 2).length = 2 + nI (e.2.2.1 2).length := by rw [h2]
    refine ⟨((Dc.iR 29 _ rfl).sI 9 rfl).sI 10 z, ⟨rfl, z.symm, ?_⟩, ?_, fun _ => ?_, ?_, ?_, ?_⟩
    · rw [emEnd_s (a := aI (aI c 9 4) 10 (2 + nI (c.2.2.1 2).length)) (κ := 4) rfl (by decide)]
      show b.1 1 = c.1 1
      rw [ai (by decide) (by decide) (by decide), D.src]
    · exact Fl_part_of (a := a) (b := b) fp (ai (by decide) (by decide) (by decide)) (ai (by decide) (by decide) (by decide)) (ai (by decide) (by decide) (by decide)) (an' 0 (by decide)) ar' (ai (by decide) (by decide) (by decide)) (an' 4 (by decide)) (ai (by decide) (by decide) (by decide)) (bi (by decide) (by decide) (by decide)) (bi (by decide) (by decide) (by decide)) (bi (by decide) (by decide) (by decide)) bf d sf td bk kb hB hB64 hK (Or.inl rfl) ((bi (k := 27) (by decide) (by decide) (by decide)).trans bg) hq (by omega) (fun z => absurd (show (4 : Int32) = 5 from z) (by decide))
    · show c.2.2.1 1 = e.2.2.1 1
      rw [an' 1 (by decide), bn' 1 (by decide)]; exact l1
    · refine ⟨fun x hx g hg => ?_, ?_, ?_, ?_⟩
      · show ((c.2.2.2.1 x g).getD []).length ≤ 500
        rw [ar']; exact bd.f x hx g hg
      · show (c.2.2.1 1).length ≤ 500
        rw [an' 1 (by decide)]; exact bd.b
      · show (c.2.2.2.2.2 0).length ≤ 500
        rw [ar']; exact bd.s0
      · show (c.2.2.2.2.2 1).length ≤ 500
        rw [ar']; exact bd.s1
    · have k1 : Kp a c := ⟨fun k hk => ai (by unfold kp at hk; omega) (by unfold kp at hk; omega) (by unfold kp at hk; omega), by rw [al'], an' 5 (by decide)⟩
      exact (k1.i 9 4 (kp_no (by decide))).i 10 _ (kp_no (by decide))
    · exact ⟨bi (by decide) (by decide) (by decide), bi (by decide) (by decide) (by decide)⟩
  · rw [if_neg hl, if_neg hl]
    obtain ⟨hfit, j, hj, hjr⟩ := look_fit hl
    have hs1 := bd.s1
    have ai : ∀ {k}, k ≠ 14 → k ≠ 15 → (lookS a xs p B K).1 k = a.1 k := fun h2 h3 => lookS_i a xs p B K h2 h3
    have bi : ∀ {k}, k ≠ 14 → k ≠ 15 → (lookS b xs p B K).1 k = b.1 k := fun h2 h3 => lookS_i b xs p B K h2 h3
    have a2 := lookS_2 a xs p B K
    have b2 := lookS_2 b xs p B K
    generalize lookS a xs p B K = c at DL ai a2
    generalize lookS b xs p B K = e at DL bi b2
    rw [hjr, nI_add]
    refine ⟨?_, ⟨rfl, rfl, ?_⟩, ?_, fun _ => ?_, ?_, ?_, ?_⟩
    · have D1 := ((((DL.iR 11 (nI j) rfl).sI 13 (x := nI (p + B)) rfl).iR 29 (b.1 1) rfl).sI 9 (x := 5) rfl).sI 10 (x := 4) rfl
      have D2 := D1.iL 11 (nI j) rfl
      have D3 : Dt (aI (aI (aI (aI c 9 5) 10 4) 11 (nI j)) 13 (nI (p + B))) (msgA (aI (aI e 11 (nI j)) 13 (nI (p + B))) (b.1 1) 5 4) := by
        refine ⟨fun k hk => ?_, D2.l, D2.n, D2.r⟩
        refine Eq.trans ?_ (D2.i k hk)
        simp only [aI, va_up]
        by_cases e13 : k = 13
        · subst e13; rfl
        · simp [e13]
      exact D3
    · rw [emEnd_s (a := aI (aI (aI (aI c 9 5) 10 4) 11 (nI j)) 13 (nI (p + B))) (κ := 5) rfl (by decide)]
      show b.1 1 = c.1 1
      rw [ai (by decide) (by decide), D.src]
    · exact Fl_part_of (a := a) (b := b) (q := p + B) fp (ai (k := 19) (by decide) (by decide)) (ai (k := 20) (by decide) (by decide)) (ai (k := 21) (by decide) (by decide)) (by show c.2.2.1 0 = _; rw [a2]) (by show c.2.2.2 = _; rw [a2]) (ai (k := 12) (by decide) (by decide)) (by show c.2.2.1 4 = _; rw [a2]) (ai (k := 16) (by decide) (by decide)) (bi (k := 19) (by decide) (by decide)) (bi (k := 12) (by decide) (by decide)) (bi (k := 30) (by decide) (by decide)) bf d sf td bk kb hB hB64 hK (Or.inr rfl) ((bi (k := 27) (by decide) (by decide)).trans bg) rfl (by omega) (fun _ => ⟨j, by omega, rfl, rfl⟩)
    · show c.2.2.1 1 = e.2.2.1 1
      rw [a2, b2]; exact l1
    · refine ⟨fun x hx g hg => ?_, ?_, ?_, ?_⟩
      · show ((c.2.2.2.1 x g).getD []).length ≤ 500
        rw [a2]; exact bd.f x hx g hg
      · show (c.2.2.1 1).length ≤ 500
        rw [a2]; exact bd.b
      · show (c.2.2.2.2.2 0).length ≤ 500
        rw [a2]; exact bd.s0
      · show (c.2.2.2.2.2 1).length ≤ 500
        rw [a2]; exact bd.s1
    · have k1 : Kp a c := ⟨fun k hk => ai (by unfold kp at hk; omega) (by unfold kp at hk; omega), by rw [a2], by rw [a2]⟩
      exact (((k1.i 9 5 (kp_no (by decide))).i 10 4 (kp_no (by decide))).i 11 _ (kp_no (by decide))).i 13 _ (kp_no (by decide))
    · exact ⟨bi (k := 3) (by decide) (by decide), bi (k := 8) (by decide) (by decide)⟩
theorem mk_src {a b : Ab} (D : Dt a b) (l1 : a.2.2.1 1 = b.2.2.1 1) (bd : Bd a) (rb : RB a) {f B K p : Nat} (fp : FP a f) (bf : b.1 19 = nI f) (hk : a.1 9 = 2 ∨ a.1 9 = 4 ∨ a.1 9 = 5) (d : b.1 12 = 2) (sf : a.1 12 = nI f) (td : a.2.2.2.2.1 0 f = true) (bg : ¬ b.1 27 = 0 ↔ a.1 9 = 2) (bk : a.2.2.1 4 = [B, K]) (kb : b.1 30 = nI K) (hB : a.1 16 = nI B) (hB64 : B ≤ 64) (hK : K ≤ 8) (hp : a.1 13 = nI p) (hp2 : p ≤ 500) : MkOk a b := by
  have lt := fp.lt
  have n0 : ¬ a.1 9 = 0 := by rcases hk with q | q | q <;> rw [q] <;> decide
  have hpb : b.1 13 = nI p := by rw [← D.i 13 rfl]; exact hp
  have hBb : b.1 16 = nI B := by rw [← D.i 16 rfl]; exact hB
  have ea : mkA a = sNextA a p B K := by rw [mkA, if_neg n0, if_pos hk, xN_of hp (by omega), bk]; rfl
  have eb : mMk b = mFileA b f p B K := by rw [mMk, if_neg (by rw [d]; decide), if_pos d, xN_of bf (by omega), xN_of hpb (by omega), xN_of hBb (by omega), xN_of kb (by omega)]
  refine ⟨Or.inr (Or.inl ⟨hk, p, B, K, bk, hB64, by omega, hp, by omega⟩), Or.inr (Or.inl ⟨d, f, p, B, K, lt, bf, hBb, hB64, kb, hK, hpb, by omega⟩), ?_⟩
  show PtOk a b (mkA a) (mMk b)
  rw [ea, eb]
  have D27 : Dt a (aI b 27 0) := D.iR 27 0 rfl
  cases hx : sF a f with
  | none =>
    have hxb : sF b f = none := by rw [← D.sFi]; exact hx
    have e1 : sNextA a p B K = if a.1 9 = 2 then aI (aI a 9 3) 10 1 else aL (aI (aI a 9 6) 10 11) 3 dgE := by rw [sNextA, sf, exF_none lt hx]
    rw [e1]
    by_cases h2 : a.1 9 = 2
    · rw [if_pos h2, mFileA, if_pos ⟨bg.mpr h2, hxb⟩]
      refine ⟨((D.iR 29 _ rfl).sI 9 rfl).sI 10 rfl, ⟨rfl, rfl, ?_⟩, Fl.gone f (fp.of rfl rfl rfl rfl rfl) bf rfl td, fun _ => l1, bd, (Kp.rf.i 9 3 (kp_no (by decide))).i 10 1 (kp_no (by decide)), rfl, rfl⟩
      exact (D.src.symm).trans (emEnd_s (a := aI (aI a 9 3) 10 1) (κ := 3) rfl (by decide)).symm
    · rw [if_neg h2, mFileA, if_neg (fun z => h2 (bg.mp z.1)), hxb, if_pos (show ((none : Option (List Nat)).getD []).length ≤ p from Nat.zero_le p)]
      refine ⟨?_, ⟨rfl, rfl, ?_⟩, Fl.fin f (fp.of rfl rfl rfl rfl rfl) bf rfl td, fun _ => l1, bd, (Kp.rf.i 9 6 (kp_no (by decide))).i 10 11 (kp_no (by decide)), rfl, rfl⟩
      · exact (((D27.sL 3 (x := dgE) rfl).iR 29 (b.1 1) rfl).sI 9 (x := 6) rfl).sI 10 (x := 11) rfl
      · exact (D.src.symm).trans (emEnd_s (a := aL (aI (aI a 9 6) 10 11) 3 dgE) (κ := 6) rfl (by decide)).symm
  | some xs =>
    have hxb : sF b f = some xs := by rw [← D.sFi]; exact hx
    have hxl : xs.length ≤ 500 := by
      have := bd.f (sr a) (sr_lt a) f lt
      rw [show a.2.2.2.1 (sr a) f = some xs from hx] at this
      exact this
    have e1 : sNextA a p B K = if xs.length ≤ p then aL (aI (aI a 9 6) 10 11) 3 (dig xs) else partA a xs p B K := by
      rw [sNextA, sf, exF_of lt hx]
      show (if ((sF a f).getD []).length ≤ p then _ else _) = _
      rw [hx]
      rfl
    have hno : ¬ (¬ b.1 27 = 0 ∧ sF b f = none) := fun z => by rw [hxb] at z; cases z.2
    have e2 : mFileA b f p B K = if xs.length ≤ p then msgA (aL (aI b 27 0) 3 (dig xs)) (b.1 1) 6 11 else mPartA (aI b 27 0) xs p B K := by rw [mFileA, if_neg hno, hxb]; rfl
    rw [e1, e2]
    by_cases h2 : xs.length ≤ p
    · rw [if_pos h2, if_pos h2]
      refine ⟨?_, ⟨rfl, rfl, ?_⟩, Fl.fin f (fp.of rfl rfl rfl rfl rfl) bf rfl td, fun _ => l1, bd, (Kp.rf.i 9 6 (kp_no (by decide))).i 10 11 (kp_no (by decide)), rfl, rfl⟩
      · exact (((D27.sL 3 (x := dig xs) rfl).iR 29 (b.1 1) rfl).sI 9 (x := 6) rfl).sI 10 (x := 11) rfl
      · exact (D.src.symm).trans (emEnd_s (a := aL (aI (aI a 9 6) 10 11) 3 (dig xs)) (κ := 6) rfl (by decide)).symm
    · rw [if_neg h2, if_neg h2]
      exact mk_part D27 l1 bd fp bf d sf td rfl bk kb hB hB64 hK hp hxl (by omega)
theorem make_ok {a b : Ab} (D : Dt a b) (l1 : a.2.2.1 1 = b.2.2.1 1) (C : Cm a b) (wn : b.1 12 = 0 → wants a) (rb : RB a) (h20 : ∃ k, a.1 20 = nI k ∧ k ≤ 8) (bd : Bd a) (hs : eOk (a.1 1)) : MkOk a b := by
  rcases C with ⟨hk, d, fa, fb, w⟩ | ⟨x, hk, d, fa, fb, x1, x2, xa, xb, w⟩ | ⟨f, B, K, p, fp, bf, hk, d, sf, td, bg, bk, kb, hB, hB64, hK, hp, hp2⟩ | ⟨f, fp, bf, hk, d, dn⟩ | ⟨f, fp, hk, d, bf⟩
  · by_cases hw : 0 < (a.2.2.1 0).length
    · exact mk_ask D l1 bd rb h20 hs hk d fa fb w hw
    · have hw0 : a.2.2.1 0 = [] := List.eq_nil_of_length_eq_zero (by omega)
      have wn' := wn d
      refine mk_new D l1 bd rb hs (hk.elim Or.inl (fun z => Or.inr (Or.inl z))) d hw0 (wn'.elim (fun z => absurd z hw) id) (fun f _ hf => ?_) fb
      rw [fa]
      exact nI_no2 (by omega)
  · exact mk_node D l1 bd hk d fa fb x1 x2 xa xb w
  · exact mk_src D l1 bd rb fp bf hk d sf td bg bk kb hB hB64 hK hp hp2
  · exact mk_fin D l1 bd hs fp bf hk d dn
  · have wn' := wn d
    have hk' : a.1 9 = -2 ∨ a.1 9 = 1 ∨ a.1 9 = 3 ∨ a.1 9 = 7 := Or.inr (Or.inr hk)
    rcases bf with ⟨t1, t2⟩ | ⟨t1, t2⟩
    · refine mk_new D l1 bd rb hs hk' d fp.w (wn'.elim (fun z => by rw [fp.w] at z; exact absurd z (by decide)) id) (fun g tg hg => ?_) t2
      rw [fp.fa]
      have lt := fp.lt
      intro e
      have e2 := (nI_eq (by omega) (by omega)).mp e
      rw [e2, t1] at tg
      cases tg
    · exact mk_old D l1 bd rb hs hk' d fp t1 t2

