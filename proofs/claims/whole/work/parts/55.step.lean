/-! a STEP keeps class and model together -/
def Rn (a b : Ab) : Prop := RB a ∧ (a.1 2 = 0 → Cm a b ∧ (b.1 12 = 0 → wants a)) ∧ (¬ a.1 2 = 0 → Fl a b ∧ Fy a b)
def Sil (a b : Ab) : Prop := (a.1 2 = 0 → a.1 3 = 0) ∧ (¬ a.1 2 = 0 → a.1 3 = b.1 3 ∧ ∃ s, a.1 3 = nI s ∧ s ≤ 2)
def R (a b : Ab) : Prop := Dt a b ∧ a.2.2.1 1 = b.2.2.1 1 ∧ Bd a ∧ Tl a ∧ eOk (a.1 1) ∧ (∃ k, a.1 20 = nI k ∧ k ≤ 8) ∧ ((a.1 0 = 0 → a.1 8 = -2) ∧ (¬ a.1 0 = 0 → a.1 8 = b.1 8)) ∧ (a.1 0 = 1 → Sil a b ∧ Rn a b)
theorem RB.of {a a' : Ab} (h : RB a) (h16 : a'.1 16 = a.1 16) (h17 : a'.1 17 = a.1 17) : RB a' := by
  unfold RB at h ⊢
  rw [h16, h17]
  exact h
theorem Dt.lift {a b : Ab} (D : Dt a b) : Dt (aI a 4 (a.1 4 + 1)) (aI b 4 (b.1 4 + 1)) := D.sI 4 (by rw [D.i 4 rfl])
theorem Dt.over {a b : Ab} (D : Dt a b) : Dt (overA a) (overA b) := by
  unfold overA
  exact ((D.sI 0 (x := 2) rfl).sF (by rw [D.tF, D.fl]) D.tg).sN 1 rfl
theorem wants_iff (a : Ab) : wants a ↔ (0 < (a.2.2.1 0).length ∨ ¬ ltd (a.2.2.2.2.1 0) = -2) := Iff.rfl
/-- the end of a step in which the message came -/
theorem fin_ok {a b : Ab} (D : Dt a b) (C : Cm a b) (hk : ¬ a.1 9 = -2) (l1 : a.2.2.1 1 = b.2.2.1 1) (bd : Bd a) : Dt (finA a) (mFin b) ∧ (finA a).2.2.1 1 = (mFin b).2.2.1 1 ∧ Bd (finA a) ∧ (((finA a) = a ∧ mFin b = b ∧ (b.1 12 = 0 → wants a)) ∨ (finA a = overA a ∧ mFin b = overA b)) := by
  have key : (a.1 9 = 1 ∨ a.1 9 = 3 ∨ a.1 9 = 7) ↔ b.1 12 = 0 := by
    rcases C with ⟨hk', d, _⟩ | ⟨x, hk', d, _⟩ | ⟨f, B, K, p, fp, bf, hk', d, _⟩ | ⟨f, fp, bf, hk', d, _⟩ | ⟨f, fp, hk', d, _⟩
    · exact ⟨fun _ => d, fun _ => hk'.elim (fun z => absurd z hk) Or.inl⟩
    · rw [hk', d]; decide
    · rw [d]; rcases hk' with q | q | q <;> rw [q] <;> decide
    · rw [hk', d]; decide
    · exact ⟨fun _ => d, fun _ => Or.inr hk'⟩
  have e0 : a.2.2.1 0 = b.2.2.1 0 := D.n 0 rfl
  have key2 : ((a.1 9 = 1 ∨ a.1 9 = 3 ∨ a.1 9 = 7) ∧ ¬ (0 < (a.2.2.1 0).length ∨ ¬ ltd (a.2.2.2.2.1 0) = -2)) ↔ (b.1 12 = 0 ∧ (b.2.2.1 0).length = 0 ∧ ltd (b.2.2.2.2.1 0) = -2) := by
    rw [key, ← e0, ← D.fl]
    constructor
    · rintro ⟨h1, h2⟩
      exact ⟨h1, by omega, Decidable.byContradiction fun z => h2 (Or.inr z)⟩
    · rintro ⟨h1, h2, h3⟩
      exact ⟨h1, fun z => z.elim (fun y => by omega) (fun y => y h3)⟩
  by_cases h : (a.1 9 = 1 ∨ a.1 9 = 3 ∨ a.1 9 = 7) ∧ ¬ (0 < (a.2.2.1 0).length ∨ ¬ ltd (a.2.2.2.2.1 0) = -2)
  · have ea : finA a = overA a := if_pos h
    have eb : mFin b = overA b := if_pos (key2.mp h)
    rw [ea, eb]
    refine ⟨D.over, ?_, ⟨fun e he g hg => ?_, ?_, bd.s0, bd.s1⟩, Or.inr ⟨rfl, rfl⟩⟩
    · show (aN _ 1 []).2.2.1 1 = (aN _ 1 []).2.2.1 1
      rw [aN_at, aN_at]
    · show ((va_up a.2.2.2.1 (tg a) (dropF (a.2.2.2.2.1 1) (tF a) 8) e g).getD []).length ≤ 500
      by_cases q : e = tg a
      · subst q
        rw [va_eq]
        unfold dropF
        split
        · simp
        · exact bd.f _ he g hg
      · rw [va_ne _ _ q]; exact bd.f e he g hg
    · show ((aN _ 1 []).2.2.1 1).length ≤ 500
      rw [aN_at]; simp
  · have ea : finA a = a := if_neg h
    have eb : mFin b = b := if_neg (fun z => h (key2.mpr z))
    rw [ea, eb]
    refine ⟨D, l1, bd, Or.inl ⟨rfl, rfl, fun z => ?_⟩⟩
    show 0 < (a.2.2.1 0).length ∨ ¬ ltd (a.2.2.2.2.1 0) = -2
    exact Decidable.byContradiction fun y => h ⟨key.mpr z, y⟩
theorem emEnd_ok {a : Ab} (hs : eOk (a.1 1)) : eOk (emEnd a) := by
  unfold emEnd
  rcases hs with q | q <;> rw [q] <;> split
  · exact Or.inr (by decide)
  · exact Or.inl rfl
  · exact Or.inl (by decide)
  · exact Or.inr rfl
theorem fl_kind {a b : Ab} (F : Fl a b) : ¬ a.1 9 = -2 := by
  rcases F with ⟨x, hk, _⟩ | ⟨x, hk, _⟩ | ⟨f, B, K, fp, bf, hk, _⟩ | ⟨f, fp, bf, hk, _⟩ | ⟨f, B, K, p, fp, bf, hk, _⟩ | ⟨f, fp, bf, hk, _⟩ | ⟨f, fp, bf, hk, _⟩
  · rw [hk]; decide
  · rw [hk]; decide
  · rw [hk]; decide
  · rw [hk]; decide
  · rcases hk with q | q <;> rw [q] <;> decide
  · rw [hk]; decide
  · rw [hk]; decide
/-- k stays in its bounds -/
theorem fl_20 {a b : Ab} (F : Fl a b) (h : (a.1 9 = 0 ∨ a.1 9 = 1) → ∃ k, a.1 20 = nI k ∧ k ≤ 8) : ∃ k, a.1 20 = nI k ∧ k ≤ 8 := by
  rcases F with ⟨x, hk, _⟩ | ⟨x, hk, _⟩ | ⟨f, B, K, fp, _⟩ | ⟨f, fp, _⟩ | ⟨f, B, K, p, fp, _⟩ | ⟨f, fp, _⟩ | ⟨f, fp, _⟩
  · exact h (Or.inl hk)
  · exact h (Or.inr hk)
  · exact fp.k
  · exact fp.k
  · exact fp.k
  · exact fp.k
  · exact fp.k
theorem sNext_20 (a : Ab) (p B K : Nat) : (sNextA a p B K).1 20 = a.1 20 := by
  unfold sNextA
  split
  · split <;> rfl
  · split
    · rfl
    · unfold partA
      split
      · show (pLoop _ _ _ _ _ _).1 20 = _
        rw [pLoop_i (by decide) (by decide) (by decide)]
        exact lookS_i _ _ _ _ _ (by decide) (by decide)
      · exact lookS_i _ _ _ _ _ (by decide) (by decide)
theorem mkA_20 {a : Ab} (h : ¬ (mkA a).1 9 = 2) : (mkA a).1 20 = a.1 20 := by
  by_cases h0 : a.1 9 = 0
  · rw [mkA, if_pos h0]; rfl
  · by_cases h2 : a.1 9 = 2 ∨ a.1 9 = 4 ∨ a.1 9 = 5
    · rw [mkA, if_neg h0, if_pos h2]; exact sNext_20 a _ _ _
    · by_cases h6 : a.1 9 = 6
      · rw [mkA, if_neg h0, if_neg h2, if_pos h6]; rfl
      · by_cases hw : 0 < (a.2.2.1 0).length
        · rw [mkA, if_neg h0, if_neg h2, if_neg h6, if_pos hw]; rfl
        · exact absurd (by rw [mkA, if_neg h0, if_neg h2, if_neg h6, if_neg hw]; rfl) h
/-- a step in the silence -/
theorem pause_ok {a b : Ab} (D : Dt a b) (l1 : a.2.2.1 1 = b.2.2.1 1) (bd : Bd a) (T : Tl a) (hs : eOk (a.1 1)) (h20 : ∃ k, a.1 20 = nI k ∧ k ≤ 8) (e8 : a.1 8 = b.1 8) (h0 : a.1 0 = 1) (rb : RB a) (p1 : ¬ a.1 2 = 0) (p2 : 0 < a.1 3) (s3 : a.1 3 = b.1 3) (hS : ∃ s, a.1 3 = nI s ∧ s ≤ 2) (F : Fl a b) (Y : Fy a b) : R (aI (aI a 4 (a.1 4 + 1)) 3 (a.1 3 - 1)) (aI (aI b 4 (b.1 4 + 1)) 3 (b.1 3 - 1)) := by
  obtain ⟨s, hs3, hs2⟩ := hS
  have hsp : 1 ≤ s := by
    rw [hs3] at p2
    rcases Nat.eq_zero_or_pos s with q | q
    · rw [q] at p2; exact absurd p2 (by decide)
    · exact q
  refine ⟨D.lift.sI 3 (by rw [s3]), l1, bd, T, hs, h20, ⟨fun z => by rw [show (aI (aI a 4 (a.1 4 + 1)) 3 (a.1 3 - 1)).1 0 = a.1 0 from rfl, h0] at z; exact absurd z (by decide), fun _ => e8⟩, fun _ => ⟨⟨fun z => absurd z p1, fun _ => ⟨?_, s - 1, ?_, by omega⟩⟩, rb.of rfl rfl, fun z => absurd z p1, fun _ => ⟨F.of (fun k hk => ?_) (fun _ _ => rfl) rfl (fun k hk => ?_), Y⟩⟩⟩
  · show a.1 3 - 1 = b.1 3 - 1
    rw [s3]
  · show a.1 3 - 1 = nI (s - 1)
    rw [hs3, show (1 : Int32) = nI 1 by decide, pk_sub hsp]
  · rw [aI_ne _ _ (by omega), aI_ne _ _ (by omega)]
  · rw [aI_ne _ _ (by omega), aI_ne _ _ (by omega)]
/-- a step whose message is lost; e, f after the sending -/
theorem lost_ok {e f : Ab} (D : Dt e f) (l1 : e.2.2.1 1 = f.2.2.1 1) (bd : Bd e) (T : Tl e) (hs : eOk (e.1 1)) (h20 : ∃ k, e.1 20 = nI k ∧ k ≤ 8) (e8 : e.1 8 = f.1 8) (h0 : e.1 0 = 1) (rb : RB e) (p1 : ¬ e.1 2 = 0) (F : Fl e f) (Y : Fy e f) : R (aI (aI e 6 (e.1 6 + 1)) 3 2) (aI (aI f 6 (f.1 6 + 1)) 3 2) := by
  refine ⟨(D.sI 6 (by rw [D.i 6 rfl])).sI 3 rfl, l1, bd, T, hs, h20, ⟨fun z => ?_, fun _ => e8⟩, fun _ => ⟨⟨fun z => absurd z p1, fun _ => ⟨rfl, 2, by show (2 : Int32) = nI 2; decide, by decide⟩⟩, rb.of rfl rfl, fun z => absurd z p1, fun _ => ⟨F.of (fun k hk => ?_) (fun _ _ => rfl) rfl (fun k hk => ?_), Y⟩⟩⟩
  · have z' : e.1 0 = 0 := z
    rw [h0] at z'; exact absurd z' (by decide)
  · rw [aI_ne _ _ (by omega), aI_ne _ _ (by omega)]
  · rw [aI_ne _ _ (by omega), aI_ne _ _ (by omega)]
/-- a step whose message came; u, v after the taking -/
theorem came_ok {u v : Ab} (D : Dt u v) (C : Cm u v) (k9 : ¬ u.1 9 = -2) (l1 : u.2.2.1 1 = v.2.2.1 1) (bd : Bd u) (T : Tl u) (hs : eOk (u.1 1)) (h20 : ∃ k, u.1 20 = nI k ∧ k ≤ 8) (e8 : u.1 8 = v.1 8) (q0 : u.1 0 = 1) (q2 : u.1 2 = 0) (q3 : u.1 3 = 0) (rb : RB u) : R (finA u) (mFin v) := by
  obtain ⟨f1, f2, f3, f4⟩ := fin_ok D C k9 l1 bd
  rcases f4 with ⟨g1, g2, g3⟩ | ⟨g1, g2⟩
  · rw [g1, g2]
    exact ⟨D, l1, bd, T, hs, h20, ⟨fun z => by rw [q0] at z; exact absurd z (by decide), fun _ => e8⟩, fun _ => ⟨⟨fun _ => q3, fun z => absurd q2 z⟩, rb, fun _ => ⟨C, g3⟩, fun z => absurd q2 z⟩⟩
  · rw [g1, g2] at f1 f2
    rw [g1] at f3
    rw [g1, g2]
    exact ⟨f1, f2, f3, T, hs, h20, ⟨fun z => absurd (show (2 : Int32) = 0 from z) (by decide), fun _ => e8⟩, fun z => absurd (show (2 : Int32) = 1 from z) (by decide)⟩
theorem step_ok {a b : Ab} (H : R a b) (h0 : a.1 0 = 1) : OnePre a ∧ MOnePre b ∧ R (oneA a) (mOne b) := by
  obtain ⟨D, l1, bd, T, hs, h20, h8, hr⟩ := H
  obtain ⟨⟨S1, S2⟩, rb, hC, hF⟩ := hr h0
  have e2 : a.1 2 = b.1 2 := D.i 2 rfl
  have hsb : eOk (b.1 1) := by rw [← D.src]; exact hs
  have e8 : a.1 8 = b.1 8 := h8.2 (by rw [h0]; decide)
  have hTb : ∀ t ∈ b.2.2.1 5, 1 ≤ t ∧ t ≤ 50 := by rw [← D.n 5 rfl]; exact T.1
  have D4 := D.lift
  by_cases hp : ¬ a.1 2 = 0 ∧ 0 < a.1 3
  · obtain ⟨p1, p2⟩ := hp
    obtain ⟨s3, s, hs3, hs2⟩ := S2 p1
    obtain ⟨F, Y⟩ := hF p1
    have ea : oneA a = aI (aI a 4 (a.1 4 + 1)) 3 (a.1 3 - 1) := by rw [oneA, if_pos p2]
    have eb : mOne b = aI (aI b 4 (b.1 4 + 1)) 3 (b.1 3 - 1) := by rw [mOne, if_pos ⟨by rw [← e2]; exact p1, by rw [← s3]; exact p2⟩]
    refine ⟨fun z => absurd p2 z, ⟨hsb, hTb, fun z => absurd ⟨by rw [← e2]; exact p1, by rw [← s3]; exact p2⟩ z⟩, ?_⟩
    rw [ea, eb]
    exact pause_ok D l1 bd T hs h20 e8 h0 rb p1 p2 s3 ⟨s, hs3, hs2⟩ F Y
  · -- a message is sent
    have ha3 : ¬ 0 < a.1 3 := by
      by_cases q : a.1 2 = 0
      · rw [S1 q]; decide
      · exact fun z => hp ⟨q, z⟩
    have hb3 : ¬ (¬ b.1 2 = 0 ∧ 0 < b.1 3) := by
      rintro ⟨q1, q2⟩
      rw [← e2] at q1
      rw [← (S2 q1).1] at q2
      exact ha3 q2
    have h30 : a.1 3 = 0 := by
      by_cases q : a.1 2 = 0
      · exact S1 q
      · obtain ⟨_, s, hs3, hs2⟩ := S2 q
        rw [hs3] at ha3 ⊢
        rcases Nat.eq_zero_or_pos s with z | z
        · rw [z]; decide
        · exact absurd (nI_lt z (by omega)) (by rw [nI_0]; exact ha3)
    have bd4 : Bd (aI a 4 (a.1 4 + 1)) := bd
    have rb4 : RB (aI a 4 (a.1 4 + 1)) := rb.of rfl rfl
    -- what is under way
    obtain ⟨c, d, ec, ed, Dc, Yc, Fc, lc, bc, kc, kd, P1, P2⟩ : ∃ c d, c = (if a.1 2 = 0 then mkA (aI a 4 (a.1 4 + 1)) else aI a 4 (a.1 4 + 1)) ∧ d = (if b.1 2 = 0 then mMk (aI b 4 (b.1 4 + 1)) else aI b 4 (b.1 4 + 1)) ∧ Dt c d ∧ Fy c d ∧ Fl c d ∧ (¬ c.1 9 = 2 → c.2.2.1 1 = d.2.2.1 1) ∧ Bd c ∧ Kp (aI a 4 (a.1 4 + 1)) c ∧ Kq b d ∧ (a.1 2 = 0 → MkPre (aI a 4 (a.1 4 + 1))) ∧ (b.1 2 = 0 → MMkPre (aI b 4 (b.1 4 + 1))) := by
      by_cases q : a.1 2 = 0
      · have qb : b.1 2 = 0 := by rw [← e2]; exact q
        obtain ⟨C, wn⟩ := hC q
        have C4 : Cm (aI a 4 (a.1 4 + 1)) (aI b 4 (b.1 4 + 1)) := C.of (fun k hk => aI_ne _ _ (by omega)) (fun _ _ => rfl) rfl (fun k hk => aI_ne _ _ (by omega))
        obtain ⟨m1, m2, m3, m4, m5, m6, m7, m8, m9⟩ := make_ok D4 l1 C4 wn rb4 h20 bd4 hs
        exact ⟨_, _, by rw [if_pos q], by rw [if_pos qb], m3, m4, m5, m6, m7, m8, m9, fun _ => m1, fun _ => m2⟩
      · have qb : ¬ b.1 2 = 0 := by rw [← e2]; exact q
        obtain ⟨F, Y⟩ := hF q
        exact ⟨_, _, by rw [if_neg q], by rw [if_neg qb], D4, Y, F.of (fun k hk => aI_ne _ _ (by omega)) (fun _ _ => rfl) rfl (fun k hk => aI_ne _ _ (by omega)), fun _ => l1, bd4, Kp.rf, ⟨rfl, rfl⟩, fun z => absurd z q, fun z => absurd z qb⟩
    have eB : oneB a = em5 c := by rw [oneB, ← ec]
    have eM : mOneB b = mEm d := by rw [mOneB, ← ed]
    have kc1 : c.1 1 = a.1 1 := kc.1 1 (by decide)
    have kc0 : c.1 0 = 1 := (kc.1 0 (by decide)).trans h0
    have kc3 : c.1 3 = 0 := (kc.1 3 (by decide)).trans h30
    have Tc : Tl c := by
      unfold Tl
      rw [kc.2.2, kc.2.1]
      exact T
    have De := em_dt Dc Yc Fc Tc
    have Fe := em_fl Fc (b := d)
    have Ye := em_fy Yc
    have le := em_l1 Fc Yc lc
    have Te := em_tl Tc
    have be : Bd (em5 c) := bc.of (em5_r c) (em5_n c (by decide))
    have e8e := em_8 Yc
    have ei : ∀ {k}, k ≠ 2 → k ≠ 5 → k ≠ 7 → k ≠ 8 → (em5 c).1 k = c.1 k := fun h1 h2 h3 h4 => em5_i c h1 h2 h3 h4
    have he1 : eOk ((em5 c).1 1) := by rw [ei (by decide) (by decide) (by decide) (by decide), kc1]; exact hs
    have h20c : ∃ k, c.1 20 = nI k ∧ k ≤ 8 := fl_20 Fc (fun hk => by
      by_cases q : a.1 2 = 0
      · have e : c = mkA (aI a 4 (a.1 4 + 1)) := by rw [ec, if_pos q]
        have n2 : ¬ c.1 9 = 2 := fun z => by rw [z] at hk; exact absurd hk (by decide)
        rw [e] at n2 ⊢
        rw [mkA_20 n2]; exact h20
      · rw [ec, if_neg q]; exact h20)
    have h20e : ∃ k, (em5 c).1 20 = nI k ∧ k ≤ 8 := by rw [ei (by decide) (by decide) (by decide) (by decide)]; exact h20c
    have tk := take_ok De Ye Fe le be h20e
    obtain ⟨t1, t2, t3, t4, t5, t6, t7, t8, t9, t10⟩ := tk
    have d29 : eOk (d.1 29) := by rw [Yc.k29]; exact emEnd_ok (by rw [kc1]; exact hs)
    have hd5 : d.2.2.1 5 = b.2.2.1 5 := by rw [← Dc.n 5 rfl, kc.2.2]; exact D.n 5 rfl
    have hm1 : eOk ((mEm d).1 1) := by rw [← De.src]; exact he1
    have hrb : RB (em5 c) := rb4.of ((ei (by decide) (by decide) (by decide) (by decide)).trans (kc.1 16 (by decide))) ((ei (by decide) (by decide) (by decide) (by decide)).trans (kc.1 17 (by decide)))
    have e0e : (em5 c).1 0 = 1 := (ei (by decide) (by decide) (by decide) (by decide)).trans kc0
    have e3e : (em5 c).1 3 = 0 := (ei (by decide) (by decide) (by decide) (by decide)).trans kc3
    have e2e : (em5 c).1 2 = (mEm d).1 2 := De.i 2 rfl
    refine ⟨fun _ => ⟨P1, fun _ => by rw [eB]; exact t1⟩, ⟨hsb, hTb, fun _ => ⟨P2, by rw [← ed]; exact d29, by rw [← ed]; exact hd5, by rw [eM]; exact hm1, fun _ => by rw [eM]; exact ⟨t2, by rw [← t3.src, t7.1 1 (by decide)]; exact he1⟩⟩⟩, ?_⟩
    rw [oneA, if_neg ha3, mOne, if_neg hb3, eB, eM, ← e2e]
    by_cases hL : (em5 c).1 2 = 0
    · rw [if_pos hL, if_pos hL]
      have k9 : ¬ (tkA (em5 c)).1 9 = -2 := by
        rw [t9]
        exact fl_kind Fe
      have q2 : (tkA (em5 c)).1 2 = 0 := (t7.1 2 (by decide)).trans hL
      have q3 : (tkA (em5 c)).1 3 = 0 := (t7.1 3 (by decide)).trans e3e
      have q0 : (tkA (em5 c)).1 0 = 1 := (t7.1 0 (by decide)).trans e0e
      have q1 : eOk ((tkA (em5 c)).1 1) := by rw [t7.1 1 (by decide)]; exact he1
      have q8 : (tkA (em5 c)).1 8 = (mTk (mEm d)).1 8 := by rw [t7.1 8 (by decide), t8.2]; exact e8e
      have qT : Tl (tkA (em5 c)) := by
        unfold Tl
        rw [t7.2.2, t7.2.1]
        exact Te
      exact came_ok t3 t4 k9 t5 t6 qT q1 t10 q8 q0 q2 q3 (hrb.of (t7.1 16 (by decide)) (t7.1 17 (by decide)))
    · rw [if_neg hL, if_neg hL]
      exact lost_ok De le be Te he1 h20e e8e e0e hrb hL Fe Ye

