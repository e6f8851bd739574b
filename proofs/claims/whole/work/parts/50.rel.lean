/-! how the class's abstract state and the model's go together -/
def shd (k : Nat) : Bool := !(k == 3 || k == 8 || k == 9 || k == 10 || k == 11 || k == 12 || k == 19) && decide (k < 27)
def shn (k : Nat) : Bool := k == 0 || k == 2 || k == 5
def Dt (a b : Ab) : Prop := (∀ k, shd k = true → a.1 k = b.1 k) ∧ (∀ k, 1 ≤ k → k < 4 → a.2.1 k = b.2.1 k) ∧ (∀ k, shn k = true → a.2.2.1 k = b.2.2.1 k) ∧ a.2.2.2 = b.2.2.2
theorem Dt.i {a b : Ab} (D : Dt a b) : ∀ k, shd k = true → a.1 k = b.1 k := D.1
theorem Dt.l {a b : Ab} (D : Dt a b) : ∀ k, 1 ≤ k → k < 4 → a.2.1 k = b.2.1 k := D.2.1
theorem Dt.n {a b : Ab} (D : Dt a b) : ∀ k, shn k = true → a.2.2.1 k = b.2.2.1 k := D.2.2.1
theorem Dt.r {a b : Ab} (D : Dt a b) : a.2.2.2 = b.2.2.2 := D.2.2.2
theorem up_c {α : Type} {f g : Nat → α} {P : Nat → Prop} (h : ∀ k, P k → f k = g k) (j : Nat) (x : α) : ∀ k, P k → va_up f j x k = va_up g j x k := by
  intro k hk
  unfold va_up
  split
  · rfl
  · exact h k hk
theorem Dt.sI {a b : Ab} (D : Dt a b) (k : Nat) {x y : Int32} (e : x = y) : Dt (aI a k x) (aI b k y) := by
  subst e
  exact ⟨up_c D.i k x, D.l, D.n, D.r⟩
theorem Dt.iL {a b : Ab} (D : Dt a b) (k : Nat) (x : Int32) (h : shd k = false) : Dt (aI a k x) b :=
  ⟨fun j hj => by rw [aI_ne _ _ (fun e => by rw [e, h] at hj; cases hj)]; exact D.i j hj, D.l, D.n, D.r⟩
theorem Dt.iR {a b : Ab} (D : Dt a b) (k : Nat) (x : Int32) (h : shd k = false) : Dt a (aI b k x) :=
  ⟨fun j hj => by rw [aI_ne _ _ (fun e => by rw [e, h] at hj; cases hj)]; exact D.i j hj, D.l, D.n, D.r⟩
theorem Dt.sL {a b : Ab} (D : Dt a b) (k : Nat) {x y : Int64} (e : x = y) : Dt (aL a k x) (aL b k y) := by
  subst e
  exact ⟨D.i, fun j h1 h2 => (up_c (P := fun k => 1 ≤ k ∧ k < 4) (fun k q => D.l k q.1 q.2) k x) j ⟨h1, h2⟩, D.n, D.r⟩
theorem Dt.lL {a b : Ab} (D : Dt a b) (x : Int64) : Dt (aL a 0 x) b :=
  ⟨D.i, fun j h1 h2 => by
    have : j ≠ 0 := by omega
    simp only [aL, va_up, if_neg this]
    exact D.l j h1 h2, D.n, D.r⟩
theorem Dt.sN {a b : Ab} (D : Dt a b) (k : Nat) {x y : List Nat} (e : x = y) : Dt (aN a k x) (aN b k y) := by
  subst e
  exact ⟨D.i, D.l, up_c D.n k x, D.r⟩
theorem Dt.nL {a b : Ab} (D : Dt a b) (k : Nat) (x : List Nat) (h : shn k = false) : Dt (aN a k x) b :=
  ⟨D.i, D.l, fun j hj => by
    have : j ≠ k := fun e => by rw [e, h] at hj; cases hj
    simp only [aN, va_up, if_neg this]
    exact D.n j hj, D.r⟩
theorem Dt.nR {a b : Ab} (D : Dt a b) (k : Nat) (x : List Nat) (h : shn k = false) : Dt a (aN b k x) :=
  ⟨D.i, D.l, fun j hj => by
    have : j ≠ k := fun e => by rw [e, h] at hj; cases hj
    simp only [aN, va_up, if_neg this]
    exact D.n j hj, D.r⟩
theorem Dt.sF {a b : Ab} (D : Dt a b) {k k' : Nat} {x y : FS} (e : x = y) (e2 : k = k') : Dt (aF a k x) (aF b k' y) := by
  subst e
  subst e2
  exact ⟨D.i, D.l, D.n, by simp only [aF]; rw [D.r]⟩
theorem Dt.sB {a b : Ab} (D : Dt a b) (k : Nat) {x y : Nat → Bool} (e : x = y) : Dt (aB a k x) (aB b k y) := by
  subst e
  exact ⟨D.i, D.l, D.n, by simp only [aB]; rw [D.r]⟩
theorem Dt.sS {a b : Ab} (D : Dt a b) (k : Nat) {x y : List (Int64 × Int64)} (e : x = y) : Dt (aS a k x) (aS b k y) := by
  subst e
  exact ⟨D.i, D.l, D.n, by simp only [aS]; rw [D.r]⟩
theorem Dt.src {a b : Ab} (D : Dt a b) : a.1 1 = b.1 1 := D.i 1 rfl
theorem Dt.tg {a b : Ab} (D : Dt a b) : tg a = tg b := by unfold _root_.Jvm.Pilot.CRollingSyncLaw_law_r9587_ae0cee.tg; rw [D.src]
theorem Dt.sr {a b : Ab} (D : Dt a b) : sr a = sr b := by unfold _root_.Jvm.Pilot.CRollingSyncLaw_law_r9587_ae0cee.sr; rw [D.src]
theorem Dt.tF {a b : Ab} (D : Dt a b) : tF a = tF b := by unfold _root_.Jvm.Pilot.CRollingSyncLaw_law_r9587_ae0cee.tF; rw [D.tg, D.r]
theorem Dt.sFi {a b : Ab} (D : Dt a b) : _root_.Jvm.Pilot.CRollingSyncLaw_law_r9587_ae0cee.sF a = _root_.Jvm.Pilot.CRollingSyncLaw_law_r9587_ae0cee.sF b := by unfold _root_.Jvm.Pilot.CRollingSyncLaw_law_r9587_ae0cee.sF; rw [D.sr, D.r]
theorem Dt.fl {a b : Ab} (D : Dt a b) : a.2.2.2.2.1 = b.2.2.2.2.1 := by rw [D.r]
theorem Dt.sm {a b : Ab} (D : Dt a b) : a.2.2.2.2.2 = b.2.2.2.2.2 := by rw [D.r]
theorem Dt.lookR {a b : Ab} (D : Dt a b) (xs : List Nat) (p B K : Nat) : lookR a xs p B K = lookR b xs p B K := by
  have e1 : lkM a xs p B = lkM b xs p B := by simp only [lkM, D.sm]
  have e2 : lkF a xs p B K = lkF b xs p B K := by simp only [lkF, D.sm]
  unfold _root_.Jvm.Pilot.CRollingSyncLaw_law_r9587_ae0cee.lookR
  rw [e1, e2]
theorem Dt.look {a b : Ab} (D : Dt a b) (xs : List Nat) (p B K : Nat) : Dt (lookS a xs p B K) (lookS b xs p B K) := by
  have e1 : lkM a xs p B = lkM b xs p B := by simp only [lkM, D.sm]
  have e2 : lkF a xs p B K = lkF b xs p B K := by simp only [lkF, D.sm]
  unfold lookS
  rw [e1, e2]
  split
  · split
    · exact (D.sI 14 (by rw [D.i 14 rfl])).sI 15 (by rw [D.i 15 rfl])
    · exact D.sI 14 (by rw [D.i 14 rfl])
  · exact D
theorem Dt.loop {xs : List Nat} {B K : Nat} : ∀ (n p : Nat) {a b : Ab}, Dt a b → Dt (pLoop xs B K n p a) (pLoop xs B K n p b) := by
  intro n
  induction n with
  | zero => intro p a b D; exact D
  | succ n ih =>
    intro p a b D
    have D1 : Dt (aI (aN a 2 (a.2.2.1 2 ++ [xs.getD p 0])) 13 (nI (p + 1))) (aI (aN b 2 (b.2.2.1 2 ++ [xs.getD p 0])) 13 (nI (p + 1))) := (D.sN 2 (by rw [D.n 2 rfl])).sI 13 rfl
    rw [pLoop, pLoop]
    split
    · split
      · exact D1
      · rw [D1.lookR]
        split
        · exact ih (p + 1) (D1.look xs (p + 1) B K)
        · exact D1.look xs (p + 1) B K
    · exact D
theorem pLoop_l {xs : List Nat} {B K : Nat} : ∀ (n p : Nat) (a : Ab), (pLoop xs B K n p a).2.1 = a.2.1 ∧ (pLoop xs B K n p a).2.2.2 = a.2.2.2 ∧ ∀ k, k ≠ 2 → (pLoop xs B K n p a).2.2.1 k = a.2.2.1 k := by
  intro n
  induction n with
  | zero => intro p a; exact ⟨rfl, rfl, fun _ _ => rfl⟩
  | succ n ih =>
    intro p a
    have base : ∀ k, k ≠ 2 → (aI (aN a 2 (a.2.2.1 2 ++ [xs.getD p 0])) 13 (nI (p + 1))).2.2.1 k = a.2.2.1 k := fun k hk => by simp [aI, aN, va_up, hk]
    rw [pLoop]
    split
    · split
      · exact ⟨rfl, rfl, base⟩
      · split
        · have q := ih (p + 1) (lookS (aI (aN a 2 (a.2.2.1 2 ++ [xs.getD p 0])) 13 (nI (p + 1))) xs (p + 1) B K)
          rw [lookS_2] at q
          exact ⟨q.1, q.2.1, fun k hk => (q.2.2 k hk).trans (base k hk)⟩
        · rw [lookS_2]
          exact ⟨rfl, rfl, base⟩
    · exact ⟨rfl, rfl, fun _ _ => rfl⟩
theorem pLoop_13 {xs : List Nat} {B K : Nat} : ∀ (n p : Nat) (a : Ab), a.1 13 = nI p → p ≤ xs.length → ∃ q, (pLoop xs B K n p a).1 13 = nI q ∧ q ≤ xs.length := by
  intro n
  induction n with
  | zero => intro p a h1 h2; exact ⟨p, h1, h2⟩
  | succ n ih =>
    intro p a h1 h2
    rw [pLoop]
    have e13 : (aI (aN a 2 (a.2.2.1 2 ++ [xs.getD p 0])) 13 (nI (p + 1))).1 13 = nI (p + 1) := aI_at _ _ _
    split
    · rename_i hlt
      split
      · exact ⟨p + 1, e13, hlt⟩
      · split
        · exact ih (p + 1) _ (by rw [lookS_i _ _ _ _ _ (by decide) (by decide)]; exact e13) hlt
        · exact ⟨p + 1, by rw [lookS_i _ _ _ _ _ (by decide) (by decide)]; exact e13, hlt⟩
    · exact ⟨p, h1, h2⟩
theorem look_fit {a : Ab} {xs : List Nat} {p B K : Nat} (h : ¬ lookR a xs p B K = -2) : p + B ≤ xs.length ∧ ∃ j, j < (a.2.2.2.2.2 1).length ∧ lookR a xs p B K = nI j := by
  unfold lookR at h ⊢
  split at h
  · rename_i hm
    rw [if_pos hm]
    have h1 : p + B ≤ xs.length := by
      unfold lkM at hm
      simp only [Bool.and_eq_true, decide_eq_true_eq] at hm
      exact hm.1
    refine ⟨h1, ?_⟩
    unfold lkF findB at h ⊢
    cases hq : (a.2.2.2.2.2 1).findIdx? (fun p_1 => decide (p_1.1 = lkW xs p B ∧ p_1.2 = strongF (dig ((xs.drop p).take B)) K)) with
    | none => rw [hq] at h; exact absurd rfl h
    | some j =>
      have hj := List.findIdx?_eq_some_iff_findIdx_eq.mp hq
      exact ⟨j, hj.1, rfl⟩
  · exact absurd rfl h
/-- weights of the nodes that wait -/
def wg (x : Nat) : Nat := if x < 2 then 15 else if x < 4 then 7 else if x < 8 then 3 else 1
def ws (W : List Nat) : Nat := (W.map wg).sum
theorem wg_pos (x : Nat) : 1 ≤ wg x := by unfold wg; split <;> (try split) <;> (try split) <;> decide
theorem ws_len : ∀ W, W.length ≤ ws W
  | [] => Nat.le_refl 0
  | x :: W => by
    have h1 := ws_len W
    have h2 := wg_pos x
    simp only [ws, List.map_cons, List.sum_cons, List.length_cons] at h1 ⊢
    omega
theorem ws_app (W V : List Nat) : ws (W ++ V) = ws W + ws V := by simp [ws]
theorem ws_last {W : List Nat} (h : 0 < W.length) : ws W.dropLast + wg (W.getD (W.length - 1) 0) = ws W := by
  have hne : W ≠ [] := fun e => by rw [e] at h; exact absurd h (by decide)
  have e := List.dropLast_concat_getLast hne
  have e2 : W.getD (W.length - 1) 0 = W.getLast hne := by
    rw [List.getLast_eq_getElem, List.getD, List.getElem?_eq_getElem (by omega)]
    rfl
  rw [e2]
  conv => rhs; rw [← e]
  rw [ws_app]
  simp [ws]
theorem wg_kids {x : Nat} (h1 : 1 ≤ x) (h2 : x < 8) : wg (2 * x + 1) + wg (2 * x) + 1 = wg x := by
  rcases (show x = 1 ∨ x = 2 ∨ x = 3 ∨ x = 4 ∨ x = 5 ∨ x = 6 ∨ x = 7 by omega) with rfl | rfl | rfl | rfl | rfl | rfl | rfl <;> decide
def Wok (W : List Nat) (n : Nat) : Prop := (∀ y ∈ W, 1 ≤ y ∧ y < 16) ∧ ws W + n ≤ 15
theorem ltd_ex {T : Nat → Bool} (h : ¬ ltd T = -2) : ∃ f, f < 8 ∧ ltd T = nI f ∧ T f = true ∧ ∀ g, g < f → T g = false := by
  unfold ltd at h ⊢
  cases hq : (List.range 8).find? T with
  | none => rw [hq] at h; exact absurd rfl h
  | some f =>
    obtain ⟨h1, h2, h3⟩ := List.find?_range_eq_some.mp hq
    exact ⟨f, List.mem_range.mp h2, rfl, h1, fun g hg => by have := h3 g hg; simpa using this⟩
/-- what a RUN is about one file -/
def FP (a : Ab) (f : Nat) : Prop := (f < 8) ∧ (a.1 19 = nI f) ∧ (a.2.2.1 0 = []) ∧ (∀ g, g < f → a.2.2.2.2.1 0 g = false) ∧ (∃ K, a.1 20 = nI K ∧ K ≤ 8) ∧ (∃ t, a.1 21 = nI t ∧ t ≤ 3 ∧ (a.2.2.2.2.1 0 f = true → t ≤ 2))
theorem FP.lt {a : Ab} {f : Nat} (Z : FP a f) : f < 8 := Z.1
theorem FP.fa {a : Ab} {f : Nat} (Z : FP a f) : a.1 19 = nI f := Z.2.1
theorem FP.w {a : Ab} {f : Nat} (Z : FP a f) : a.2.2.1 0 = [] := Z.2.2.1
theorem FP.lo {a : Ab} {f : Nat} (Z : FP a f) : ∀ g, g < f → a.2.2.2.2.1 0 g = false := Z.2.2.2.1
theorem FP.k {a : Ab} {f : Nat} (Z : FP a f) : ∃ K, a.1 20 = nI K ∧ K ≤ 8 := Z.2.2.2.2.1
theorem FP.t {a : Ab} {f : Nat} (Z : FP a f) : ∃ t, a.1 21 = nI t ∧ t ≤ 3 ∧ (a.2.2.2.2.1 0 f = true → t ≤ 2) := Z.2.2.2.2.2
def Cm (a b : Ab) : Prop := ((a.1 9 = -2 ∨ a.1 9 = 1) ∧ (b.1 12 = 0) ∧ (a.1 19 = -2) ∧ (b.1 19 = -2) ∧ (Wok (a.2.2.1 0) 0)) ∨ (∃ x, (a.1 9 = 0) ∧ (b.1 12 = 1) ∧ (a.1 19 = -2) ∧ (b.1 19 = -2) ∧ (1 ≤ x) ∧ (x < 16) ∧ (a.1 11 = nI x) ∧ (b.1 11 = nI x) ∧ (Wok (a.2.2.1 0) (wg x))) ∨ (∃ f B K p, (FP a f) ∧ (b.1 19 = nI f) ∧ (a.1 9 = 2 ∨ a.1 9 = 4 ∨ a.1 9 = 5) ∧ (b.1 12 = 2) ∧ (a.1 12 = nI f) ∧ (a.2.2.2.2.1 0 f = true) ∧ (¬ b.1 27 = 0 ↔ a.1 9 = 2) ∧ (a.2.2.1 4 = [B, K]) ∧ (b.1 30 = nI K) ∧ (a.1 16 = nI B) ∧ (B ≤ 64) ∧ (K ≤ 8) ∧ (a.1 13 = nI p) ∧ (p ≤ 500)) ∨ (∃ f, (FP a f) ∧ (b.1 19 = nI f) ∧ (a.1 9 = 6) ∧ (b.1 12 = 3) ∧ ((¬ b.1 28 = 0 ∨ b.1 21 = 3) ↔ a.2.2.2.2.1 0 f = false)) ∨ (∃ f, (FP a f) ∧ (a.1 9 = 3 ∨ a.1 9 = 7) ∧ (b.1 12 = 0) ∧ ((a.2.2.2.2.1 0 f = false ∧ b.1 19 = -2) ∨ (a.2.2.2.2.1 0 f = true ∧ b.1 19 = nI f)))
theorem Cm.tree {a b : Ab}  (hk : a.1 9 = -2 ∨ a.1 9 = 1) (d : b.1 12 = 0) (fa : a.1 19 = -2) (fb : b.1 19 = -2) (w : Wok (a.2.2.1 0) 0) : Cm a b := Or.inl ⟨hk, d, fa, fb, w⟩
theorem Cm.ask {a b : Ab} (x : Nat) (hk : a.1 9 = 0) (d : b.1 12 = 1) (fa : a.1 19 = -2) (fb : b.1 19 = -2) (x1 : 1 ≤ x) (x2 : x < 16) (xa : a.1 11 = nI x) (xb : b.1 11 = nI x) (w : Wok (a.2.2.1 0) (wg x)) : Cm a b := Or.inr (Or.inl ⟨x, hk, d, fa, fb, x1, x2, xa, xb, w⟩)
theorem Cm.src {a b : Ab} (f : Nat) (B : Nat) (K : Nat) (p : Nat) (fp : FP a f) (bf : b.1 19 = nI f) (hk : a.1 9 = 2 ∨ a.1 9 = 4 ∨ a.1 9 = 5) (d : b.1 12 = 2) (sf : a.1 12 = nI f) (td : a.2.2.2.2.1 0 f = true) (bg : ¬ b.1 27 = 0 ↔ a.1 9 = 2) (bk : a.2.2.1 4 = [B, K]) (kb : b.1 30 = nI K) (hB : a.1 16 = nI B) (hB64 : B ≤ 64) (hK : K ≤ 8) (hp : a.1 13 = nI p) (hp2 : p ≤ 500) : Cm a b := Or.inr (Or.inr (Or.inl ⟨f, B, K, p, fp, bf, hk, d, sf, td, bg, bk, kb, hB, hB64, hK, hp, hp2⟩))
theorem Cm.fin {a b : Ab} (f : Nat) (fp : FP a f) (bf : b.1 19 = nI f) (hk : a.1 9 = 6) (d : b.1 12 = 3) (dn : (¬ b.1 28 = 0 ∨ b.1 21 = 3) ↔ a.2.2.2.2.1 0 f = false) : Cm a b := Or.inr (Or.inr (Or.inr (Or.inl ⟨f, fp, bf, hk, d, dn⟩)))
theorem Cm.ans {a b : Ab} (f : Nat) (fp : FP a f) (hk : a.1 9 = 3 ∨ a.1 9 = 7) (d : b.1 12 = 0) (bf : (a.2.2.2.2.1 0 f = false ∧ b.1 19 = -2) ∨ (a.2.2.2.2.1 0 f = true ∧ b.1 19 = nI f)) : Cm a b := Or.inr (Or.inr (Or.inr (Or.inr (⟨f, fp, hk, d, bf⟩))))
/-- a MESSAGE is under way -/
def Fy (a : Ab) (b : Ab) : Prop := (b.1 9 = a.1 9) ∧ (b.1 10 = a.1 10) ∧ (b.1 29 = emEnd a)
theorem Fy.k9 {a : Ab} {b : Ab} (Z : Fy a b) : b.1 9 = a.1 9 := Z.1
theorem Fy.k10 {a : Ab} {b : Ab} (Z : Fy a b) : b.1 10 = a.1 10 := Z.2.1
theorem Fy.k29 {a : Ab} {b : Ab} (Z : Fy a b) : b.1 29 = emEnd a := Z.2.2
def Fl (a b : Ab) : Prop := (∃ x, (a.1 9 = 0) ∧ (a.1 19 = -2) ∧ (b.1 19 = -2) ∧ (1 ≤ x) ∧ (x < 16) ∧ (a.1 11 = nI x) ∧ (b.1 11 = nI x) ∧ (Wok (a.2.2.1 0) (wg x))) ∨ (∃ x, (a.1 9 = 1) ∧ (a.1 19 = -2) ∧ (b.1 19 = -2) ∧ (1 ≤ x) ∧ (x < 16) ∧ (a.1 11 = nI x) ∧ (b.1 11 = nI x) ∧ (Wok (a.2.2.1 0) (wg x))) ∨ (∃ f B K, (FP a f) ∧ (b.1 19 = nI f) ∧ (a.1 9 = 2) ∧ (a.2.2.2.2.1 0 f = true) ∧ (a.1 11 = nI f) ∧ (a.2.2.1 3 = [B, K]) ∧ (a.1 16 = nI B) ∧ (B ≤ 64) ∧ (K ≤ 8) ∧ (b.1 11 = nI K) ∧ (a.2.2.1 1 = [])) ∨ (∃ f, (FP a f) ∧ (b.1 19 = nI f) ∧ (a.1 9 = 3) ∧ (a.2.2.2.2.1 0 f = true)) ∨ (∃ f B K p, (FP a f) ∧ (b.1 19 = nI f) ∧ (a.1 9 = 4 ∨ a.1 9 = 5) ∧ (b.1 12 = 2) ∧ (a.1 12 = nI f) ∧ (a.2.2.2.2.1 0 f = true) ∧ (b.1 27 = 0) ∧ (a.2.2.1 4 = [B, K]) ∧ (b.1 30 = nI K) ∧ (a.1 16 = nI B) ∧ (B ≤ 64) ∧ (K ≤ 8) ∧ (a.1 13 = nI p) ∧ (p ≤ 500) ∧ (a.1 9 = 5 → ∃ j, j ≤ 500 ∧ a.1 11 = nI j ∧ b.1 11 = nI j)) ∨ (∃ f, (FP a f) ∧ (b.1 19 = nI f) ∧ (a.1 9 = 6) ∧ (a.2.2.2.2.1 0 f = true)) ∨ (∃ f, (FP a f) ∧ (b.1 19 = nI f) ∧ (a.1 9 = 7) ∧ ((¬ b.1 28 = 0 ∨ b.1 21 = 3) ↔ a.2.2.2.2.1 0 f = false))
theorem Fl.ask {a b : Ab} (x : Nat) (hk : a.1 9 = 0) (fa : a.1 19 = -2) (fb : b.1 19 = -2) (x1 : 1 ≤ x) (x2 : x < 16) (xa : a.1 11 = nI x) (xb : b.1 11 = nI x) (w : Wok (a.2.2.1 0) (wg x)) : Fl a b := Or.inl ⟨x, hk, fa, fb, x1, x2, xa, xb, w⟩
theorem Fl.node {a b : Ab} (x : Nat) (hk : a.1 9 = 1) (fa : a.1 19 = -2) (fb : b.1 19 = -2) (x1 : 1 ≤ x) (x2 : x < 16) (xa : a.1 11 = nI x) (xb : b.1 11 = nI x) (w : Wok (a.2.2.1 0) (wg x)) : Fl a b := Or.inr (Or.inl ⟨x, hk, fa, fb, x1, x2, xa, xb, w⟩)
theorem Fl.sums {a b : Ab} (f : Nat) (B : Nat) (K : Nat) (fp : FP a f) (bf : b.1 19 = nI f) (hk : a.1 9 = 2) (td : a.2.2.2.2.1 0 f = true) (sub : a.1 11 = nI f) (bk : a.2.2.1 3 = [B, K]) (hB : a.1 16 = nI B) (hB64 : B ≤ 64) (hK : K ≤ 8) (xb : b.1 11 = nI K) (bl : a.2.2.1 1 = []) : Fl a b := Or.inr (Or.inr (Or.inl ⟨f, B, K, fp, bf, hk, td, sub, bk, hB, hB64, hK, xb, bl⟩))
theorem Fl.gone {a b : Ab} (f : Nat) (fp : FP a f) (bf : b.1 19 = nI f) (hk : a.1 9 = 3) (td : a.2.2.2.2.1 0 f = true) : Fl a b := Or.inr (Or.inr (Or.inr (Or.inl ⟨f, fp, bf, hk, td⟩)))
theorem Fl.part {a b : Ab} (f : Nat) (B : Nat) (K : Nat) (p : Nat) (fp : FP a f) (bf : b.1 19 = nI f) (hk : a.1 9 = 4 ∨ a.1 9 = 5) (d : b.1 12 = 2) (sf : a.1 12 = nI f) (td : a.2.2.2.2.1 0 f = true) (bg : b.1 27 = 0) (bk : a.2.2.1 4 = [B, K]) (kb : b.1 30 = nI K) (hB : a.1 16 = nI B) (hB64 : B ≤ 64) (hK : K ≤ 8) (hp : a.1 13 = nI p) (hp2 : p ≤ 500) (hj : a.1 9 = 5 → ∃ j, j ≤ 500 ∧ a.1 11 = nI j ∧ b.1 11 = nI j) : Fl a b := Or.inr (Or.inr (Or.inr (Or.inr (Or.inl ⟨f, B, K, p, fp, bf, hk, d, sf, td, bg, bk, kb, hB, hB64, hK, hp, hp2, hj⟩))))
theorem Fl.fin {a b : Ab} (f : Nat) (fp : FP a f) (bf : b.1 19 = nI f) (hk : a.1 9 = 6) (td : a.2.2.2.2.1 0 f = true) : Fl a b := Or.inr (Or.inr (Or.inr (Or.inr (Or.inr (Or.inl ⟨f, fp, bf, hk, td⟩)))))
theorem Fl.ans {a b : Ab} (f : Nat) (fp : FP a f) (bf : b.1 19 = nI f) (hk : a.1 9 = 7) (dn : (¬ b.1 28 = 0 ∨ b.1 21 = 3) ↔ a.2.2.2.2.1 0 f = false) : Fl a b := Or.inr (Or.inr (Or.inr (Or.inr (Or.inr (Or.inr (⟨f, fp, bf, hk, dn⟩))))))
def RB (a : Ab) : Prop := ∃ B K, a.1 16 = nI B ∧ 0 < B ∧ B ≤ 64 ∧ a.1 17 = nI K ∧ K ≤ 8
def Bd (a : Ab) : Prop := (∀ e, e < 2 → ∀ f, f < 8 → ((a.2.2.2.1 e f).getD []).length ≤ 500) ∧ ((a.2.2.1 1).length ≤ 500) ∧ ((a.2.2.2.2.2 0).length ≤ 500) ∧ ((a.2.2.2.2.2 1).length ≤ 500)
theorem Bd.f {a : Ab} (Z : Bd a) : ∀ e, e < 2 → ∀ f, f < 8 → ((a.2.2.2.1 e f).getD []).length ≤ 500 := Z.1
theorem Bd.b {a : Ab} (Z : Bd a) : (a.2.2.1 1).length ≤ 500 := Z.2.1
theorem Bd.s0 {a : Ab} (Z : Bd a) : (a.2.2.2.2.2 0).length ≤ 500 := Z.2.2.1
theorem Bd.s1 {a : Ab} (Z : Bd a) : (a.2.2.2.2.2 1).length ≤ 500 := Z.2.2.2

