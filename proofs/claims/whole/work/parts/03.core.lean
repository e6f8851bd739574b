/-! the mini world: shapes by id, typed stores; refs are ids -/
abbrev Sh : Type := (FieldType × Nat) ⊕ Nat
abbrev Hp : Type := (Nat → Nat → Int32) × (Nat → Nat → Int64) × (Nat → Nat → Option Nat)
abbrev MI : Type := MethodName × ByteArray × Nat × Option FieldType × Room
abbrev QT : Type := Option Value → List Sh → Hp → Prop
def u2 {α : Type} (f : Nat → Nat → α) (a k : Nat) (x : α) : Nat → Nat → α := fun b j => if b = a ∧ j = k then x else f b j
def sI (h : Hp) (a k : Nat) (x : Int32) : Hp := (u2 h.1 a k x, h.2.1, h.2.2)
def sL (h : Hp) (a k : Nat) (x : Int64) : Hp := (h.1, u2 h.2.1 a k x, h.2.2)
def sR (h : Hp) (a k : Nat) (x : Option Nat) : Hp := (h.1, h.2.1, u2 h.2.2 a k x)
def clr (h : Hp) (n : Nat) : Hp := (fun b j => if b = n then 0 else h.1 b j, fun b j => if b = n then 0 else h.2.1 b j, fun b j => if b = n then none else h.2.2 b j)
def tyC (c : Nat) : Nat → FieldType := match c with
  | 0 => tyX0
  | 1 => tyX1
  | 2 => tyX2
  | 3 => tyX3
  | 4 => tyX4
  | 5 => tyX5
  | 6 => tyX6
  | 7 => tyX7
  | 8 => tyX8
  | _ => tyX9
def nfC (c : Nat) : Nat := match c with
  | 0 => 3
  | 1 => 6
  | 2 => 17
  | 3 => 2
  | 4 => 15
  | 5 => 6
  | 6 => 3
  | 7 => 5
  | 8 => 4
  | _ => 42
def rv (b : Nat) (adr : Nat → Nat) : Value → Value
  | .ref k => .ref (adr k)
  | .retAddr _ => .ref b
  | v => v
theorem rv_cat (b : Nat) (adr : Nat → Nat) (v : Value) : (rv b adr v).category = v.category := by cases v <;> rfl
theorem rv_rf (b : Nat) (adr : Nat → Nat) (r : Option Nat) : va_rf (r.map adr) = rv b adr (va_rf r) := by cases r <;> rfl
def fv (adr : Nat → Nat) (h : Hp) (k : Nat) (ty : FieldType) (j : Nat) : Value := match ty with
  | .long => .long (h.2.1 k j)
  | .object _ => va_rf ((h.2.2 k j).map adr)
  | .array _ => va_rf ((h.2.2 k j).map adr)
  | _ => .int (h.1 k j)
def cel (cyc : FieldType → ClassId) (adr : Nat → Nat) (h : Hp) (k : Nat) (s : Sh) : va_E := match s with
  | .inl (.long, n) => .inl (cyc .long, n, .inr (.inl (h.2.1 k)))
  | .inl (.object C, n) => .inl (cyc (.object C), n, .inr (.inr (.inr (.inr (fun j => (h.2.2 k j).map adr)))))
  | .inl (ty, n) => .inl (cyc ty, n, .inl (h.1 k))
  | .inr ci => .inr (ci, (List.range (nfC ci)).map (fun j => fv adr h k (tyC ci j) j))
def wsl (cyc : FieldType → ClassId) (adr : Nat → Nat) (h : Hp) (sh : List Sh) : va_W := sh.mapIdx (fun k s => (adr k, cel cyc adr h k s))
theorem wsl_at {cyc : FieldType → ClassId} {adr : Nat → Nat} {h : Hp} {sh : List Sh} {k : Nat} {s : Sh} (hk : sh[k]? = some s) : (wsl cyc adr h sh)[k]? = some (adr k, cel cyc adr h k s) := by
  simp [wsl, hk]
theorem wsl_len (cyc : FieldType → ClassId) (adr : Nat → Nat) (h : Hp) (sh : List Sh) : (wsl cyc adr h sh).length = sh.length := by simp [wsl]
theorem wsl_set {cyc : FieldType → ClassId} {adr : Nat → Nat} {h h' : Hp} {sh : List Sh} {k : Nat} {s : Sh} {e : va_E} (hk : sh[k]? = some s) (he : cel cyc adr h' k s = e) (ho : ∀ j t, j ≠ k → cel cyc adr h' j t = cel cyc adr h j t) : (wsl cyc adr h sh).set k (adr k, e) = wsl cyc adr h' sh := by
  apply List.ext_getElem?
  intro i
  rw [List.getElem?_set]
  by_cases hi : k = i
  · subst hi
    have hlt : k < sh.length := (List.getElem?_eq_some_iff.mp hk).1
    simp only [wsl_at hk, he, wsl_len, hlt]
    simp
  · simp only [hi]
    simp [wsl]
    cases hs : sh[i]? with
    | none => simp
    | some t => simp [ho i t (fun q => hi q.symm)]
theorem wsl_push {cyc : FieldType → ClassId} {adr adr' : Nat → Nat} {h h' : Hp} {sh : List Sh} {t : Sh} {q : Nat} {e : va_E} (hq : adr' sh.length = q) (he : cel cyc adr' h' sh.length t = e) (ho : ∀ j s, sh[j]? = some s → (adr' j, cel cyc adr' h' j s) = (adr j, cel cyc adr h j s)) : wsl cyc adr h sh ++ [(q, e)] = wsl cyc adr' h' (sh ++ [t]) := by
  apply List.ext_getElem?
  intro i
  by_cases hi : i < sh.length
  · rw [List.getElem?_append_left (by rw [wsl_len]; exact hi)]
    have e1 : sh[i]? = some sh[i] := List.getElem?_eq_getElem hi
    rw [wsl_at e1, wsl_at (s := sh[i]) (by rw [List.getElem?_append_left hi]; exact e1), ho i _ e1]
  · rw [List.getElem?_append_right (by rw [wsl_len]; omega), wsl_len]
    by_cases h2 : i = sh.length
    · subst h2
      rw [wsl_at (s := t) (by simp)]
      simp [hq, he]
    · have e1 : [(q, e)][i - sh.length]? = none := by simp; omega
      rw [e1]
      symm
      simp [wsl]
      omega
theorem cel_oI (cyc : FieldType → ClassId) (adr : Nat → Nat) (h : Hp) (a k : Nat) (x : Int32) : ∀ j t, j ≠ a → cel cyc adr (sI h a k x) j t = cel cyc adr h j t := by
  intro j t hj
  have e1 : (sI h a k x).1 j = h.1 j := by funext i; simp [sI, u2, hj]
  have e2 : ∀ ty i, fv adr (sI h a k x) j ty i = fv adr h j ty i := by intro ty i; cases ty <;> simp [fv, e1, sI] <;> simp [u2, hj]
  unfold cel
  split <;> simp [e1, e2] <;> rfl
theorem cel_oL (cyc : FieldType → ClassId) (adr : Nat → Nat) (h : Hp) (a k : Nat) (x : Int64) : ∀ j t, j ≠ a → cel cyc adr (sL h a k x) j t = cel cyc adr h j t := by
  intro j t hj
  have e1 : (sL h a k x).2.1 j = h.2.1 j := by funext i; simp [sL, u2, hj]
  have e2 : ∀ ty i, fv adr (sL h a k x) j ty i = fv adr h j ty i := by intro ty i; cases ty <;> simp [fv, e1, sL] <;> simp [u2, hj]
  unfold cel
  split <;> simp [e1, e2] <;> rfl
theorem cel_oR (cyc : FieldType → ClassId) (adr : Nat → Nat) (h : Hp) (a k : Nat) (x : Option Nat) : ∀ j t, j ≠ a → cel cyc adr (sR h a k x) j t = cel cyc adr h j t := by
  intro j t hj
  have e1 : (sR h a k x).2.2 j = h.2.2 j := by funext i; simp [sR, u2, hj]
  have e2 : ∀ ty i, fv adr (sR h a k x) j ty i = fv adr h j ty i := by intro ty i; cases ty <;> simp [fv, e1, sR] <;> simp [u2, hj]
  unfold cel
  split <;> simp [e1, e2] <;> rfl


/-! the tables' words: the good ones, and those of nest mates -/
def mGood : List Cond := lw_tbl.filter goodWord
theorem mg {w : Cond} (i : Nat) (h : lw_tbl[i]? = some w) (hg : goodWord w = true) : w ∈ mGood := List.mem_filter.mpr ⟨List.mem_of_getElem? h, hg⟩
theorem mGood_good {w : Cond} (h : w ∈ mGood) : goodWord w = true := (List.mem_filter.mp h).2
def isNest : Cond → Bool
  | .fieldLinkNest .. => true
  | .methodLinkNest .. => true
  | _ => false
def mNest : List Cond := lw_tbl.filter isNest
theorem mn {w : Cond} (i : Nat) (h : lw_tbl[i]? = some w) (hg : isNest w = true) : w ∈ mNest := List.mem_filter.mpr ⟨List.mem_of_getElem? h, hg⟩
theorem mNest_warm {s U : State} (hW : s.WarmedH U.vm) (h : ∀ w ∈ mNest, va_Nw w s) : ∀ w ∈ mNest, va_Nw w U := by
  intro w hw
  have h1 := h w hw
  have h2 := (List.mem_filter.mp hw).2
  cases w <;> first | exact va_Nw.warmF hW h1 | exact va_Nw.warmM hW h1 | cases h2
theorem mNest_same {s U : State} (hW : s.vm = U.vm) (h : ∀ w ∈ mNest, va_Nw w s) : ∀ w ∈ mNest, va_Nw w U := by
  intro w hw
  have h1 := h w hw
  have h2 := (List.mem_filter.mp hw).2
  cases w <;> first | (cases h2; done) | exact va_Nw.same rfl hW h1
theorem goodIn_M {y : MethodName} {cc : ByteArray} {nL : Nat} {ret : Option FieldType} (h : Cond.code y cc nL ret ∈ mGood) : GoodIn mGood (Cond.code y cc nL ret :: mGood) := by
  intro w hw
  rcases List.mem_cons.mp hw with rfl | h1
  · exact ⟨h, good_of_word (mGood_good h)⟩
  · exact ⟨h1, good_of_word (mGood_good h1)⟩
def tysL (cyc : FieldType → ClassId) : List (ClassId × FieldType) := [(cyc .byte, .byte), (cyc .int, .int), (cyc .long, .long), (cyc .boolean, .boolean), (cyc (.object RX3), .object RX3)]

/-! locals by position -/
def killw : Option Value → Option Value
  | some (.long _) => none
  | some (.double _) => none
  | o => o
def lst1 : List (Option Value) → Nat → Value → List (Option Value)
  | [], _, _ => []
  | _ :: t, 0, v => some v :: t
  | o :: t, 1, v => killw o :: (match t with | [] => [] | _ :: t' => some v :: t')
  | o :: t, i + 2, v => o :: lst1 t (i + 1) v
def lst2 : List (Option Value) → Nat → Value → List (Option Value)
  | [], _, _ => []
  | _ :: t, 0, v => some v :: (match t with | [] => [] | _ :: t' => none :: t')
  | o :: t, 1, v => killw o :: (match t with | [] => [] | _ :: t' => some v :: (match t' with | [] => [] | _ :: t'' => none :: t''))
  | o :: t, i + 2, v => o :: lst2 t (i + 1) v
theorem killw_some {o : Option Value} {w : Value} (h : killw o = some w) : o = some w ∧ ¬ w.category = 2 := by
  cases o with
  | none => cases h
  | some v => cases v <;> simp [killw] at h <;> subst h <;> exact ⟨rfl, by simp [Value.category]⟩
theorem lst1_at : ∀ (lv : List (Option Value)) (i : Nat) (v : Value) (j : Nat) (w : Value), (lst1 lv i v)[j]? = some (some w) → (j = i ∧ w = v) ∨ (j ≠ i ∧ lv[j]? = some (some w) ∧ ¬ (j + 1 = i ∧ w.category = 2)) := by
  intro lv i v
  induction lv, i, v using lst1.induct with
  | case1 i v => intro j w h; simp [lst1] at h
  | case2 o t v =>
    intro j w h
    cases j with
    | zero => simp [lst1] at h; exact Or.inl ⟨rfl, h.symm⟩
    | succ j => simp [lst1] at h; exact Or.inr ⟨by omega, by simpa using h, by omega⟩
  | case3 o t v =>
    intro j w h
    cases j with
    | zero =>
      simp [lst1] at h
      have := killw_some h
      exact Or.inr ⟨by omega, by simp [this.1], fun q => this.2 q.2⟩
    | succ j =>
      cases t with
      | nil => simp [lst1] at h
      | cons o2 t =>
        cases j with
        | zero => simp [lst1] at h; exact Or.inl ⟨rfl, h.symm⟩
        | succ j => simp [lst1] at h; exact Or.inr ⟨by omega, by simpa using h, by omega⟩
  | case4 o t i v ih =>
    intro j w h
    cases j with
    | zero => simp [lst1] at h; exact Or.inr ⟨by omega, by simpa using h, by omega⟩
    | succ j =>
      simp only [lst1, List.getElem?_cons_succ] at h
      rcases ih j w h with ⟨q1, q2⟩ | ⟨q1, q2, q3⟩
      · exact Or.inl ⟨by omega, q2⟩
      · exact Or.inr ⟨by omega, by simpa using q2, fun q => q3 ⟨by omega, q.2⟩⟩
theorem lst2_at : ∀ (lv : List (Option Value)) (i : Nat) (v : Value) (j : Nat) (w : Value), (lst2 lv i v)[j]? = some (some w) → (j = i ∧ w = v) ∨ (j ≠ i ∧ j ≠ i + 1 ∧ lv[j]? = some (some w) ∧ ¬ (j + 1 = i ∧ w.category = 2)) := by
  intro lv i v
  induction lv, i, v using lst2.induct with
  | case1 i v => intro j w h; simp [lst2] at h
  | case2 o t v =>
    intro j w h
    cases j with
    | zero => simp [lst2] at h; exact Or.inl ⟨rfl, h.symm⟩
    | succ j =>
      cases t with
      | nil => simp [lst2] at h
      | cons o2 t =>
        cases j with
        | zero => simp [lst2] at h
        | succ j => simp [lst2] at h; exact Or.inr ⟨by omega, by omega, by simpa using h, by omega⟩
  | case3 o t v =>
    intro j w h
    cases j with
    | zero =>
      simp [lst2] at h
      have := killw_some h
      exact Or.inr ⟨by omega, by omega, by simp [this.1], fun q => this.2 q.2⟩
    | succ j =>
      cases t with
      | nil => simp [lst2] at h
      | cons o2 t =>
        cases j with
        | zero => simp [lst2] at h; exact Or.inl ⟨rfl, h.symm⟩
        | succ j =>
          cases t with
          | nil => simp [lst2] at h
          | cons o3 t =>
            cases j with
            | zero => simp [lst2] at h
            | succ j => simp [lst2] at h; exact Or.inr ⟨by omega, by omega, by simpa using h, by omega⟩
  | case4 o t i v ih =>
    intro j w h
    cases j with
    | zero => simp [lst2] at h; exact Or.inr ⟨by omega, by omega, by simpa using h, by omega⟩
    | succ j =>
      simp only [lst2, List.getElem?_cons_succ] at h
      rcases ih j w h with ⟨q1, q2⟩ | ⟨q1, q2, q3, q4⟩
      · exact Or.inl ⟨by omega, q2⟩
      · exact Or.inr ⟨by omega, by omega, by simpa using q3, fun q => q4 ⟨by omega, q.2⟩⟩
def Lv (b : Nat) (adr : Nat → Nat) (nL : Nat) (lv : List (Option Value)) (ls : Array Slot) : Prop := ls.size = nL ∧ lv_wf ls ∧ ∀ (i : Nat) (v : Value), lv[i]? = some (some v) → ls[i]? = some (.val (rv b adr v))
def lvp (b : Nat) (adr : Nat → Nat) (lv : List (Option Value)) : List (Nat × Value) := (List.range lv.length).filterMap fun i => match lv[i]? with
  | some (some v) => some (i, rv b adr v)
  | _ => none
theorem lvp_mem {b : Nat} {adr : Nat → Nat} {lv : List (Option Value)} {q : Nat × Value} (h : q ∈ lvp b adr lv) : ∃ v, lv[q.1]? = some (some v) ∧ q.2 = rv b adr v := by
  obtain ⟨i, -, h2⟩ := List.mem_filterMap.mp h
  split at h2
  · next v hv => cases h2; exact ⟨v, hv, rfl⟩
  · cases h2
theorem lvp_in {b : Nat} {adr : Nat → Nat} {lv : List (Option Value)} {i : Nat} {v : Value} (h : lv[i]? = some (some v)) : (i, rv b adr v) ∈ lvp b adr lv := by
  refine List.mem_filterMap.mpr ⟨i, List.mem_range.mpr (List.getElem?_eq_some_iff.mp h).1, ?_⟩
  simp [h]
theorem Lv.has {b : Nat} {adr : Nat → Nat} {nL : Nat} {lv : List (Option Value)} {ls : Array Slot} (h : Lv b adr nL lv ls) : lv_has ls nL (lvp b adr lv) := ⟨h.1, h.2.1, fun q hq => by
  obtain ⟨v, h1, h2⟩ := lvp_mem hq
  rw [h2]; exact h.2.2 _ _ h1⟩
theorem Lv.st1 {b : Nat} {adr : Nat → Nat} {nL i : Nat} {lv : List (Option Value)} {v : Value} {ls' : Array Slot} (h : lv_has ls' nL ((i, rv b adr v) :: (lvp b adr lv).filter (fun q => !(q.1 == i) && !(q.1 + 1 == i && q.2.category == 2)))) : Lv b adr nL (lst1 lv i v) ls' := by
  refine ⟨h.1, h.2.1, fun j w hj => ?_⟩
  rcases lst1_at lv i v j w hj with ⟨rfl, rfl⟩ | ⟨q1, q2, q3⟩
  · exact h.2.2 _ List.mem_cons_self
  · refine h.2.2 (j, rv b adr w) (List.mem_cons_of_mem _ (List.mem_filter.mpr ⟨lvp_in q2, ?_⟩))
    simp [q1, rv_cat]
    exact Decidable.not_and_iff_not_or_not.mp q3
theorem Lv.st2 {b : Nat} {adr : Nat → Nat} {nL i : Nat} {lv : List (Option Value)} {v : Value} {ls' : Array Slot} (h : lv_has ls' nL ((i, rv b adr v) :: (lvp b adr lv).filter (fun q => !(q.1 == i) && (!(q.1 == i + 1) && !(q.1 + 1 == i && q.2.category == 2))))) : Lv b adr nL (lst2 lv i v) ls' := by
  refine ⟨h.1, h.2.1, fun j w hj => ?_⟩
  rcases lst2_at lv i v j w hj with ⟨rfl, rfl⟩ | ⟨q1, q0, q2, q3⟩
  · exact h.2.2 _ List.mem_cons_self
  · refine h.2.2 (j, rv b adr w) (List.mem_cons_of_mem _ (List.mem_filter.mpr ⟨lvp_in q2, ?_⟩))
    simp [q1, q0, rv_cat]
    exact Decidable.not_and_iff_not_or_not.mp q3
/-! the world, the context, the judgement -/
def NoD (sh : List Sh) (h : Hp) : Prop := ∀ j i x : Nat, h.2.2 j i = some x → x < sh.length
def Wd (s : State) (D : va_G) (cyc : FieldType → ClassId) (A : Nat → Prop) (n0 : Nat) (ad0 adr : Nat → Nat) (sh : List Sh) (h : Hp) (H : Heap) (locs : List Loc) : Prop :=
  va_P D vwCl (wsl cyc adr h sh) H ∧ va_D A (wsl cyc adr h sh) ∧ va_S A s.heap H locs ∧ (∀ k, k < n0 → adr k = ad0 k) ∧ (sh.length = n0 → adr = ad0) ∧ n0 ≤ sh.length ∧ NoD sh h
def RtOk (ret : Option FieldType) (v : Option Value) (i : Instr) : Prop := match v with
  | none => i = .return_ ∧ ret = none
  | some (.int x) => i = .ireturn ∧ ∃ ty, ret = some ty ∧ narrow ty (.int x) = .int x
  | some (.long _) => i = .lreturn ∧ ret = some .long
  | some .null => i = .areturn ∧ ∃ n, ret = some (.object n)
  | some (.ref _) => i = .areturn ∧ ∃ n, ret = some (.object n)
  | _ => False
def Cx (M : MI) (scr : Option (Nat × (Nat → Int32))) (Q : QT) (p : Program) (l : Launch) (e : Env) (s : State) (m : MethodId) (args : Array Value) (below : List Frame) (meth : Method) (c : Code) (D : va_G) (cyc : FieldType → ClassId) (A : Nat → Prop) (Z : State → Prop) (n0 b : Nat) (ad0 : Nat → Nat) : Prop :=
  p.tables.exec = Jvm.exec ∧ c.code = M.2.1 ∧ c.maxLocals = M.2.2.1 ∧ s.vm.findClass M.1.cls = some m.cls ∧ (∀ w ∈ mGood, w.before args s = true) ∧ (∀ w ∈ mNest, va_Nw w s) ∧ va_AO RX3 s ∧ meth.name = M.1.name ∧ (∀ q, s.heap.size ≤ q → A q) ∧ va_K D vwCl (tysL cyc) s ∧
  (∀ (L : Nat) (xs : Nat → Int32), scr = some (L, xs) → va_X b L xs s s.heap ∧ b < s.heap.size ∧ ¬ A b) ∧
  (∀ (v : Option Value) (i : Instr) (sh : List Sh) (h : Hp) (adr : Nat → Nat) (H : Heap) (locs : List Loc) (pc : Nat) (ls : Array Slot), Q v sh h → Wd s D cyc A n0 ad0 adr sh h H locs → RtOk M.2.2.2.1 v i → decode M.2.1 pc = .ok (i, 1) → W p l e M.2.2.2.2 s m args below meth c H locs M.2.2.2.2.cells M.2.2.2.2.slots Z (F0 m pc ls (v.toList.map (rv b adr))))
def E (M : MI) (scr : Option (Nat × (Nat → Int32))) (Q : QT) (pc : Nat) (lv : List (Option Value)) (st : List Value) (sh : List Sh) (h : Hp) (kc ks : Nat) : Prop :=
  ∀ (p : Program) (l : Launch) (e : Env) (s : State) (m : MethodId) (args : Array Value) (below : List Frame) (meth : Method) (c : Code) (D : va_G) (cyc : FieldType → ClassId) (A : Nat → Prop) (Z : State → Prop) (n0 b : Nat) (ad0 : Nat → Nat), Cx M scr Q p l e s m args below meth c D cyc A Z n0 b ad0 →
  ∀ (adr : Nat → Nat) (locs : List Loc) (H : Heap) (ls : Array Slot), Wd s D cyc A n0 ad0 adr sh h H locs → Lv b adr M.2.2.1 lv ls →
  W p l e M.2.2.2.2 s m args below meth c H locs kc ks Z (F0 m pc ls (st.map (rv b adr)))

section ER
variable {M : MI} {scr : Option (Nat × (Nat → Int32))} {Q : QT} {pc : Nat} {lv : List (Option Value)} {st : List Value} {sh : List Sh} {h : Hp} {kc ks : Nat}
theorem E_iconst {n : Int} (hd : decode M.2.1 pc = .ok (.iconst n, 1)) (k : E M scr Q (pc + 1) lv (.int (Int32.ofInt n) :: st) sh h kc ks) : E M scr Q pc lv (st) sh h kc ks := by
  intro p l e s m args below meth c D cyc A Z n0 b ad0 C adr locs H ls w hl
  exact lv_iconst C.1 C.2.1 hd rfl (k p l e s m args below meth c D cyc A Z n0 b ad0 C adr locs H ls w hl)
theorem E_bipush {n : Int} (hd : decode M.2.1 pc = .ok (.bipush n, 2)) (k : E M scr Q (pc + 2) lv (.int (Int8.ofInt n).toInt32 :: st) sh h kc ks) : E M scr Q pc lv (st) sh h kc ks := by
  intro p l e s m args below meth c D cyc A Z n0 b ad0 C adr locs H ls w hl
  exact lv_bipush C.1 C.2.1 hd rfl (k p l e s m args below meth c D cyc A Z n0 b ad0 C adr locs H ls w hl)
theorem E_sipush {n : Int} (hd : decode M.2.1 pc = .ok (.sipush n, 3)) (k : E M scr Q (pc + 3) lv (.int (Int16.ofInt n).toInt32 :: st) sh h kc ks) : E M scr Q pc lv (st) sh h kc ks := by
  intro p l e s m args below meth c D cyc A Z n0 b ad0 C adr locs H ls w hl
  exact lv_sipush C.1 C.2.1 hd rfl (k p l e s m args below meth c D cyc A Z n0 b ad0 C adr locs H ls w hl)
theorem E_ic {n : Int} (x : Int32) (hd : decode M.2.1 pc = .ok (.iconst n, 1)) (hx : Int32.ofInt n = x) (k : E M scr Q (pc + 1) lv (.int x :: st) sh h kc ks) : E M scr Q pc lv st sh h kc ks := by
  intro p l e s m args below meth c D cyc A Z n0 b ad0 C adr locs H ls w hl
  exact lv_iconst C.1 C.2.1 hd hx (k p l e s m args below meth c D cyc A Z n0 b ad0 C adr locs H ls w hl)
theorem E_bi {n : Int} (x : Int32) (hd : decode M.2.1 pc = .ok (.bipush n, 2)) (hx : (Int8.ofInt n).toInt32 = x) (k : E M scr Q (pc + 2) lv (.int x :: st) sh h kc ks) : E M scr Q pc lv st sh h kc ks := by
  intro p l e s m args below meth c D cyc A Z n0 b ad0 C adr locs H ls w hl
  exact lv_bipush C.1 C.2.1 hd hx (k p l e s m args below meth c D cyc A Z n0 b ad0 C adr locs H ls w hl)
theorem E_si {n : Int} (x : Int32) (hd : decode M.2.1 pc = .ok (.sipush n, 3)) (hx : (Int16.ofInt n).toInt32 = x) (k : E M scr Q (pc + 3) lv (.int x :: st) sh h kc ks) : E M scr Q pc lv st sh h kc ks := by
  intro p l e s m args below meth c D cyc A Z n0 b ad0 C adr locs H ls w hl
  exact lv_sipush C.1 C.2.1 hd hx (k p l e s m args below meth c D cyc A Z n0 b ad0 C adr locs H ls w hl)
theorem E_lc {n : Fin 2} (x : Int64) (hd : decode M.2.1 pc = .ok (.lconst n, 1)) (hx : Int64.ofNat (n : Nat) = x) (k : E M scr Q (pc + 1) lv (.long x :: st) sh h kc ks) : E M scr Q pc lv st sh h kc ks := by
  intro p l e s m args below meth c D cyc A Z n0 b ad0 C adr locs H ls w hl
  exact lv_lconst C.1 C.2.1 hd hx (k p l e s m args below meth c D cyc A Z n0 b ad0 C adr locs H ls w hl)
theorem E_ldc2 {i : Nat} {x : Int64} (hd : decode M.2.1 pc = .ok (.ldc2_w i, 3)) (hc : Cond.constantLong M.1.cls i x ∈ mGood) (k : E M scr Q (pc + 3) lv (.long x :: st) sh h kc ks) : E M scr Q pc lv st sh h kc ks := by
  intro p l e s m args below meth c D cyc A Z n0 b ad0 C adr locs H ls w hl
  exact lv_ldc2 C.1 C.2.1 C.2.2.2.1 (C.2.2.2.2.1 _ hc) hd (k p l e s m args below meth c D cyc A Z n0 b ad0 C adr locs H ls w hl)
theorem E_iadd {x y : Int32} (hd : decode M.2.1 pc = .ok (.iadd, 1)) (k : E M scr Q (pc + 1) lv (.int (x + y) :: st) sh h kc ks) : E M scr Q pc lv (.int y :: .int x :: st) sh h kc ks := by
  intro p l e s m args below meth c D cyc A Z n0 b ad0 C adr locs H ls w hl
  exact lv_iadd C.1 C.2.1 hd (k p l e s m args below meth c D cyc A Z n0 b ad0 C adr locs H ls w hl)
theorem E_isub {x y : Int32} (hd : decode M.2.1 pc = .ok (.isub, 1)) (k : E M scr Q (pc + 1) lv (.int (x - y) :: st) sh h kc ks) : E M scr Q pc lv (.int y :: .int x :: st) sh h kc ks := by
  intro p l e s m args below meth c D cyc A Z n0 b ad0 C adr locs H ls w hl
  exact lv_isub C.1 C.2.1 hd (k p l e s m args below meth c D cyc A Z n0 b ad0 C adr locs H ls w hl)
theorem E_imul {x y : Int32} (hd : decode M.2.1 pc = .ok (.imul, 1)) (k : E M scr Q (pc + 1) lv (.int (x * y) :: st) sh h kc ks) : E M scr Q pc lv (.int y :: .int x :: st) sh h kc ks := by
  intro p l e s m args below meth c D cyc A Z n0 b ad0 C adr locs H ls w hl
  exact lv_imul C.1 C.2.1 hd (k p l e s m args below meth c D cyc A Z n0 b ad0 C adr locs H ls w hl)
theorem E_iand {x y : Int32} (hd : decode M.2.1 pc = .ok (.iand, 1)) (k : E M scr Q (pc + 1) lv (.int (x &&& y) :: st) sh h kc ks) : E M scr Q pc lv (.int y :: .int x :: st) sh h kc ks := by
  intro p l e s m args below meth c D cyc A Z n0 b ad0 C adr locs H ls w hl
  exact lv_iand C.1 C.2.1 hd (k p l e s m args below meth c D cyc A Z n0 b ad0 C adr locs H ls w hl)
theorem E_ior {x y : Int32} (hd : decode M.2.1 pc = .ok (.ior, 1)) (k : E M scr Q (pc + 1) lv (.int (x ||| y) :: st) sh h kc ks) : E M scr Q pc lv (.int y :: .int x :: st) sh h kc ks := by
  intro p l e s m args below meth c D cyc A Z n0 b ad0 C adr locs H ls w hl
  exact lv_ior C.1 C.2.1 hd (k p l e s m args below meth c D cyc A Z n0 b ad0 C adr locs H ls w hl)
theorem E_ixor {x y : Int32} (hd : decode M.2.1 pc = .ok (.ixor, 1)) (k : E M scr Q (pc + 1) lv (.int (x ^^^ y) :: st) sh h kc ks) : E M scr Q pc lv (.int y :: .int x :: st) sh h kc ks := by
  intro p l e s m args below meth c D cyc A Z n0 b ad0 C adr locs H ls w hl
  exact lv_ixor C.1 C.2.1 hd (k p l e s m args below meth c D cyc A Z n0 b ad0 C adr locs H ls w hl)
theorem E_ladd {x y : Int64} (hd : decode M.2.1 pc = .ok (.ladd, 1)) (k : E M scr Q (pc + 1) lv (.long (x + y) :: st) sh h kc ks) : E M scr Q pc lv (.long y :: .long x :: st) sh h kc ks := by
  intro p l e s m args below meth c D cyc A Z n0 b ad0 C adr locs H ls w hl
  exact lv_ladd C.1 C.2.1 hd (k p l e s m args below meth c D cyc A Z n0 b ad0 C adr locs H ls w hl)
theorem E_lsub {x y : Int64} (hd : decode M.2.1 pc = .ok (.lsub, 1)) (k : E M scr Q (pc + 1) lv (.long (x - y) :: st) sh h kc ks) : E M scr Q pc lv (.long y :: .long x :: st) sh h kc ks := by
  intro p l e s m args below meth c D cyc A Z n0 b ad0 C adr locs H ls w hl
  exact lv_lsub C.1 C.2.1 hd (k p l e s m args below meth c D cyc A Z n0 b ad0 C adr locs H ls w hl)
theorem E_lmul {x y : Int64} (hd : decode M.2.1 pc = .ok (.lmul, 1)) (k : E M scr Q (pc + 1) lv (.long (x * y) :: st) sh h kc ks) : E M scr Q pc lv (.long y :: .long x :: st) sh h kc ks := by
  intro p l e s m args below meth c D cyc A Z n0 b ad0 C adr locs H ls w hl
  exact lv_lmul C.1 C.2.1 hd (k p l e s m args below meth c D cyc A Z n0 b ad0 C adr locs H ls w hl)
theorem E_land {x y : Int64} (hd : decode M.2.1 pc = .ok (.land, 1)) (k : E M scr Q (pc + 1) lv (.long (x &&& y) :: st) sh h kc ks) : E M scr Q pc lv (.long y :: .long x :: st) sh h kc ks := by
  intro p l e s m args below meth c D cyc A Z n0 b ad0 C adr locs H ls w hl
  exact lv_land C.1 C.2.1 hd (k p l e s m args below meth c D cyc A Z n0 b ad0 C adr locs H ls w hl)
theorem E_lor {x y : Int64} (hd : decode M.2.1 pc = .ok (.lor, 1)) (k : E M scr Q (pc + 1) lv (.long (x ||| y) :: st) sh h kc ks) : E M scr Q pc lv (.long y :: .long x :: st) sh h kc ks := by
  intro p l e s m args below meth c D cyc A Z n0 b ad0 C adr locs H ls w hl
  exact lv_lor C.1 C.2.1 hd (k p l e s m args below meth c D cyc A Z n0 b ad0 C adr locs H ls w hl)
theorem E_lxor {x y : Int64} (hd : decode M.2.1 pc = .ok (.lxor, 1)) (k : E M scr Q (pc + 1) lv (.long (x ^^^ y) :: st) sh h kc ks) : E M scr Q pc lv (.long y :: .long x :: st) sh h kc ks := by
  intro p l e s m args below meth c D cyc A Z n0 b ad0 C adr locs H ls w hl
  exact lv_lxor C.1 C.2.1 hd (k p l e s m args below meth c D cyc A Z n0 b ad0 C adr locs H ls w hl)
theorem E_idiv {x y : Int32} (hne : ¬ y = 0) (hd : decode M.2.1 pc = .ok (.idiv, 1)) (k : E M scr Q (pc + 1) lv (.int (x / y) :: st) sh h kc ks) : E M scr Q pc lv (.int y :: .int x :: st) sh h kc ks := by
  intro p l e s m args below meth c D cyc A Z n0 b ad0 C adr locs H ls w hl
  exact lv_idiv C.1 C.2.1 hd hne (k p l e s m args below meth c D cyc A Z n0 b ad0 C adr locs H ls w hl)
theorem E_lrem {x y : Int64} (hne : ¬ y = 0) (hd : decode M.2.1 pc = .ok (.lrem, 1)) (k : E M scr Q (pc + 1) lv (.long (x - x / y * y) :: st) sh h kc ks) : E M scr Q pc lv (.long y :: .long x :: st) sh h kc ks := by
  intro p l e s m args below meth c D cyc A Z n0 b ad0 C adr locs H ls w hl
  exact lv_lrem C.1 C.2.1 hd hne (k p l e s m args below meth c D cyc A Z n0 b ad0 C adr locs H ls w hl)
theorem E_lshl {x : Int64} {y : Int32} (hd : decode M.2.1 pc = .ok (.lshl, 1)) (k : E M scr Q (pc + 1) lv (.long (x <<< (y.toInt64 &&& 63)) :: st) sh h kc ks) : E M scr Q pc lv (.int y :: .long x :: st) sh h kc ks := by
  intro p l e s m args below meth c D cyc A Z n0 b ad0 C adr locs H ls w hl
  exact lv_lshl C.1 C.2.1 hd rfl (k p l e s m args below meth c D cyc A Z n0 b ad0 C adr locs H ls w hl)
theorem E_lshr {x : Int64} {y : Int32} (hd : decode M.2.1 pc = .ok (.lshr, 1)) (k : E M scr Q (pc + 1) lv (.long (x >>> (y.toInt64 &&& 63)) :: st) sh h kc ks) : E M scr Q pc lv (.int y :: .long x :: st) sh h kc ks := by
  intro p l e s m args below meth c D cyc A Z n0 b ad0 C adr locs H ls w hl
  exact lv_lshr C.1 C.2.1 hd rfl (k p l e s m args below meth c D cyc A Z n0 b ad0 C adr locs H ls w hl)
theorem E_lushr {x : Int64} {y : Int32} (hd : decode M.2.1 pc = .ok (.lushr, 1)) (k : E M scr Q (pc + 1) lv (.long ((x.toUInt64 >>> (y.toInt64.toUInt64 &&& Int64.toUInt64 63)).toInt64) :: st) sh h kc ks) : E M scr Q pc lv (.int y :: .long x :: st) sh h kc ks := by
  intro p l e s m args below meth c D cyc A Z n0 b ad0 C adr locs H ls w hl
  exact lv_lushr C.1 C.2.1 hd rfl (k p l e s m args below meth c D cyc A Z n0 b ad0 C adr locs H ls w hl)
theorem E_i2l {x : Int32} (hd : decode M.2.1 pc = .ok (.i2l, 1)) (k : E M scr Q (pc + 1) lv (.long x.toInt64 :: st) sh h kc ks) : E M scr Q pc lv (.int x :: st) sh h kc ks := by
  intro p l e s m args below meth c D cyc A Z n0 b ad0 C adr locs H ls w hl
  exact lv_i2l C.1 C.2.1 hd rfl (k p l e s m args below meth c D cyc A Z n0 b ad0 C adr locs H ls w hl)
theorem E_l2i {x : Int64} (hd : decode M.2.1 pc = .ok (.l2i, 1)) (k : E M scr Q (pc + 1) lv (.int x.toInt32 :: st) sh h kc ks) : E M scr Q pc lv (.long x :: st) sh h kc ks := by
  intro p l e s m args below meth c D cyc A Z n0 b ad0 C adr locs H ls w hl
  exact lv_l2i C.1 C.2.1 hd rfl (k p l e s m args below meth c D cyc A Z n0 b ad0 C adr locs H ls w hl)
theorem E_i2b {x : Int32} (hd : decode M.2.1 pc = .ok (.i2b, 1)) (k : E M scr Q (pc + 1) lv (.int x.toInt8.toInt32 :: st) sh h kc ks) : E M scr Q pc lv (.int x :: st) sh h kc ks := by
  intro p l e s m args below meth c D cyc A Z n0 b ad0 C adr locs H ls w hl
  exact lv_i2b C.1 C.2.1 hd rfl (k p l e s m args below meth c D cyc A Z n0 b ad0 C adr locs H ls w hl)
theorem E_lcmp {x y : Int64} (hd : decode M.2.1 pc = .ok (.lcmp, 1)) (k : E M scr Q (pc + 1) lv (.int (lg_cmp x y) :: st) sh h kc ks) : E M scr Q pc lv (.long y :: .long x :: st) sh h kc ks := by
  intro p l e s m args below meth c D cyc A Z n0 b ad0 C adr locs H ls w hl
  exact W.lcmp C.1 C.2.1 hd (k p l e s m args below meth c D cyc A Z n0 b ad0 C adr locs H ls w hl)
theorem E_dup {v : Value} (hv : v.category = 1) (hd : decode M.2.1 pc = .ok (.dup, 1)) (k : E M scr Q (pc + 1) lv (v :: v :: st) sh h kc ks) : E M scr Q pc lv (v :: st) sh h kc ks := by
  intro p l e s m args below meth c D cyc A Z n0 b ad0 C adr locs H ls w hl
  exact lv_dup C.1 C.2.1 hd (by rw [rv_cat]; exact hv) (k p l e s m args below meth c D cyc A Z n0 b ad0 C adr locs H ls w hl)
theorem E_pop {v : Value} (hv : v.category = 1) (hd : decode M.2.1 pc = .ok (.pop, 1)) (k : E M scr Q (pc + 1) lv (st) sh h kc ks) : E M scr Q pc lv (v :: st) sh h kc ks := by
  intro p l e s m args below meth c D cyc A Z n0 b ad0 C adr locs H ls w hl
  exact lv_pop C.1 C.2.1 hd (by rw [rv_cat]; exact hv) (k p l e s m args below meth c D cyc A Z n0 b ad0 C adr locs H ls w hl)
theorem E_dup2_2 {v : Value} (hv : v.category = 2) (hd : decode M.2.1 pc = .ok (.dup2, 1)) (k : E M scr Q (pc + 1) lv (v :: v :: st) sh h kc ks) : E M scr Q pc lv (v :: st) sh h kc ks := by
  intro p l e s m args below meth c D cyc A Z n0 b ad0 C adr locs H ls w hl
  exact lv_dup2_2 C.1 C.2.1 hd (by rw [rv_cat]; exact hv) (k p l e s m args below meth c D cyc A Z n0 b ad0 C adr locs H ls w hl)
theorem E_dup2 {v u : Value} (hv : v.category = 1) (hu : u.category = 1) (hd : decode M.2.1 pc = .ok (.dup2, 1)) (k : E M scr Q (pc + 1) lv (v :: u :: v :: u :: st) sh h kc ks) : E M scr Q pc lv (v :: u :: st) sh h kc ks := by
  intro p l e s m args below meth c D cyc A Z n0 b ad0 C adr locs H ls w hl
  exact lv_dup2_11 C.1 C.2.1 hd (by rw [rv_cat]; exact hv) (by rw [rv_cat]; exact hu) (k p l e s m args below meth c D cyc A Z n0 b ad0 C adr locs H ls w hl)
theorem E_null  (hd : decode M.2.1 pc = .ok (.aconst_null, 1)) (k : E M scr Q (pc + 1) lv (.null :: st) sh h kc ks) : E M scr Q pc lv (st) sh h kc ks := by
  intro p l e s m args below meth c D cyc A Z n0 b ad0 C adr locs H ls w hl
  exact lv_null C.1 C.2.1 hd (k p l e s m args below meth c D cyc A Z n0 b ad0 C adr locs H ls w hl)
theorem E_iload_n {n : Fin 4} {x : Int32} (hd : decode M.2.1 pc = .ok (.iload_n n, 1)) (hv : lv[n.val]? = some (some (.int x))) (k : E M scr Q (pc + 1) lv (.int x :: st) sh h kc ks) : E M scr Q pc lv st sh h kc ks := by
  intro p l e s m args below meth c D cyc A Z n0 b ad0 C adr locs H ls w hl
  exact lv_iload_n C.1 C.2.1 hd rfl (hl.2.2 _ _ hv) (k p l e s m args below meth c D cyc A Z n0 b ad0 C adr locs H ls w hl)
theorem E_iload {n : Nat} {x : Int32} (hd : decode M.2.1 pc = .ok (.iload n, 2)) (hv : lv[n]? = some (some (.int x))) (k : E M scr Q (pc + 2) lv (.int x :: st) sh h kc ks) : E M scr Q pc lv st sh h kc ks := by
  intro p l e s m args below meth c D cyc A Z n0 b ad0 C adr locs H ls w hl
  exact lv_iload C.1 C.2.1 hd (hl.2.2 _ _ hv) (k p l e s m args below meth c D cyc A Z n0 b ad0 C adr locs H ls w hl)
theorem E_lload_n {n : Fin 4} {x : Int64} (hd : decode M.2.1 pc = .ok (.lload_n n, 1)) (hv : lv[n.val]? = some (some (.long x))) (k : E M scr Q (pc + 1) lv (.long x :: st) sh h kc ks) : E M scr Q pc lv st sh h kc ks := by
  intro p l e s m args below meth c D cyc A Z n0 b ad0 C adr locs H ls w hl
  exact lv_lload_n C.1 C.2.1 hd rfl (hl.2.2 _ _ hv) (k p l e s m args below meth c D cyc A Z n0 b ad0 C adr locs H ls w hl)
theorem E_lload {n : Nat} {x : Int64} (hd : decode M.2.1 pc = .ok (.lload n, 2)) (hv : lv[n]? = some (some (.long x))) (k : E M scr Q (pc + 2) lv (.long x :: st) sh h kc ks) : E M scr Q pc lv st sh h kc ks := by
  intro p l e s m args below meth c D cyc A Z n0 b ad0 C adr locs H ls w hl
  exact lv_lload C.1 C.2.1 hd (hl.2.2 _ _ hv) (k p l e s m args below meth c D cyc A Z n0 b ad0 C adr locs H ls w hl)
theorem E_aload_n {n : Fin 4} {x : Nat} (hd : decode M.2.1 pc = .ok (.aload_n n, 1)) (hv : lv[n.val]? = some (some (.ref x))) (k : E M scr Q (pc + 1) lv (.ref x :: st) sh h kc ks) : E M scr Q pc lv st sh h kc ks := by
  intro p l e s m args below meth c D cyc A Z n0 b ad0 C adr locs H ls w hl
  exact lv_aload_n C.1 C.2.1 hd rfl (hl.2.2 _ _ hv) (k p l e s m args below meth c D cyc A Z n0 b ad0 C adr locs H ls w hl)
theorem E_aload {n : Nat} {x : Nat} (hd : decode M.2.1 pc = .ok (.aload n, 2)) (hv : lv[n]? = some (some (.ref x))) (k : E M scr Q (pc + 2) lv (.ref x :: st) sh h kc ks) : E M scr Q pc lv st sh h kc ks := by
  intro p l e s m args below meth c D cyc A Z n0 b ad0 C adr locs H ls w hl
  exact lv_aload C.1 C.2.1 hd (hl.2.2 _ _ hv) (k p l e s m args below meth c D cyc A Z n0 b ad0 C adr locs H ls w hl)
theorem E_aload_nN {n : Fin 4} (hd : decode M.2.1 pc = .ok (.aload_n n, 1)) (hv : lv[n.val]? = some (some .null)) (k : E M scr Q (pc + 1) lv (.null :: st) sh h kc ks) : E M scr Q pc lv st sh h kc ks := by
  intro p l e s m args below meth c D cyc A Z n0 b ad0 C adr locs H ls w hl
  exact lv_aload_nN C.1 C.2.1 hd rfl (hl.2.2 _ _ hv) (k p l e s m args below meth c D cyc A Z n0 b ad0 C adr locs H ls w hl)
theorem E_aloadN {n : Nat} (hd : decode M.2.1 pc = .ok (.aload n, 2)) (hv : lv[n]? = some (some .null)) (k : E M scr Q (pc + 2) lv (.null :: st) sh h kc ks) : E M scr Q pc lv st sh h kc ks := by
  intro p l e s m args below meth c D cyc A Z n0 b ad0 C adr locs H ls w hl
  exact lv_aloadN C.1 C.2.1 hd (hl.2.2 _ _ hv) (k p l e s m args below meth c D cyc A Z n0 b ad0 C adr locs H ls w hl)
theorem E_aload_nS {n : Fin 4} (hd : decode M.2.1 pc = .ok (.aload_n n, 1)) (hv : lv[n.val]? = some (some (.retAddr 0))) (k : E M scr Q (pc + 1) lv (.retAddr 0 :: st) sh h kc ks) : E M scr Q pc lv st sh h kc ks := by
  intro p l e s m args below meth c D cyc A Z n0 b ad0 C adr locs H ls w hl
  exact lv_aload_n C.1 C.2.1 hd rfl (hl.2.2 _ _ hv) (k p l e s m args below meth c D cyc A Z n0 b ad0 C adr locs H ls w hl)
theorem E_istore_n {n : Fin 4} {x : Int32} (hd : decode M.2.1 pc = .ok (.istore_n n, 1)) (hn : n.val < M.2.2.1) (k : E M scr Q (pc + 1) (lst1 lv n.val (.int x)) st sh h kc ks) : E M scr Q pc lv (.int x :: st) sh h kc ks := by
  intro p l e s m args below meth c D cyc A Z n0 b ad0 C adr locs H ls w hl
  exact lv_istore_n C.1 C.2.1 hd rfl hl.has hn rfl (fun ls2 h2 => k p l e s m args below meth c D cyc A Z n0 b ad0 C adr locs H ls2 w (Lv.st1 h2))
theorem E_istore {n : Nat} {x : Int32} (hd : decode M.2.1 pc = .ok (.istore n, 2)) (hn : n < M.2.2.1) (k : E M scr Q (pc + 2) (lst1 lv n (.int x)) st sh h kc ks) : E M scr Q pc lv (.int x :: st) sh h kc ks := by
  intro p l e s m args below meth c D cyc A Z n0 b ad0 C adr locs H ls w hl
  exact lv_istore C.1 C.2.1 hd hl.has hn rfl (fun ls2 h2 => k p l e s m args below meth c D cyc A Z n0 b ad0 C adr locs H ls2 w (Lv.st1 h2))
theorem E_lstore_n {n : Fin 4} {x : Int64} (hd : decode M.2.1 pc = .ok (.lstore_n n, 1)) (hn : n.val + 1 < M.2.2.1) (k : E M scr Q (pc + 1) (lst2 lv n.val (.long x)) st sh h kc ks) : E M scr Q pc lv (.long x :: st) sh h kc ks := by
  intro p l e s m args below meth c D cyc A Z n0 b ad0 C adr locs H ls w hl
  exact lv_lstore_n C.1 C.2.1 hd rfl hl.has hn rfl (fun ls2 h2 => k p l e s m args below meth c D cyc A Z n0 b ad0 C adr locs H ls2 w (Lv.st2 h2))
theorem E_lstore {n : Nat} {x : Int64} (hd : decode M.2.1 pc = .ok (.lstore n, 2)) (hn : n + 1 < M.2.2.1) (k : E M scr Q (pc + 2) (lst2 lv n (.long x)) st sh h kc ks) : E M scr Q pc lv (.long x :: st) sh h kc ks := by
  intro p l e s m args below meth c D cyc A Z n0 b ad0 C adr locs H ls w hl
  exact lv_lstore C.1 C.2.1 hd hl.has hn rfl (fun ls2 h2 => k p l e s m args below meth c D cyc A Z n0 b ad0 C adr locs H ls2 w (Lv.st2 h2))
theorem E_astore_n {n : Fin 4} {x : Nat} (hd : decode M.2.1 pc = .ok (.astore_n n, 1)) (hn : n.val < M.2.2.1) (k : E M scr Q (pc + 1) (lst1 lv n.val (.ref x)) st sh h kc ks) : E M scr Q pc lv (.ref x :: st) sh h kc ks := by
  intro p l e s m args below meth c D cyc A Z n0 b ad0 C adr locs H ls w hl
  exact lv_astore_n C.1 C.2.1 hd rfl hl.has hn rfl (fun ls2 h2 => k p l e s m args below meth c D cyc A Z n0 b ad0 C adr locs H ls2 w (Lv.st1 h2))
theorem E_astore {n : Nat} {x : Nat} (hd : decode M.2.1 pc = .ok (.astore n, 2)) (hn : n < M.2.2.1) (k : E M scr Q (pc + 2) (lst1 lv n (.ref x)) st sh h kc ks) : E M scr Q pc lv (.ref x :: st) sh h kc ks := by
  intro p l e s m args below meth c D cyc A Z n0 b ad0 C adr locs H ls w hl
  exact lv_astore C.1 C.2.1 hd hl.has hn rfl (fun ls2 h2 => k p l e s m args below meth c D cyc A Z n0 b ad0 C adr locs H ls2 w (Lv.st1 h2))
theorem E_astore_nN {n : Fin 4} (hd : decode M.2.1 pc = .ok (.astore_n n, 1)) (hn : n.val < M.2.2.1) (k : E M scr Q (pc + 1) (lst1 lv n.val .null) st sh h kc ks) : E M scr Q pc lv (.null :: st) sh h kc ks := by
  intro p l e s m args below meth c D cyc A Z n0 b ad0 C adr locs H ls w hl
  exact lv_astore_nN C.1 C.2.1 hd rfl hl.has hn rfl (fun ls2 h2 => k p l e s m args below meth c D cyc A Z n0 b ad0 C adr locs H ls2 w (Lv.st1 (v := .null) h2))
theorem E_astoreN {n : Nat} (hd : decode M.2.1 pc = .ok (.astore n, 2)) (hn : n < M.2.2.1) (k : E M scr Q (pc + 2) (lst1 lv n .null) st sh h kc ks) : E M scr Q pc lv (.null :: st) sh h kc ks := by
  intro p l e s m args below meth c D cyc A Z n0 b ad0 C adr locs H ls w hl
  exact lv_astoreN C.1 C.2.1 hd hl.has hn rfl (fun ls2 h2 => k p l e s m args below meth c D cyc A Z n0 b ad0 C adr locs H ls2 w (Lv.st1 (v := .null) h2))
theorem E_iinc {n : Nat} {z : Int} {x : Int32} (hd : decode M.2.1 pc = .ok (.iinc n z, 3)) (hv : lv[n]? = some (some (.int x))) (hn : n < M.2.2.1) (k : E M scr Q (pc + 3) (lst1 lv n (.int (x + Int32.ofInt z))) st sh h kc ks) : E M scr Q pc lv st sh h kc ks := by
  intro p l e s m args below meth c D cyc A Z n0 b ad0 C adr locs H ls w hl
  obtain ⟨i, hi⟩ := List.getElem?_of_mem (lvp_in (b := b) (adr := adr) hv)
  exact lv_iinc C.1 C.2.1 hd hl.has hi rfl hn rfl (fun ls2 h2 => k p l e s m args below meth c D cyc A Z n0 b ad0 C adr locs H ls2 w (Lv.st1 (v := .int (x + Int32.ofInt z)) h2))
theorem E_if_eq {x : Int32} {off : Int} (tgt : Nat) (hd : decode M.2.1 pc = .ok (.ifCond .eq off, 3)) (ht : (pc : Int) + off = (tgt : Int)) (k1 : x = 0 → E M scr Q tgt lv st sh h kc ks) (k2 : ¬ x = 0 → E M scr Q (pc + 3) lv st sh h kc ks) : E M scr Q pc lv (.int x :: st) sh h kc ks := by
  intro p l e s m args below meth c D cyc A Z n0 b ad0 C adr locs H ls w hl
  exact lv_if_eq C.1 C.2.1 hd ht (fun q => k1 q p l e s m args below meth c D cyc A Z n0 b ad0 C adr locs H ls w hl) (fun q => k2 q p l e s m args below meth c D cyc A Z n0 b ad0 C adr locs H ls w hl)
theorem E_icmp_eq {x y : Int32} {off : Int} (tgt : Nat) (hd : decode M.2.1 pc = .ok (.if_icmp .eq off, 3)) (ht : (pc : Int) + off = (tgt : Int)) (k1 : x = y → E M scr Q tgt lv st sh h kc ks) (k2 : ¬ x = y → E M scr Q (pc + 3) lv st sh h kc ks) : E M scr Q pc lv (.int y :: .int x :: st) sh h kc ks := by
  intro p l e s m args below meth c D cyc A Z n0 b ad0 C adr locs H ls w hl
  exact lv_icmp_eq C.1 C.2.1 hd ht (fun q => k1 q p l e s m args below meth c D cyc A Z n0 b ad0 C adr locs H ls w hl) (fun q => k2 q p l e s m args below meth c D cyc A Z n0 b ad0 C adr locs H ls w hl)
theorem E_if_ne {x : Int32} {off : Int} (tgt : Nat) (hd : decode M.2.1 pc = .ok (.ifCond .ne off, 3)) (ht : (pc : Int) + off = (tgt : Int)) (k1 : ¬ x = 0 → E M scr Q tgt lv st sh h kc ks) (k2 : x = 0 → E M scr Q (pc + 3) lv st sh h kc ks) : E M scr Q pc lv (.int x :: st) sh h kc ks := by
  intro p l e s m args below meth c D cyc A Z n0 b ad0 C adr locs H ls w hl
  exact lv_if_ne C.1 C.2.1 hd ht (fun q => k1 q p l e s m args below meth c D cyc A Z n0 b ad0 C adr locs H ls w hl) (fun q => k2 q p l e s m args below meth c D cyc A Z n0 b ad0 C adr locs H ls w hl)
theorem E_icmp_ne {x y : Int32} {off : Int} (tgt : Nat) (hd : decode M.2.1 pc = .ok (.if_icmp .ne off, 3)) (ht : (pc : Int) + off = (tgt : Int)) (k1 : ¬ x = y → E M scr Q tgt lv st sh h kc ks) (k2 : x = y → E M scr Q (pc + 3) lv st sh h kc ks) : E M scr Q pc lv (.int y :: .int x :: st) sh h kc ks := by
  intro p l e s m args below meth c D cyc A Z n0 b ad0 C adr locs H ls w hl
  exact lv_icmp_ne C.1 C.2.1 hd ht (fun q => k1 q p l e s m args below meth c D cyc A Z n0 b ad0 C adr locs H ls w hl) (fun q => k2 q p l e s m args below meth c D cyc A Z n0 b ad0 C adr locs H ls w hl)
theorem E_if_lt {x : Int32} {off : Int} (tgt : Nat) (hd : decode M.2.1 pc = .ok (.ifCond .lt off, 3)) (ht : (pc : Int) + off = (tgt : Int)) (k1 : x < 0 → E M scr Q tgt lv st sh h kc ks) (k2 : ¬ x < 0 → E M scr Q (pc + 3) lv st sh h kc ks) : E M scr Q pc lv (.int x :: st) sh h kc ks := by
  intro p l e s m args below meth c D cyc A Z n0 b ad0 C adr locs H ls w hl
  exact lv_if_lt C.1 C.2.1 hd ht (fun q => k1 q p l e s m args below meth c D cyc A Z n0 b ad0 C adr locs H ls w hl) (fun q => k2 q p l e s m args below meth c D cyc A Z n0 b ad0 C adr locs H ls w hl)
theorem E_icmp_lt {x y : Int32} {off : Int} (tgt : Nat) (hd : decode M.2.1 pc = .ok (.if_icmp .lt off, 3)) (ht : (pc : Int) + off = (tgt : Int)) (k1 : x < y → E M scr Q tgt lv st sh h kc ks) (k2 : ¬ x < y → E M scr Q (pc + 3) lv st sh h kc ks) : E M scr Q pc lv (.int y :: .int x :: st) sh h kc ks := by
  intro p l e s m args below meth c D cyc A Z n0 b ad0 C adr locs H ls w hl
  exact lv_icmp_lt C.1 C.2.1 hd ht (fun q => k1 q p l e s m args below meth c D cyc A Z n0 b ad0 C adr locs H ls w hl) (fun q => k2 q p l e s m args below meth c D cyc A Z n0 b ad0 C adr locs H ls w hl)
theorem E_if_ge {x : Int32} {off : Int} (tgt : Nat) (hd : decode M.2.1 pc = .ok (.ifCond .ge off, 3)) (ht : (pc : Int) + off = (tgt : Int)) (k1 : 0 ≤ x → E M scr Q tgt lv st sh h kc ks) (k2 : ¬ 0 ≤ x → E M scr Q (pc + 3) lv st sh h kc ks) : E M scr Q pc lv (.int x :: st) sh h kc ks := by
  intro p l e s m args below meth c D cyc A Z n0 b ad0 C adr locs H ls w hl
  exact lv_if_ge C.1 C.2.1 hd ht (fun q => k1 q p l e s m args below meth c D cyc A Z n0 b ad0 C adr locs H ls w hl) (fun q => k2 q p l e s m args below meth c D cyc A Z n0 b ad0 C adr locs H ls w hl)
theorem E_icmp_ge {x y : Int32} {off : Int} (tgt : Nat) (hd : decode M.2.1 pc = .ok (.if_icmp .ge off, 3)) (ht : (pc : Int) + off = (tgt : Int)) (k1 : y ≤ x → E M scr Q tgt lv st sh h kc ks) (k2 : ¬ y ≤ x → E M scr Q (pc + 3) lv st sh h kc ks) : E M scr Q pc lv (.int y :: .int x :: st) sh h kc ks := by
  intro p l e s m args below meth c D cyc A Z n0 b ad0 C adr locs H ls w hl
  exact lv_icmp_ge C.1 C.2.1 hd ht (fun q => k1 q p l e s m args below meth c D cyc A Z n0 b ad0 C adr locs H ls w hl) (fun q => k2 q p l e s m args below meth c D cyc A Z n0 b ad0 C adr locs H ls w hl)
theorem E_if_gt {x : Int32} {off : Int} (tgt : Nat) (hd : decode M.2.1 pc = .ok (.ifCond .gt off, 3)) (ht : (pc : Int) + off = (tgt : Int)) (k1 : 0 < x → E M scr Q tgt lv st sh h kc ks) (k2 : ¬ 0 < x → E M scr Q (pc + 3) lv st sh h kc ks) : E M scr Q pc lv (.int x :: st) sh h kc ks := by
  intro p l e s m args below meth c D cyc A Z n0 b ad0 C adr locs H ls w hl
  exact lv_if_gt C.1 C.2.1 hd ht (fun q => k1 q p l e s m args below meth c D cyc A Z n0 b ad0 C adr locs H ls w hl) (fun q => k2 q p l e s m args below meth c D cyc A Z n0 b ad0 C adr locs H ls w hl)
theorem E_icmp_gt {x y : Int32} {off : Int} (tgt : Nat) (hd : decode M.2.1 pc = .ok (.if_icmp .gt off, 3)) (ht : (pc : Int) + off = (tgt : Int)) (k1 : y < x → E M scr Q tgt lv st sh h kc ks) (k2 : ¬ y < x → E M scr Q (pc + 3) lv st sh h kc ks) : E M scr Q pc lv (.int y :: .int x :: st) sh h kc ks := by
  intro p l e s m args below meth c D cyc A Z n0 b ad0 C adr locs H ls w hl
  exact lv_icmp_gt C.1 C.2.1 hd ht (fun q => k1 q p l e s m args below meth c D cyc A Z n0 b ad0 C adr locs H ls w hl) (fun q => k2 q p l e s m args below meth c D cyc A Z n0 b ad0 C adr locs H ls w hl)
theorem E_if_le {x : Int32} {off : Int} (tgt : Nat) (hd : decode M.2.1 pc = .ok (.ifCond .le off, 3)) (ht : (pc : Int) + off = (tgt : Int)) (k1 : x ≤ 0 → E M scr Q tgt lv st sh h kc ks) (k2 : ¬ x ≤ 0 → E M scr Q (pc + 3) lv st sh h kc ks) : E M scr Q pc lv (.int x :: st) sh h kc ks := by
  intro p l e s m args below meth c D cyc A Z n0 b ad0 C adr locs H ls w hl
  exact lv_if_le C.1 C.2.1 hd ht (fun q => k1 q p l e s m args below meth c D cyc A Z n0 b ad0 C adr locs H ls w hl) (fun q => k2 q p l e s m args below meth c D cyc A Z n0 b ad0 C adr locs H ls w hl)
theorem E_icmp_le {x y : Int32} {off : Int} (tgt : Nat) (hd : decode M.2.1 pc = .ok (.if_icmp .le off, 3)) (ht : (pc : Int) + off = (tgt : Int)) (k1 : x ≤ y → E M scr Q tgt lv st sh h kc ks) (k2 : ¬ x ≤ y → E M scr Q (pc + 3) lv st sh h kc ks) : E M scr Q pc lv (.int y :: .int x :: st) sh h kc ks := by
  intro p l e s m args below meth c D cyc A Z n0 b ad0 C adr locs H ls w hl
  exact lv_icmp_le C.1 C.2.1 hd ht (fun q => k1 q p l e s m args below meth c D cyc A Z n0 b ad0 C adr locs H ls w hl) (fun q => k2 q p l e s m args below meth c D cyc A Z n0 b ad0 C adr locs H ls w hl)
theorem E_goto {off : Int} (tgt : Nat) (hd : decode M.2.1 pc = .ok (.goto off, 3)) (ht : (pc : Int) + off = (tgt : Int)) (k : E M scr Q tgt lv st sh h kc ks) : E M scr Q pc lv st sh h kc ks := by
  intro p l e s m args below meth c D cyc A Z n0 b ad0 C adr locs H ls w hl
  exact lv_goto C.1 C.2.1 hd ht (k p l e s m args below meth c D cyc A Z n0 b ad0 C adr locs H ls w hl)
theorem E_ifnull {x : Nat} {off : Int} (hd : decode M.2.1 pc = .ok (.ifnull off, 3)) (k : E M scr Q (pc + 3) lv st sh h kc ks) : E M scr Q pc lv (.ref x :: st) sh h kc ks := by
  intro p l e s m args below meth c D cyc A Z n0 b ad0 C adr locs H ls w hl
  exact lv_ifnull C.1 C.2.1 hd (k p l e s m args below meth c D cyc A Z n0 b ad0 C adr locs H ls w hl)
theorem E_ifnullN {off : Int} (tgt : Nat) (hd : decode M.2.1 pc = .ok (.ifnull off, 3)) (ht : (pc : Int) + off = (tgt : Int)) (k : E M scr Q tgt lv st sh h kc ks) : E M scr Q pc lv (.null :: st) sh h kc ks := by
  intro p l e s m args below meth c D cyc A Z n0 b ad0 C adr locs H ls w hl
  exact lv_ifnullN C.1 C.2.1 hd ht (k p l e s m args below meth c D cyc A Z n0 b ad0 C adr locs H ls w hl)
theorem E_ifnonnull {x : Nat} {off : Int} (tgt : Nat) (hd : decode M.2.1 pc = .ok (.ifnonnull off, 3)) (ht : (pc : Int) + off = (tgt : Int)) (k : E M scr Q tgt lv st sh h kc ks) : E M scr Q pc lv (.ref x :: st) sh h kc ks := by
  intro p l e s m args below meth c D cyc A Z n0 b ad0 C adr locs H ls w hl
  exact lv_ifnonnull C.1 C.2.1 hd ht (k p l e s m args below meth c D cyc A Z n0 b ad0 C adr locs H ls w hl)
theorem E_ifnonnullN {off : Int} (hd : decode M.2.1 pc = .ok (.ifnonnull off, 3)) (k : E M scr Q (pc + 3) lv st sh h kc ks) : E M scr Q pc lv (.null :: st) sh h kc ks := by
  intro p l e s m args below meth c D cyc A Z n0 b ad0 C adr locs H ls w hl
  exact lv_ifnonnullN C.1 C.2.1 hd (k p l e s m args below meth c D cyc A Z n0 b ad0 C adr locs H ls w hl)
theorem E_tabIn {x : Int32} {df lo hi : Int} {offs : Array Int} {len : Nat} {off : Int} (tgt : Nat) (hd : decode M.2.1 pc = .ok (.tableswitch df lo hi offs, len)) (h1 : ¬ x.toInt < lo) (h2 : ¬ hi < x.toInt) (ho : offs[(x.toInt - lo).toNat]? = some off) (ht : (pc : Int) + off = (tgt : Int)) (k : E M scr Q tgt lv st sh h kc ks) : E M scr Q pc lv (.int x :: st) sh h kc ks := by
  intro p l e s m args below meth c D cyc A Z n0 b ad0 C adr locs H ls w hl
  exact lv_tableIn C.1 C.2.1 hd h1 h2 ho ht (k p l e s m args below meth c D cyc A Z n0 b ad0 C adr locs H ls w hl)
theorem E_tabOut {x : Int32} {df lo hi : Int} {offs : Array Int} {len : Nat} (tgt : Nat) (hd : decode M.2.1 pc = .ok (.tableswitch df lo hi offs, len)) (h1 : x.toInt < lo ∨ hi < x.toInt) (ht : (pc : Int) + df = (tgt : Int)) (k : E M scr Q tgt lv st sh h kc ks) : E M scr Q pc lv (.int x :: st) sh h kc ks := by
  intro p l e s m args below meth c D cyc A Z n0 b ad0 C adr locs H ls w hl
  exact lv_tableOut C.1 C.2.1 hd h1 ht (k p l e s m args below meth c D cyc A Z n0 b ad0 C adr locs H ls w hl)
theorem E_ret (v : Option Value) {i : Instr} (hd : decode M.2.1 pc = .ok (i, 1)) (hr : RtOk M.2.2.2.1 v i) (hs : v.toList = st) (hc : kc ≤ M.2.2.2.2.cells) (hk : ks ≤ M.2.2.2.2.slots) (hq : Q v sh h) : E M scr Q pc lv st sh h kc ks := by
  intro p l e s m args below meth c D cyc A Z n0 b ad0 C adr locs H ls w hl
  subst hs
  exact W.widen hc hk (C.2.2.2.2.2.2.2.2.2.2.2 v i sh h adr H locs pc ls hq w hr hd)
theorem E_lv (lv' : List (Option Value)) (hl' : ∀ (i : Nat) (v : Value), lv'[i]? = some (some v) → lv[i]? = some (some v)) (k : E M scr Q pc lv' st sh h kc ks) : E M scr Q pc lv st sh h kc ks := by
  intro p l e s m args below meth c D cyc A Z n0 b ad0 C adr locs H ls w hl
  exact k p l e s m args below meth c D cyc A Z n0 b ad0 C adr locs H ls w ⟨hl.1, hl.2.1, fun i v q => hl.2.2 i v (hl' i v q)⟩
theorem E_heap {h' : Hp} (e : h = h') (k : E M scr Q pc lv st sh h' kc ks) : E M scr Q pc lv st sh h kc ks := e ▸ k
theorem E_st {st' : List Value} (e : st = st') (k : E M scr Q pc lv st' sh h kc ks) : E M scr Q pc lv st sh h kc ks := e ▸ k
end ER
