/-! fields, arrays, new cells, calls -/
def FL (own : String) (idx ci k : Nat) (fin : Bool) : Prop := ∃ (C : String) (T : u_T), vwCl[ci]? = some (C, T, nfC ci) ∧ k < nfC ci ∧ (∀ w ∈ u_ws C T (nfC ci), w ∈ mGood) ∧ (∀ k, k < nfC ci → parseFieldDescriptor (T k).2.2.1 = some (tyC ci k)) ∧ (∀ a, a < nfC ci → ∀ b, b < nfC ci → a ≠ b → (T a).2.1 ≠ (T b).2.1) ∧ (T k).2.2.2 = fin ∧ (T k).1 = C ∧ ((Cond.fieldLink own idx (T k).1 (T k).2.1 (T k).2.2.1 ∈ mGood) ∨ ∃ host, Cond.fieldLinkNest own idx (T k).1 (T k).2.1 (T k).2.2.1 host ∈ mNest)
def gv (h : Hp) (a : Nat) (ty : FieldType) (k : Nat) : Value := match ty with
  | .long => .long (h.2.1 a k)
  | .object _ => va_rf (h.2.2 a k)
  | .array _ => va_rf (h.2.2 a k)
  | _ => .int (h.1 a k)
theorem gv_rv (b : Nat) (adr : Nat → Nat) (h : Hp) (a : Nat) (ty : FieldType) (k : Nat) : rv b adr (gv h a ty k) = fv adr h a ty k := by
  cases ty <;> first | rfl | exact (rv_rf b adr _).symm
theorem fs_at {adr : Nat → Nat} {h : Hp} {a ci k : Nat} (hk : k < nfC ci) : ((List.range (nfC ci)).map (fun j => fv adr h a (tyC ci j) j))[k]? = some (fv adr h a (tyC ci k) k) := by
  simp [hk]
theorem fs_set {adr : Nat → Nat} {h h' : Hp} {a ci k : Nat} {v : Value} (hv : fv adr h' a (tyC ci k) k = v) (ho : ∀ j, j ≠ k → fv adr h' a (tyC ci j) j = fv adr h a (tyC ci j) j) : ((List.range (nfC ci)).map (fun j => fv adr h a (tyC ci j) j)).set k v = (List.range (nfC ci)).map (fun j => fv adr h' a (tyC ci j) j) := by
  apply List.ext_getElem?
  intro i
  rw [List.getElem?_set]
  by_cases hi : k = i
  · subst hi
    by_cases hl : k < nfC ci
    · simp [hl, hv]
    · simp [hl]
  · simp only [hi]
    by_cases hl : i < nfC ci
    · simp [hl, ho i (fun q => hi q.symm)]
    · simp [hl]
def FF (own : String) (idx ci k : Nat) : Prop := ∃ (C : String) (T : u_T), vwCl[ci]? = some (C, T, nfC ci) ∧ k < nfC ci ∧ (∀ w ∈ u_ws C T (nfC ci), w ∈ mGood) ∧ (∀ k, k < nfC ci → parseFieldDescriptor (T k).2.2.1 = some (tyC ci k)) ∧ (∀ a, a < nfC ci → ∀ b, b < nfC ci → a ≠ b → (T a).2.1 ≠ (T b).2.1) ∧ (T k).2.2.2 = true ∧ (T k).1 = own ∧ Cond.fieldLink own idx (T k).1 (T k).2.1 (T k).2.2.1 ∈ mGood
theorem NoD_sR {sh : List Sh} {h : Hp} {a k x : Nat} (hx : x < sh.length) (hn : NoD sh h) : NoD sh (sR h a k (some x)) := by
  intro j i y hy
  by_cases hq : j = a ∧ i = k
  · simp [sR, u2, hq] at hy
    omega
  · simp [sR, u2, hq] at hy
    exact hn j i y hy
section EH
variable {M : MI} {scr : Option (Nat × (Nat → Int32))} {Q : QT} {pc : Nat} {lv : List (Option Value)} {st : List Value} {sh : List Sh} {h : Hp} {kc ks : Nat}
theorem E_get {a ci k idx : Nat} {fin : Bool} (v : Value) (hd : decode M.2.1 pc = .ok (.getfield idx, 3)) (f : FL M.1.cls idx ci k fin) (hs : sh[a]? = some (.inr ci)) (hv : gv h a (tyC ci k) k = v) (kk : E M scr Q (pc + 3) lv (v :: st) sh h kc ks) : E M scr Q pc lv (.ref a :: st) sh h kc ks := by
  intro p l e s m args below meth c D cyc A Z n0 b ad0 C adr locs H ls w hl
  subst hv
  obtain ⟨C', T, hc, hk, hin, hty, hnm, hfin, hcl, hlink⟩ := f
  have h9 := kk p l e s m args below meth c D cyc A Z n0 b ad0 C adr locs H ls w hl
  rw [List.map_cons, gv_rv] at h9
  rcases hlink with hlink | ⟨host, hlink⟩
  · exact va_get C.1 C.2.1 C.2.2.2.2.1 hin C.2.2.2.1 C.2.2.2.2.2.2.2.2.2.1 w.1 a (wsl_at hs) hc k hk (C.2.2.2.2.1 _ hlink) (fun _ q => q) (fs_at hk) hd h9
  · exact va_getN C.1 C.2.1 C.2.2.2.2.1 hin C.2.2.2.1 C.2.2.2.2.2.2.2.2.2.1 w.1 a (wsl_at hs) hc k hk (va_Nw.use (by rfl) (C.2.2.2.2.2.1 _ hlink)) (fun _ q => q) (fs_at hk) hd h9
theorem E_getI {a ci k idx : Nat} {fin : Bool} (hd : decode M.2.1 pc = .ok (.getfield idx, 3)) (f : FL M.1.cls idx ci k fin) (hs : sh[a]? = some (.inr ci)) (hv : gv h a (tyC ci k) k = .int (h.1 a k)) (kk : E M scr Q (pc + 3) lv (.int (h.1 a k) :: st) sh h kc ks) : E M scr Q pc lv (.ref a :: st) sh h kc ks := E_get _ hd f hs hv kk
theorem E_getL {a ci k idx : Nat} {fin : Bool} (hd : decode M.2.1 pc = .ok (.getfield idx, 3)) (f : FL M.1.cls idx ci k fin) (hs : sh[a]? = some (.inr ci)) (hv : gv h a (tyC ci k) k = .long (h.2.1 a k)) (kk : E M scr Q (pc + 3) lv (.long (h.2.1 a k) :: st) sh h kc ks) : E M scr Q pc lv (.ref a :: st) sh h kc ks := E_get _ hd f hs hv kk
theorem E_getR {a ci k idx x : Nat} {fin : Bool} (hd : decode M.2.1 pc = .ok (.getfield idx, 3)) (f : FL M.1.cls idx ci k fin) (hs : sh[a]? = some (.inr ci)) (hr : h.2.2 a k = some x) (hv : gv h a (tyC ci k) k = va_rf (h.2.2 a k)) (kk : E M scr Q (pc + 3) lv (.ref x :: st) sh h kc ks) : E M scr Q pc lv (.ref a :: st) sh h kc ks := E_get _ hd f hs (by rw [hv, hr]; rfl) kk
/-- a field is written: v the value, h2 the store behind it -/
theorem E_put {a ci k idx : Nat} {v : Value} {h2 : Hp} (hd : decode M.2.1 pc = .ok (.putfield idx, 3)) (f : FL M.1.cls idx ci k false) (hs : sh[a]? = some (.inr ci)) (hn : ∀ b adr, narrow (tyC ci k) (rv b adr v) = rv b adr v) (hfit : ∀ b adr, fits (tyC ci k) (rv b adr v) = true) (hv : ∀ b adr, fv adr h2 a (tyC ci k) k = rv b adr v) (ho : ∀ adr j, j ≠ k → fv adr h2 a (tyC ci j) j = fv adr h a (tyC ci j) j) (hc2 : ∀ cyc adr j t, j ≠ a → cel cyc adr h2 j t = cel cyc adr h j t) (hnd : NoD sh h → NoD sh h2) (kk : E M scr Q (pc + 3) lv st sh h2 kc ks) : E M scr Q pc lv (v :: .ref a :: st) sh h kc ks := by
  intro p l e s m args below meth c D cyc A Z n0 b ad0 C adr locs H ls w hl
  obtain ⟨C', T, hc, hk, hin, hty, hnm, hfin, hcl, hlink⟩ := f
  have hw : (wsl cyc adr h sh).set a (adr a, .inr (ci, ((List.range (nfC ci)).map (fun j => fv adr h a (tyC ci j) j)).set k (rv b adr v))) = wsl cyc adr h2 sh := wsl_set hs (by show Sum.inr (ci, _) = _; rw [fs_set (hv b adr) (ho adr)]) (hc2 cyc adr)
  have hlen : k < ((List.range (nfC ci)).map (fun j => fv adr h a (tyC ci j) j)).length := by simp [hk]
  rcases hlink with hlink | ⟨host, hlink⟩
  · refine va_put C.1 C.2.1 C.2.2.2.2.1 hin (tyC ci) hty hnm C.2.2.2.1 C.2.2.2.2.2.2.2.2.2.1 w.1 w.2.1 w.2.2.1 a (wsl_at hs) hc k hk (C.2.2.2.2.1 _ hlink) (fun _ q => q) hfin (hty k hk) (hn b adr) (hfit b adr) hlen hd (fun H1 locs1 g1 g2 g3 => ?_)
    rw [hw] at g1 g2
    exact kk p l e s m args below meth c D cyc A Z n0 b ad0 C adr locs1 H1 ls ⟨g1, g2, g3, w.2.2.2.1, w.2.2.2.2.1, w.2.2.2.2.2.1, hnd w.2.2.2.2.2.2⟩ hl
  · refine va_putN C.1 C.2.1 C.2.2.2.2.1 hin (tyC ci) hty hnm C.2.2.2.1 C.2.2.2.2.2.2.2.2.2.1 w.1 w.2.1 w.2.2.1 a (wsl_at hs) hc k hk (va_Nw.use (by rfl) (C.2.2.2.2.2.1 _ hlink)) (fun _ q => q) hfin (hty k hk) (hn b adr) (hfit b adr) hlen hd (fun H1 locs1 g1 g2 g3 => ?_)
    rw [hw] at g1 g2
    exact kk p l e s m args below meth c D cyc A Z n0 b ad0 C adr locs1 H1 ls ⟨g1, g2, g3, w.2.2.2.1, w.2.2.2.2.1, w.2.2.2.2.2.1, hnd w.2.2.2.2.2.2⟩ hl
theorem fv_oI {h : Hp} {a k : Nat} {x : Int32} (adr : Nat → Nat) (ci j : Nat) (hj : j ≠ k) : fv adr (sI h a k x) a (tyC ci j) j = fv adr h a (tyC ci j) j := by
  generalize tyC ci j = ty
  cases ty <;> simp [fv, sI, u2, hj]
theorem fv_oL {h : Hp} {a k : Nat} {x : Int64} (adr : Nat → Nat) (ci j : Nat) (hj : j ≠ k) : fv adr (sL h a k x) a (tyC ci j) j = fv adr h a (tyC ci j) j := by
  generalize tyC ci j = ty
  cases ty <;> simp [fv, sL, u2, hj]
theorem fv_oR {h : Hp} {a k : Nat} {x : Option Nat} (adr : Nat → Nat) (ci j : Nat) (hj : j ≠ k) : fv adr (sR h a k x) a (tyC ci j) j = fv adr h a (tyC ci j) j := by
  generalize tyC ci j = ty
  cases ty <;> simp [fv, sR, u2, hj]
theorem E_putI {a ci k idx : Nat} {x : Int32} (hd : decode M.2.1 pc = .ok (.putfield idx, 3)) (f : FL M.1.cls idx ci k false) (hs : sh[a]? = some (.inr ci)) (ht : tyC ci k = .int) (kk : E M scr Q (pc + 3) lv st sh (sI h a k x) kc ks) : E M scr Q pc lv (.int x :: .ref a :: st) sh h kc ks :=
  E_put hd f hs (fun _ _ => by rw [ht]; rfl) (fun _ _ => by rw [ht]; rfl) (fun _ _ => by rw [ht]; simp [fv, sI, u2, rv]) (fun adr j hj => fv_oI adr ci j hj) (fun cyc adr j t hj => cel_oI cyc adr h a k x j t hj) (fun q => q) kk
theorem E_putZ {a ci k idx : Nat} {x : Int32} (hd : decode M.2.1 pc = .ok (.putfield idx, 3)) (f : FL M.1.cls idx ci k false) (hs : sh[a]? = some (.inr ci)) (ht : tyC ci k = .boolean) (hx : x = 0 ∨ x = 1) (kk : E M scr Q (pc + 3) lv st sh (sI h a k x) kc ks) : E M scr Q pc lv (.int x :: .ref a :: st) sh h kc ks :=
  E_put hd f hs (fun _ _ => by rw [ht]; rcases hx with rfl | rfl <;> rfl) (fun _ _ => by rw [ht]; rcases hx with rfl | rfl <;> rfl) (fun _ _ => by rw [ht]; simp [fv, sI, u2, rv]) (fun adr j hj => fv_oI adr ci j hj) (fun cyc adr j t hj => cel_oI cyc adr h a k x j t hj) (fun q => q) kk
theorem E_putL {a ci k idx : Nat} {x : Int64} (hd : decode M.2.1 pc = .ok (.putfield idx, 3)) (f : FL M.1.cls idx ci k false) (hs : sh[a]? = some (.inr ci)) (ht : tyC ci k = .long) (kk : E M scr Q (pc + 3) lv st sh (sL h a k x) kc ks) : E M scr Q pc lv (.long x :: .ref a :: st) sh h kc ks :=
  E_put hd f hs (fun _ _ => by rw [ht]; rfl) (fun _ _ => by rw [ht]; rfl) (fun _ _ => by rw [ht]; simp [fv, sL, u2, rv]) (fun adr j hj => fv_oL adr ci j hj) (fun cyc adr j t hj => cel_oL cyc adr h a k x j t hj) (fun q => q) kk
theorem E_putR {a ci k idx x : Nat} {cn : String} (hd : decode M.2.1 pc = .ok (.putfield idx, 3)) (f : FL M.1.cls idx ci k false) (hs : sh[a]? = some (.inr ci)) (ht : tyC ci k = .object cn) (hx : x < sh.length) (kk : E M scr Q (pc + 3) lv st sh (sR h a k (some x)) kc ks) : E M scr Q pc lv (.ref x :: .ref a :: st) sh h kc ks :=
  E_put hd f hs (fun _ _ => by rw [ht]; rfl) (fun _ _ => by rw [ht]; rfl) (fun _ _ => by rw [ht]; simp [fv, sR, u2, rv, va_rf]) (fun adr j hj => fv_oR adr ci j hj) (fun cyc adr j t hj => cel_oR cyc adr h a k (some x) j t hj) (NoD_sR hx) kk
/-- a final field, in a constructor of its own -/
theorem E_putF {a ci k idx x : Nat} (hd : decode M.2.1 pc = .ok (.putfield idx, 3)) (f : FF M.1.cls idx ci k) (hs : sh[a]? = some (.inr ci)) (hi : M.1.name = "<init>") (hx : x < sh.length) (ht : (∃ cn, tyC ci k = .object cn) ∨ ∃ t, tyC ci k = .array t) (kk : E M scr Q (pc + 3) lv st sh (sR h a k (some x)) kc ks) : E M scr Q pc lv (.ref x :: .ref a :: st) sh h kc ks := by
  intro p l e s m args below meth c D cyc A Z n0 b ad0 C adr locs H ls w hl
  obtain ⟨C', T, hc, hk, hin, hty, hnm, hfin, hcl, hlink⟩ := f
  have hn : narrow (tyC ci k) (.ref (adr x)) = .ref (adr x) := by rcases ht with ⟨z, ht⟩ | ⟨z, ht⟩ <;> rw [ht] <;> rfl
  have hfit : fits (tyC ci k) (.ref (adr x)) = true := by rcases ht with ⟨z, ht⟩ | ⟨z, ht⟩ <;> rw [ht] <;> rfl
  have hv : fv adr (sR h a k (some x)) a (tyC ci k) k = rv b adr (.ref x) := by rcases ht with ⟨z, ht⟩ | ⟨z, ht⟩ <;> rw [ht] <;> simp [fv, sR, u2, va_rf, rv]
  have hw : (wsl cyc adr h sh).set a (adr a, .inr (ci, ((List.range (nfC ci)).map (fun j => fv adr h a (tyC ci j) j)).set k (rv b adr (.ref x)))) = wsl cyc adr (sR h a k (some x)) sh := wsl_set hs (by show Sum.inr (ci, _) = _; rw [fs_set hv (fun j hj => fv_oR adr ci j hj)]) (fun j t hj => cel_oR cyc adr h a k (some x) j t hj)
  have hlen : k < ((List.range (nfC ci)).map (fun j => fv adr h a (tyC ci j) j)).length := by simp [hk]
  refine va_putF C.1 C.2.1 C.2.2.2.2.1 hin (tyC ci) hty hnm C.2.2.2.1 C.2.2.2.2.2.2.2.2.2.1 w.1 w.2.1 w.2.2.1 a (wsl_at hs) hc k hk (C.2.2.2.2.1 _ hlink) (fun _ q => q) hfin (C.2.2.2.2.2.2.2.1.trans hi) hcl (hty k hk) hn hfit hlen hd (fun H1 locs1 g1 g2 g3 => ?_)
  rw [hw] at g1 g2
  exact kk p l e s m args below meth c D cyc A Z n0 b ad0 C adr locs1 H1 ls ⟨g1, g2, g3, w.2.2.2.1, w.2.2.2.2.1, w.2.2.2.2.2.1, NoD_sR hx w.2.2.2.2.2.2⟩ hl
/-! arrays -/
theorem E_iald {a n : Nat} {i : Int32} (hd : decode M.2.1 pc = .ok (.iaload, 1)) (hs : sh[a]? = some (.inl (.int, n))) (hin : vp_in i n) (kk : E M scr Q (pc + 1) lv (.int (h.1 a i.toNatClampNeg) :: st) sh h kc ks) : E M scr Q pc lv (.int i :: .ref a :: st) sh h kc ks := by
  intro p l e s m args below meth c D cyc A Z n0 b ad0 C adr locs H ls w hl
  exact va_iald C.1 C.2.1 C.2.2.2.2.2.2.2.2.2.1 w.1 a 1 (wsl_at hs) rfl hin hd (kk p l e s m args below meth c D cyc A Z n0 b ad0 C adr locs H ls w hl)
theorem E_bald {a n : Nat} {i : Int32} (hd : decode M.2.1 pc = .ok (.baload, 1)) (hs : sh[a]? = some (.inl (.byte, n))) (hin : vp_in i n) (kk : E M scr Q (pc + 1) lv (.int (h.1 a i.toNatClampNeg) :: st) sh h kc ks) : E M scr Q pc lv (.int i :: .ref a :: st) sh h kc ks := by
  intro p l e s m args below meth c D cyc A Z n0 b ad0 C adr locs H ls w hl
  exact va_bald C.1 C.2.1 C.2.2.2.2.2.2.2.2.2.1 w.1 a 0 (wsl_at hs) rfl hin hd (kk p l e s m args below meth c D cyc A Z n0 b ad0 C adr locs H ls w hl)
theorem E_zald {a n : Nat} {i : Int32} (hd : decode M.2.1 pc = .ok (.baload, 1)) (hs : sh[a]? = some (.inl (.boolean, n))) (hin : vp_in i n) (kk : E M scr Q (pc + 1) lv (.int (h.1 a i.toNatClampNeg) :: st) sh h kc ks) : E M scr Q pc lv (.int i :: .ref a :: st) sh h kc ks := by
  intro p l e s m args below meth c D cyc A Z n0 b ad0 C adr locs H ls w hl
  exact va_zald C.1 C.2.1 C.2.2.2.2.2.2.2.2.2.1 w.1 a 3 (wsl_at hs) rfl hin hd (kk p l e s m args below meth c D cyc A Z n0 b ad0 C adr locs H ls w hl)
theorem E_lald {a n : Nat} {i : Int32} (hd : decode M.2.1 pc = .ok (.laload, 1)) (hs : sh[a]? = some (.inl (.long, n))) (hin : vp_in i n) (kk : E M scr Q (pc + 1) lv (.long (h.2.1 a i.toNatClampNeg) :: st) sh h kc ks) : E M scr Q pc lv (.int i :: .ref a :: st) sh h kc ks := by
  intro p l e s m args below meth c D cyc A Z n0 b ad0 C adr locs H ls w hl
  exact va_lald C.1 C.2.1 C.2.2.2.2.2.2.2.2.2.1 w.1 a 2 (wsl_at hs) rfl hin hd (kk p l e s m args below meth c D cyc A Z n0 b ad0 C adr locs H ls w hl)
theorem E_iast {a n : Nat} {i : Int32} {x : Int32} (hd : decode M.2.1 pc = .ok (.iastore, 1)) (hs : sh[a]? = some (.inl (.int, n))) (hin : vp_in i n) (kk : E M scr Q (pc + 1) lv st sh (sI h a i.toNatClampNeg x) kc ks) : E M scr Q pc lv (.int x :: .int i :: .ref a :: st) sh h kc ks := by
  intro p l e s m args below meth c D cyc A Z n0 b ad0 C adr locs H ls w hl
  have he : cel cyc adr (sI h a i.toNatClampNeg x) a (.inl (.int, n)) = .inl (cyc .int, n, .inl (upd (h.1 a) i.toNatClampNeg x)) := by
    have e1 : (sI h a i.toNatClampNeg x).1 a = upd (h.1 a) i.toNatClampNeg x := by funext j; simp [sI, u2, upd]
    show Sum.inl (cyc .int, n, Sum.inl _) = _
    rw [e1]
  have hw := wsl_set (h := h) hs he (fun j t hj => cel_oI cyc adr h a i.toNatClampNeg x j t hj)
  refine va_iast C.1 C.2.1 C.2.2.2.2.2.2.2.2.2.1 w.1 w.2.1 w.2.2.1 a 1 (wsl_at hs) rfl hin hd (fun H1 locs1 g1 g2 g3 => ?_)
  rw [hw] at g1 g2
  exact kk p l e s m args below meth c D cyc A Z n0 b ad0 C adr locs1 H1 ls ⟨g1, g2, g3, w.2.2.2⟩ hl
theorem E_bast {a n : Nat} {i : Int32} {x : Int32} (hd : decode M.2.1 pc = .ok (.bastore, 1)) (hs : sh[a]? = some (.inl (.byte, n))) (hin : vp_in i n) (kk : E M scr Q (pc + 1) lv st sh (sI h a i.toNatClampNeg (vp_nar .byte x)) kc ks) : E M scr Q pc lv (.int x :: .int i :: .ref a :: st) sh h kc ks := by
  intro p l e s m args below meth c D cyc A Z n0 b ad0 C adr locs H ls w hl
  have he : cel cyc adr (sI h a i.toNatClampNeg (vp_nar .byte x)) a (.inl (.byte, n)) = .inl (cyc .byte, n, .inl (upd (h.1 a) i.toNatClampNeg (vp_nar .byte x))) := by
    have e1 : (sI h a i.toNatClampNeg (vp_nar .byte x)).1 a = upd (h.1 a) i.toNatClampNeg (vp_nar .byte x) := by funext j; simp [sI, u2, upd]
    show Sum.inl (cyc .byte, n, Sum.inl _) = _
    rw [e1]
  have hw := wsl_set (h := h) hs he (fun j t hj => cel_oI cyc adr h a i.toNatClampNeg (vp_nar .byte x) j t hj)
  refine va_bast C.1 C.2.1 C.2.2.2.2.2.2.2.2.2.1 w.1 w.2.1 w.2.2.1 a 0 (wsl_at hs) rfl hin hd (fun H1 locs1 g1 g2 g3 => ?_)
  rw [hw] at g1 g2
  exact kk p l e s m args below meth c D cyc A Z n0 b ad0 C adr locs1 H1 ls ⟨g1, g2, g3, w.2.2.2⟩ hl
theorem E_zast {a n : Nat} {i : Int32} {x : Int32} (hd : decode M.2.1 pc = .ok (.bastore, 1)) (hs : sh[a]? = some (.inl (.boolean, n))) (hin : vp_in i n) (kk : E M scr Q (pc + 1) lv st sh (sI h a i.toNatClampNeg (vp_nar .boolean x)) kc ks) : E M scr Q pc lv (.int x :: .int i :: .ref a :: st) sh h kc ks := by
  intro p l e s m args below meth c D cyc A Z n0 b ad0 C adr locs H ls w hl
  have he : cel cyc adr (sI h a i.toNatClampNeg (vp_nar .boolean x)) a (.inl (.boolean, n)) = .inl (cyc .boolean, n, .inl (upd (h.1 a) i.toNatClampNeg (vp_nar .boolean x))) := by
    have e1 : (sI h a i.toNatClampNeg (vp_nar .boolean x)).1 a = upd (h.1 a) i.toNatClampNeg (vp_nar .boolean x) := by funext j; simp [sI, u2, upd]
    show Sum.inl (cyc .boolean, n, Sum.inl _) = _
    rw [e1]
  have hw := wsl_set (h := h) hs he (fun j t hj => cel_oI cyc adr h a i.toNatClampNeg (vp_nar .boolean x) j t hj)
  refine va_zast C.1 C.2.1 C.2.2.2.2.2.2.2.2.2.1 w.1 w.2.1 w.2.2.1 a 3 (wsl_at hs) rfl hin hd (fun H1 locs1 g1 g2 g3 => ?_)
  rw [hw] at g1 g2
  exact kk p l e s m args below meth c D cyc A Z n0 b ad0 C adr locs1 H1 ls ⟨g1, g2, g3, w.2.2.2⟩ hl
theorem E_last {a n : Nat} {i : Int32} {x : Int64} (hd : decode M.2.1 pc = .ok (.lastore, 1)) (hs : sh[a]? = some (.inl (.long, n))) (hin : vp_in i n) (kk : E M scr Q (pc + 1) lv st sh (sL h a i.toNatClampNeg x) kc ks) : E M scr Q pc lv (.long x :: .int i :: .ref a :: st) sh h kc ks := by
  intro p l e s m args below meth c D cyc A Z n0 b ad0 C adr locs H ls w hl
  have he : cel cyc adr (sL h a i.toNatClampNeg x) a (.inl (.long, n)) = .inl (cyc .long, n, .inr (.inl (vp_updL (h.2.1 a) i.toNatClampNeg x))) := by
    have e1 : (sL h a i.toNatClampNeg x).2.1 a = vp_updL (h.2.1 a) i.toNatClampNeg x := by funext j; simp [sL, u2, vp_updL]
    show Sum.inl (cyc .long, n, Sum.inr (Sum.inl _)) = _
    rw [e1]
  have hw := wsl_set (h := h) hs he (fun j t hj => cel_oL cyc adr h a i.toNatClampNeg x j t hj)
  refine va_last C.1 C.2.1 C.2.2.2.2.2.2.2.2.2.1 w.1 w.2.1 w.2.2.1 a 2 (wsl_at hs) rfl hin hd (fun H1 locs1 g1 g2 g3 => ?_)
  rw [hw] at g1 g2
  exact kk p l e s m args below meth c D cyc A Z n0 b ad0 C adr locs1 H1 ls ⟨g1, g2, g3, w.2.2.2⟩ hl
theorem E_aald {a n x : Nat} {i : Int32} (hd : decode M.2.1 pc = .ok (.aaload, 1)) (hs : sh[a]? = some (.inl (.object RX3, n))) (hin : vp_in i n) (hr : h.2.2 a i.toNatClampNeg = some x) (kk : E M scr Q (pc + 1) lv (.ref x :: st) sh h kc ks) : E M scr Q pc lv (.int i :: .ref a :: st) sh h kc ks := by
  intro p l e s m args below meth c D cyc A Z n0 b ad0 C adr locs H ls w hl
  refine va_aldq C.1 C.2.1 C.2.2.2.2.2.2.2.2.2.1 w.1 a 4 (wsl_at hs) rfl hin hd ?_
  have h9 := kk p l e s m args below meth c D cyc A Z n0 b ad0 C adr locs H ls w hl
  rw [show va_rf ((h.2.2 a i.toNatClampNeg).map adr) = rv b adr (.ref x) by rw [hr]; rfl]
  exact h9
theorem E_alen {a n : Nat} {ty : FieldType} (hd : decode M.2.1 pc = .ok (.arraylength, 1)) (hs : sh[a]? = some (.inl (ty, n))) (ht : ty = .int ∨ ty = .byte ∨ ty = .boolean ∨ ty = .long) (kk : E M scr Q (pc + 1) lv (.int (nI n) :: st) sh h kc ks) : E M scr Q pc lv (.ref a :: st) sh h kc ks := by
  intro p l e s m args below meth c D cyc A Z n0 b ad0 C adr locs H ls w hl
  have h9 := kk p l e s m args below meth c D cyc A Z n0 b ad0 C adr locs H ls w hl
  rcases ht with rfl | rfl | rfl | rfl
  · exact va_alen C.1 C.2.1 C.2.2.2.2.2.2.2.2.2.1 w.1 a 1 (wsl_at hs) rfl rfl hd h9
  · exact va_alen C.1 C.2.1 C.2.2.2.2.2.2.2.2.2.1 w.1 a 0 (wsl_at hs) rfl rfl hd h9
  · exact va_alen C.1 C.2.1 C.2.2.2.2.2.2.2.2.2.1 w.1 a 3 (wsl_at hs) rfl rfl hd h9
  · exact va_alen C.1 C.2.1 C.2.2.2.2.2.2.2.2.2.1 w.1 a 2 (wsl_at hs) rfl rfl hd h9
theorem E_sald {L : Nat} {xs : Nat → Int32} {i : Int32} (hscr : scr = some (L, xs)) (hd : decode M.2.1 pc = .ok (.iaload, 1)) (hin : vp_in i L) (kk : E M scr Q (pc + 1) lv (.int (xs i.toNatClampNeg) :: st) sh h kc ks) : E M scr Q pc lv (.int i :: .retAddr 0 :: st) sh h kc ks := by
  intro p l e s m args below meth c D cyc A Z n0 b ad0 C adr locs H ls w hl
  obtain ⟨q1, q2, q3⟩ := C.2.2.2.2.2.2.2.2.2.2.1 L xs hscr
  exact va_sld C.1 C.2.1 q1 q2 q3 w.2.2.1 hin hd (kk p l e s m args below meth c D cyc A Z n0 b ad0 C adr locs H ls w hl)
theorem E_slen {L : Nat} {xs : Nat → Int32} (hscr : scr = some (L, xs)) (hd : decode M.2.1 pc = .ok (.arraylength, 1)) (kk : E M scr Q (pc + 1) lv (.int (nI L) :: st) sh h kc ks) : E M scr Q pc lv (.retAddr 0 :: st) sh h kc ks := by
  intro p l e s m args below meth c D cyc A Z n0 b ad0 C adr locs H ls w hl
  obtain ⟨q1, q2, q3⟩ := C.2.2.2.2.2.2.2.2.2.2.1 L xs hscr
  exact va_slen C.1 C.2.1 q1 q2 q3 w.2.2.1 hd (kk p l e s m args below meth c D cyc A Z n0 b ad0 C adr locs H ls w hl)
end EH
