section ERT
variable {M : MI} {scr : Option (Nat × (Nat → Int32))} {Q : QT} {pc : Nat} {lv : List (Option Value)} {st : List Value} {sh : List Sh} {h : Hp} {kc ks : Nat}
theorem E_reti {x : Int32} {ty : FieldType} (hd : decode M.2.1 pc = .ok (.ireturn, 1)) (hr : M.2.2.2.1 = some ty) (hn : narrow ty (.int x) = .int x) (hc : kc ≤ M.2.2.2.2.cells) (hk : ks ≤ M.2.2.2.2.slots) (hq : Q (some (.int x)) sh h) : E M scr Q pc lv [.int x] sh h kc ks := E_ret (some (.int x)) hd ⟨rfl, ty, hr, hn⟩ rfl hc hk hq
theorem E_retl {x : Int64} (hd : decode M.2.1 pc = .ok (.lreturn, 1)) (hr : M.2.2.2.1 = some .long) (hc : kc ≤ M.2.2.2.2.cells) (hk : ks ≤ M.2.2.2.2.slots) (hq : Q (some (.long x)) sh h) : E M scr Q pc lv [.long x] sh h kc ks := E_ret (some (.long x)) hd ⟨rfl, hr⟩ rfl hc hk hq
theorem E_retr {x : Nat} {cn : String} (hd : decode M.2.1 pc = .ok (.areturn, 1)) (hr : M.2.2.2.1 = some (.object cn)) (hc : kc ≤ M.2.2.2.2.cells) (hk : ks ≤ M.2.2.2.2.slots) (hq : Q (some (.ref x)) sh h) : E M scr Q pc lv [.ref x] sh h kc ks := E_ret (some (.ref x)) hd ⟨rfl, cn, hr⟩ rfl hc hk hq
theorem E_retn {cn : String} (hd : decode M.2.1 pc = .ok (.areturn, 1)) (hr : M.2.2.2.1 = some (.object cn)) (hc : kc ≤ M.2.2.2.2.cells) (hk : ks ≤ M.2.2.2.2.slots) (hq : Q (some .null) sh h) : E M scr Q pc lv [.null] sh h kc ks := E_ret (some .null) hd ⟨rfl, cn, hr⟩ rfl hc hk hq
theorem E_retv (hd : decode M.2.1 pc = .ok (.return_, 1)) (hr : M.2.2.2.1 = none) (hc : kc ≤ M.2.2.2.2.cells) (hk : ks ≤ M.2.2.2.2.slots) (hq : Q none sh h) : E M scr Q pc lv [] sh h kc ks := E_ret none hd ⟨rfl, hr⟩ rfl hc hk hq
end ERT

