/-! the losses told: Long.bitCount, tellLoss, lose -/
def v8 : List Nat → Nat
  | [] => 0
  | d :: ds => d + 256 * v8 ds
theorem and_c {a b c e : Nat} (ha : a < 256) (hc : c < 256) : (a + 256 * b) &&& (c + 256 * e) = (a &&& c) + 256 * (b &&& e) := by
  have h1 : ((a + 256 * b) &&& (c + 256 * e)) % 2 ^ 8 = a &&& c := by
    rw [Nat.and_mod_two_pow]
    have e1 : (a + 256 * b) % 2 ^ 8 = a := by omega
    have e2 : (c + 256 * e) % 2 ^ 8 = c := by omega
    rw [e1, e2]
  have h2 : ((a + 256 * b) &&& (c + 256 * e)) / 2 ^ 8 = b &&& e := by
    rw [Nat.and_div_two_pow]
    have e1 : (a + 256 * b) / 2 ^ 8 = b := by omega
    have e2 : (c + 256 * e) / 2 ^ 8 = e := by omega
    rw [e1, e2]
  have h3 := Nat.div_add_mod ((a + 256 * b) &&& (c + 256 * e)) (2 ^ 8)
  rw [h1, h2] at h3
  rw [← h3]
  omega
def rp : Nat → Nat → Nat
  | 0, _ => 0
  | n + 1, c => c + 256 * rp n c
theorem bA1 : ∀ t, t < 2 → ∀ d, d < 128 → ((d + 128 * t) &&& 85) = (d &&& 85) := by decide +kernel
theorem bB1 : ∀ t, t < 4 → ∀ d, d < 64 → ((d + 64 * t) &&& 51) = (d &&& 51) := by decide +kernel
theorem bC1 : ∀ d, d < 256 → (d &&& 15) = d % 16 := by decide +kernel
theorem v_A : ∀ ds : List Nat, (∀ d ∈ ds, d < 256) → (v8 ds / 2 &&& rp ds.length 85) = v8 (ds.map (fun d => d / 2 &&& 85))
  | [], _ => rfl
  | d :: ds, h => by
    have hd : d < 256 := h d (by simp)
    have ih := v_A ds (fun x hx => h x (by simp [hx]))
    show ((d + 256 * v8 ds) / 2 &&& (85 + 256 * rp ds.length 85)) = (d / 2 &&& 85) + 256 * v8 (ds.map (fun d => d / 2 &&& 85))
    rw [← ih, show (d + 256 * v8 ds) / 2 = (d / 2 + 128 * (v8 ds % 2)) + 256 * (v8 ds / 2) by omega, and_c (by omega) (by decide), bA1 _ (by omega) _ (by omega)]
theorem v_B : ∀ ds : List Nat, (∀ d ∈ ds, d < 256) → (v8 ds / 4 &&& rp ds.length 51) = v8 (ds.map (fun d => d / 4 &&& 51))
  | [], _ => rfl
  | d :: ds, h => by
    have hd : d < 256 := h d (by simp)
    have ih := v_B ds (fun x hx => h x (by simp [hx]))
    show ((d + 256 * v8 ds) / 4 &&& (51 + 256 * rp ds.length 51)) = (d / 4 &&& 51) + 256 * v8 (ds.map (fun d => d / 4 &&& 51))
    rw [← ih, show (d + 256 * v8 ds) / 4 = (d / 4 + 64 * (v8 ds % 4)) + 256 * (v8 ds / 4) by omega, and_c (by omega) (by decide), bB1 _ (by omega) _ (by omega)]
theorem v_B0 : ∀ ds : List Nat, (∀ d ∈ ds, d < 256) → (v8 ds &&& rp ds.length 51) = v8 (ds.map (fun d => d &&& 51))
  | [], _ => rfl
  | d :: ds, h => by
    have hd : d < 256 := h d (by simp)
    have ih := v_B0 ds (fun x hx => h x (by simp [hx]))
    show ((d + 256 * v8 ds) &&& (51 + 256 * rp ds.length 51)) = (d &&& 51) + 256 * v8 (ds.map (fun d => d &&& 51))
    rw [← ih, and_c hd (by decide)]
theorem v_C : ∀ ds : List Nat, (∀ d ∈ ds, d / 16 ≤ 4 ∧ d % 16 ≤ 4) → v8 ds % 16 ≤ 4 ∧ ((v8 ds + v8 ds / 16) &&& rp ds.length 15) = v8 (ds.map (fun d => d % 16 + d / 16))
  | [], _ => ⟨by decide, rfl⟩
  | d :: ds, h => by
    have hd := h d (by simp)
    obtain ⟨i1, i2⟩ := v_C ds (fun x hx => h x (by simp [hx]))
    refine ⟨by show (d + 256 * v8 ds) % 16 ≤ 4; omega, ?_⟩
    show ((d + 256 * v8 ds + (d + 256 * v8 ds) / 16) &&& (15 + 256 * rp ds.length 15)) = (d % 16 + d / 16) + 256 * v8 (ds.map (fun d => d % 16 + d / 16))
    rw [← i2, show d + 256 * v8 ds + (d + 256 * v8 ds) / 16 = (d + d / 16 + 16 * (v8 ds % 16)) + 256 * (v8 ds + v8 ds / 16) by omega, and_c (by omega) (by decide), bC1 _ (by omega)]
    congr 1
    omega
theorem v_add (f g : Nat → Nat) : ∀ ds : List Nat, v8 (ds.map f) + v8 (ds.map g) = v8 (ds.map (fun d => f d + g d))
  | [] => rfl
  | d :: ds => by
    have ih := v_add f g ds
    show (f d + 256 * v8 (ds.map f)) + (g d + 256 * v8 (ds.map g)) = (f d + g d) + 256 * v8 (ds.map (fun d => f d + g d))
    omega
theorem v_id : ∀ ds : List Nat, v8 (ds.map (fun d => d)) = v8 ds := fun ds => by simp
theorem v_sub (g : Nat → Nat) (ds : List Nat) (h : ∀ d ∈ ds, g d ≤ d) : v8 ds - v8 (ds.map g) = v8 (ds.map (fun d => d - g d)) := by
  have e := v_add g (fun d => d - g d) ds
  have e2 : ds.map (fun d => g d + (d - g d)) = ds := by
    rw [List.map_congr_left (g := id)]
    · simp
    · intro d hd
      have := h d hd
      simp only [id]
      omega
  rw [e2] at e
  omega
theorem v_lt : ∀ (ds : List Nat) (c : Nat), c ≤ 255 → (∀ d ∈ ds, d ≤ c) → v8 ds ≤ rp ds.length c
  | [], _, _, _ => Nat.le_refl 0
  | d :: ds, c, hc, h => by
    have hd := h d (by simp)
    have ih := v_lt ds c hc (fun x hx => h x (by simp [hx]))
    show d + 256 * v8 ds ≤ c + 256 * rp ds.length c
    omega
def oA (d : Nat) : Nat := d - (d / 2 &&& 85)
def oB (d : Nat) : Nat := (oA d &&& 51) + (oA d / 4 &&& 51)
def oC (d : Nat) : Nat := oB d % 16 + oB d / 16
theorem o_ok : ∀ d, d < 256 → (d / 2 &&& 85) ≤ d ∧ oA d < 256 ∧ oB d / 16 ≤ 4 ∧ oB d % 16 ≤ 4 ∧ oC d ≤ 8 := by decide +kernel
def pcn : Nat → Nat → Nat
  | 0, _ => 0
  | k + 1, n => n % 2 + pcn k (n / 2)
theorem oC_pcn : ∀ d, d < 256 → oC d = pcn 8 d := by decide +kernel
theorem pcn_8 (k d m : Nat) (hd : d < 256) : pcn (k + 8) (d + 256 * m) = pcn 8 d + pcn k m := by
  have e : (d + 256 * m) / 2 / 2 / 2 / 2 / 2 / 2 / 2 / 2 = m := by omega
  have z : d / 2 / 2 / 2 / 2 / 2 / 2 / 2 / 2 = 0 := by omega
  simp only [pcn, e]
  omega
/-- the three masks, in one -/
theorem v_all (ds : List Nat) (h : ∀ d ∈ ds, d < 256) : ∀ n0, n0 = v8 ds → ∀ n1, n1 = n0 - (n0 / 2 &&& rp ds.length 85) → ∀ n2, n2 = (n1 &&& rp ds.length 51) + (n1 / 4 &&& rp ds.length 51) → n1 = v8 (ds.map oA) ∧ n2 = v8 (ds.map oB) ∧ ((n2 + n2 / 16) &&& rp ds.length 15) = v8 (ds.map oC) := by
  intro n0 h0 n1 h1 n2 h2
  have e1 : n1 = v8 (ds.map oA) := by
    rw [h1, h0, v_A ds h, v_sub _ _ (fun d hd => (o_ok d (h d hd)).1)]
    rfl
  have hA : ∀ d ∈ ds.map oA, d < 256 := by
    intro x hx
    obtain ⟨d, hd, rfl⟩ := List.mem_map.mp hx
    exact (o_ok d (h d hd)).2.1
  have lA : (ds.map oA).length = ds.length := List.length_map ..
  have e2 : n2 = v8 (ds.map oB) := by
    have p := v_B (ds.map oA) hA
    have q := v_B0 (ds.map oA) hA
    rw [lA] at p q
    rw [h2, e1, p, q, v_add, List.map_map]
    rfl
  have hB : ∀ d ∈ ds.map oB, d / 16 ≤ 4 ∧ d % 16 ≤ 4 := by
    intro x hx
    obtain ⟨d, hd, rfl⟩ := List.mem_map.mp hx
    exact ⟨(o_ok d (h d hd)).2.2.1, (o_ok d (h d hd)).2.2.2.1⟩
  have lB : (ds.map oB).length = ds.length := List.length_map ..
  refine ⟨e1, e2, ?_⟩
  have p := (v_C (ds.map oB) hB).2
  rw [lB] at p
  rw [e2, p, List.map_map]
  rfl
/-- a number of 64 bits has 8 bytes -/
theorem v_ex {n : Nat} (h : n < 2 ^ 64) : ∃ d0 d1 d2 d3 d4 d5 d6 d7, d0 < 256 ∧ d1 < 256 ∧ d2 < 256 ∧ d3 < 256 ∧ d4 < 256 ∧ d5 < 256 ∧ d6 < 256 ∧ d7 < 256 ∧ n = v8 [d0, d1, d2, d3, d4, d5, d6, d7] := by
  refine ⟨n % 256, n / 256 % 256, n / 256 / 256 % 256, n / 256 / 256 / 256 % 256, n / 256 / 256 / 256 / 256 % 256, n / 256 / 256 / 256 / 256 / 256 % 256, n / 256 / 256 / 256 / 256 / 256 / 256 % 256, n / 256 / 256 / 256 / 256 / 256 / 256 / 256, by omega, by omega, by omega, by omega, by omega, by omega, by omega, by omega, ?_⟩
  simp only [v8]
  omega
theorem dv8 {p q : Nat} (h : p < 256) : (p + 256 * q) / 256 = q := by omega
theorem dv16 {p r q : Nat} (h : p < 256) (h2 : r < 256) : (p + 256 * (r + 256 * q)) / 65536 = q := by omega
theorem dv32 {p r s t q : Nat} (h : p < 256) (h2 : r < 256) (h3 : s < 256) (h4 : t < 256) : (p + 256 * (r + 256 * (s + 256 * (t + 256 * q)))) / 4294967296 = q := by omega
theorem fold8 {p0 p1 p2 p3 p4 p5 p6 p7 n x1 x2 x3 : Nat} (h0 : p0 ≤ 8) (h1 : p1 ≤ 8) (h2 : p2 ≤ 8) (h3 : p3 ≤ 8) (h4 : p4 ≤ 8) (h5 : p5 ≤ 8) (h6 : p6 ≤ 8) (h7 : p7 ≤ 8) (hn : n = v8 [p0, p1, p2, p3, p4, p5, p6, p7]) (e1 : x1 = n + n / 256) (e2 : x2 = x1 + x1 / 65536) (e3 : x3 = x2 + x2 / 4294967296) : x3 % 128 = p0 + p1 + p2 + p3 + p4 + p5 + p6 + p7 ∧ n < 1152921504606846976 ∧ x1 < 2305843009213693952 ∧ x2 < 4611686018427387904 ∧ x3 < 9223372036854775808 := by
  obtain ⟨y1, k1⟩ : ∃ y, y = v8 [p1, p2, p3, p4, p5, p6, p7] := ⟨_, rfl⟩
  obtain ⟨y2, k2⟩ : ∃ y, y = v8 [p2, p3, p4, p5, p6, p7] := ⟨_, rfl⟩
  obtain ⟨y3, k3⟩ : ∃ y, y = v8 [p3, p4, p5, p6, p7] := ⟨_, rfl⟩
  obtain ⟨y4, k4⟩ : ∃ y, y = v8 [p4, p5, p6, p7] := ⟨_, rfl⟩
  obtain ⟨y5, k5⟩ : ∃ y, y = v8 [p5, p6, p7] := ⟨_, rfl⟩
  obtain ⟨y6, k6⟩ : ∃ y, y = v8 [p6, p7] := ⟨_, rfl⟩
  have j0 : n = p0 + 256 * y1 := by rw [hn, k1]; rfl
  have j1 : y1 = p1 + 256 * y2 := by rw [k1, k2]; rfl
  have j2 : y2 = p2 + 256 * y3 := by rw [k2, k3]; rfl
  have j3 : y3 = p3 + 256 * y4 := by rw [k3, k4]; rfl
  have j4 : y4 = p4 + 256 * y5 := by rw [k4, k5]; rfl
  have j5 : y5 = p5 + 256 * y6 := by rw [k5, k6]; rfl
  have j6 : y6 = p6 + 256 * p7 := by rw [k6]; rfl
  clear k1 k2 k3 k4 k5 k6 hn
  have a1 : n / 256 = y1 := by rw [j0]; exact dv8 (by omega)
  rw [a1] at e1
  have b1 : x1 = (p0 + p1) + 256 * ((p1 + p2) + 256 * (y2 + y3)) := by omega
  have a2 : x1 / 65536 = y2 + y3 := by rw [b1]; exact dv16 (by omega) (by omega)
  rw [a2] at e2
  have b2 : x2 = (p0 + p1 + p2 + p3) + 256 * ((p1 + p2 + p3 + p4) + 256 * ((p2 + p3 + p4 + p5) + 256 * ((p3 + p4 + p5 + p6) + 256 * (y4 + y5 + y6 + p7)))) := by omega
  have a3 : x2 / 4294967296 = y4 + y5 + y6 + p7 := by rw [b2]; exact dv32 (by omega) (by omega) (by omega) (by omega)
  rw [a3] at e3
  have b3 : ∃ q, x3 = (p0 + p1 + p2 + p3 + p4 + p5 + p6 + p7) + 256 * q := ⟨(p1 + p2 + p3 + p4) + 256 * ((p2 + p3 + p4 + p5) + 256 * ((p3 + p4 + p5 + p6) + 256 * (y4 + y5 + y6 + p7))) + (y5 + y6 + p7), by omega⟩
  refine ⟨?_, by omega, by omega, by omega, by omega⟩
  obtain ⟨q, hq⟩ := b3
  rw [hq]
  clear e1 e2 e3 b1 b2 a1 a2 a3 j0 j1 j2 j3 j4 j5 j6 hq
  omega
theorem rp85 : rp 8 85 = 6148914691236517205 := by decide +kernel
theorem rp51 : rp 8 51 = 3689348814741910323 := by decide +kernel
theorem rp15 : rp 8 15 = 1085102592571150095 := by decide +kernel
theorem lt68 {q0 q1 q2 q3 q4 q5 q6 q7 : Nat} (h0 : q0 ≤ 68) (h1 : q1 ≤ 68) (h2 : q2 ≤ 68) (h3 : q3 ≤ 68) (h4 : q4 ≤ 68) (h5 : q5 ≤ 68) (h6 : q6 ≤ 68) (h7 : q7 ≤ 68) : v8 [q0, q1, q2, q3, q4, q5, q6, q7] < 9223372036854775808 := by
  show q0 + 256 * (q1 + 256 * (q2 + 256 * (q3 + 256 * (q4 + 256 * (q5 + 256 * (q6 + 256 * (q7 + 256 * 0))))))) < 9223372036854775808
  omega
theorem le68 {q : Nat} (h1 : q / 16 ≤ 4) (h2 : q % 16 ≤ 4) : q ≤ 68 := by omega
theorem pcn_v {d0 d1 d2 d3 d4 d5 d6 d7 : Nat} (b0 : d0 < 256) (b1 : d1 < 256) (b2 : d2 < 256) (b3 : d3 < 256) (b4 : d4 < 256) (b5 : d5 < 256) (b6 : d6 < 256) (b7 : d7 < 256) : pcn 64 (v8 [d0, d1, d2, d3, d4, d5, d6, d7]) = oC d0 + oC d1 + oC d2 + oC d3 + oC d4 + oC d5 + oC d6 + oC d7 := by
  have e7 : pcn 8 (v8 [d7]) = oC d7 := by
    rw [show v8 [d7] = d7 from by show d7 + 256 * 0 = d7; omega, oC_pcn _ b7]
  have e6 : pcn 16 (v8 [d6, d7]) = oC d6 + oC d7 := (pcn_8 8 d6 _ b6).trans (by rw [e7, oC_pcn _ b6])
  have e5 : pcn 24 (v8 [d5, d6, d7]) = oC d5 + (oC d6 + oC d7) := (pcn_8 16 d5 _ b5).trans (by rw [e6, oC_pcn _ b5])
  have e4 : pcn 32 (v8 [d4, d5, d6, d7]) = oC d4 + (oC d5 + (oC d6 + oC d7)) := (pcn_8 24 d4 _ b4).trans (by rw [e5, oC_pcn _ b4])
  have e3 : pcn 40 (v8 [d3, d4, d5, d6, d7]) = oC d3 + (oC d4 + (oC d5 + (oC d6 + oC d7))) := (pcn_8 32 d3 _ b3).trans (by rw [e4, oC_pcn _ b3])
  have e2 : pcn 48 (v8 [d2, d3, d4, d5, d6, d7]) = oC d2 + (oC d3 + (oC d4 + (oC d5 + (oC d6 + oC d7)))) := (pcn_8 40 d2 _ b2).trans (by rw [e3, oC_pcn _ b2])
  have e1 : pcn 56 (v8 [d1, d2, d3, d4, d5, d6, d7]) = oC d1 + (oC d2 + (oC d3 + (oC d4 + (oC d5 + (oC d6 + oC d7))))) := (pcn_8 48 d1 _ b1).trans (by rw [e2, oC_pcn _ b1])
  have e0 : pcn 64 (v8 [d0, d1, d2, d3, d4, d5, d6, d7]) = oC d0 + (oC d1 + (oC d2 + (oC d3 + (oC d4 + (oC d5 + (oC d6 + oC d7)))))) := (pcn_8 56 d0 _ b0).trans (by rw [e1, oC_pcn _ b0])
  rw [e0]
  omega
/-- the whole count -/
theorem count_ok {n0 n1 n2 n3 x1 x2 x3 : Nat} (h : n0 < 2 ^ 64) (h1 : n1 = n0 - (n0 / 2 &&& 6148914691236517205)) (h2 : n2 = (n1 &&& 3689348814741910323) + (n1 / 4 &&& 3689348814741910323)) (h3 : n3 = (n2 + n2 / 16) &&& 1085102592571150095) (e1 : x1 = n3 + n3 / 256) (e2 : x2 = x1 + x1 / 65536) (e3 : x3 = x2 + x2 / 4294967296) : x3 % 128 = pcn 64 n0 ∧ (n0 / 2 &&& 6148914691236517205) ≤ n0 ∧ n2 < 9223372036854775808 ∧ n3 < 1152921504606846976 ∧ x1 < 2305843009213693952 ∧ x2 < 4611686018427387904 ∧ x3 < 9223372036854775808 := by
  obtain ⟨d0, d1, d2, d3, d4, d5, d6, d7, b0, b1, b2, b3, b4, b5, b6, b7, hv⟩ := v_ex h
  have hd : ∀ d ∈ [d0, d1, d2, d3, d4, d5, d6, d7], d < 256 := by
    simp only [List.forall_mem_cons]
    exact ⟨b0, b1, b2, b3, b4, b5, b6, b7, fun _ z => nomatch z⟩
  rw [← rp85] at h1
  rw [← rp51] at h2
  rw [← rp15] at h3
  obtain ⟨q1, q2, q3⟩ := v_all [d0, d1, d2, d3, d4, d5, d6, d7] hd n0 hv n1 h1 n2 h2
  have q3' : n3 = v8 [oC d0, oC d1, oC d2, oC d3, oC d4, oC d5, oC d6, oC d7] := h3.trans q3
  have q2' : n2 = v8 [oB d0, oB d1, oB d2, oB d3, oB d4, oB d5, oB d6, oB d7] := q2
  obtain ⟨f1, f2, f3, f4, f5⟩ := fold8 (o_ok d0 b0).2.2.2.2 (o_ok d1 b1).2.2.2.2 (o_ok d2 b2).2.2.2.2 (o_ok d3 b3).2.2.2.2 (o_ok d4 b4).2.2.2.2 (o_ok d5 b5).2.2.2.2 (o_ok d6 b6).2.2.2.2 (o_ok d7 b7).2.2.2.2 q3' e1 e2 e3
  have sm : pcn 64 n0 = oC d0 + oC d1 + oC d2 + oC d3 + oC d4 + oC d5 + oC d6 + oC d7 := by
    rw [hv]
    exact pcn_v b0 b1 b2 b3 b4 b5 b6 b7
  have hA : (n0 / 2 &&& 6148914691236517205) ≤ n0 := Nat.le_trans Nat.and_le_left (Nat.div_le_self _ _)
  have g : ∀ d, d < 256 → oB d ≤ 68 := fun d hd => le68 (o_ok d hd).2.2.1 (o_ok d hd).2.2.2.1
  have hb : n2 < 9223372036854775808 := by
    rw [q2']
    exact lt68 (g _ b0) (g _ b1) (g _ b2) (g _ b3) (g _ b4) (g _ b5) (g _ b6) (g _ b7)
  exact ⟨f1.trans sm.symm, hA, hb, f2, f3, f4, f5⟩
theorem or_add {a b : Nat} (ha : a < 2 ^ 64) (hb : b < 2 ^ 64) (hs : a + b < 2 ^ 64) (h : a &&& b = 0) : a ||| b = a + b := by
  have e := BitVec.add_eq_or_of_and_eq_zero (BitVec.ofNat 64 a) (BitVec.ofNat 64 b) (by
    apply BitVec.eq_of_toNat_eq
    rw [BitVec.toNat_and, BitVec.toNat_ofNat, BitVec.toNat_ofNat, Nat.mod_eq_of_lt ha, Nat.mod_eq_of_lt hb, h]
    rfl)
  have e2 := congrArg BitVec.toNat e
  rw [BitVec.toNat_add, BitVec.toNat_or, BitVec.toNat_ofNat, BitVec.toNat_ofNat, Nat.mod_eq_of_lt ha, Nat.mod_eq_of_lt hb, Nat.mod_eq_of_lt hs] at e2
  exact e2.symm
theorem and_pow {n k : Nat} : n &&& 2 ^ k = n / 2 ^ k % 2 * 2 ^ k := by
  apply Nat.eq_of_testBit_eq
  intro i
  rw [Nat.testBit_and, Nat.testBit_two_pow]
  by_cases e : k = i
  · subst e
    rw [Nat.testBit_mul_two_pow]
    simp [Nat.testBit, Nat.shiftRight_eq_div_pow]
  · simp only [e, decide_false, Bool.and_false]
    rw [Nat.testBit_mul_two_pow]
    rcases Nat.mod_two_eq_zero_or_one (n / 2 ^ k) with q | q <;> rw [q]
    · simp
    · by_cases h : k ≤ i
      · have : i - k ≠ 0 := by omega
        obtain ⟨u, hu⟩ : ∃ u, i - k = u + 1 := ⟨i - k - 1, by omega⟩
        rw [hu, Nat.testBit_succ]
        simp
      · simp [h]
theorem ush {n : Nat} (k p : Nat) (hn : n < 2 ^ 64) (hk : k < 64) (hp : 2 ^ k = p) : ((lN n).toUInt64 >>> ((nI k).toInt64.toUInt64 &&& Int64.toUInt64 63)).toInt64 = lN (n / p) := by
  subst hp
  exact wb_shr hn hk
theorem and_lt {a b : Nat} (hb : b < 2 ^ 64) : a &&& b < 2 ^ 64 := Nat.lt_of_le_of_lt Nat.and_le_right hb
theorem i127 {n : Nat} : (nI n) &&& 127 = nI (n % 128) := by
  apply Int32.toBitVec_inj.mp
  show BitVec.ofNat 32 n &&& BitVec.ofNat 32 127 = BitVec.ofNat 32 (n % 128)
  apply BitVec.eq_of_toNat_eq
  rw [BitVec.toNat_and, BitVec.toNat_ofNat, BitVec.toNat_ofNat, BitVec.toNat_ofNat]
  rw [show 127 % 2 ^ 32 = 2 ^ 7 - 1 by decide, Nat.and_two_pow_sub_one_eq_mod]
  omega
theorem c_bitCount {sh : List Sh} {h : Hp} {n0 : Nat} (hn : n0 < 2 ^ 64) : Sp0 mJ13_bitCount_95d88 [.long (lN n0)] sh h (fun v h' => v = some (.int (nI (pcn 64 n0))) ∧ h' = h) := by
  obtain ⟨n1, h1⟩ : ∃ n1, n1 = n0 - (n0 / 2 &&& 6148914691236517205) := ⟨_, rfl⟩
  obtain ⟨n2, h2⟩ : ∃ n2, n2 = (n1 &&& 3689348814741910323) + (n1 / 4 &&& 3689348814741910323) := ⟨_, rfl⟩
  obtain ⟨n3, h3⟩ : ∃ n3, n3 = (n2 + n2 / 16) &&& 1085102592571150095 := ⟨_, rfl⟩
  obtain ⟨x1, e1⟩ : ∃ x1, x1 = n3 + n3 / 256 := ⟨_, rfl⟩
  obtain ⟨x2, e2⟩ : ∃ x2, x2 = x1 + x1 / 65536 := ⟨_, rfl⟩
  obtain ⟨x3, e3⟩ : ∃ x3, x3 = x2 + x2 / 4294967296 := ⟨_, rfl⟩
  obtain ⟨r1, r2, r3, r4, r5, r6, r7⟩ := count_ok hn h1 h2 h3 e1 e2 e3
  have b1 : n1 < 2 ^ 64 := by omega
  have k1 : lN n0 - (((lN n0).toUInt64 >>> ((1 : Int32).toInt64.toUInt64 &&& Int64.toUInt64 63)).toInt64 &&& 6148914691236517205) = lN n1 := by
    rw [show (1 : Int32) = nI 1 by decide, ush 1 2 hn (by decide) rfl, show (6148914691236517205 : Int64) = lN 6148914691236517205 by decide, wb_and (by omega) (by decide), lN_sub r2, h1]
  have k2 : (lN n1 &&& 3689348814741910323) + (((lN n1).toUInt64 >>> ((2 : Int32).toInt64.toUInt64 &&& Int64.toUInt64 63)).toInt64 &&& 3689348814741910323) = lN n2 := by
    rw [show (2 : Int32) = nI 2 by decide, ush 2 4 b1 (by decide) rfl, show (3689348814741910323 : Int64) = lN 3689348814741910323 by decide, wb_and b1 (by decide), wb_and (by omega) (by decide), lN_add, h2]
  have b2 : n2 < 2 ^ 64 := by omega
  have k3 : (lN n2 + ((lN n2).toUInt64 >>> ((4 : Int32).toInt64.toUInt64 &&& Int64.toUInt64 63)).toInt64) &&& 1085102592571150095 = lN n3 := by
    rw [show (4 : Int32) = nI 4 by decide, ush 4 16 b2 (by decide) rfl, show (1085102592571150095 : Int64) = lN 1085102592571150095 by decide, lN_add, wb_and (by omega) (by decide), h3]
  have k4 : lN n3 + ((lN n3).toUInt64 >>> ((8 : Int32).toInt64.toUInt64 &&& Int64.toUInt64 63)).toInt64 = lN x1 := by
    rw [show (8 : Int32) = nI 8 by decide, ush 8 256 (by omega) (by decide) rfl, lN_add, e1]
  have k5 : lN x1 + ((lN x1).toUInt64 >>> ((16 : Int32).toInt64.toUInt64 &&& Int64.toUInt64 63)).toInt64 = lN x2 := by
    rw [show (16 : Int32) = nI 16 by decide, ush 16 65536 (by omega) (by decide) rfl, lN_add, e2]
  have k6 : lN x2 + ((lN x2).toUInt64 >>> ((32 : Int32).toInt64.toUInt64 &&& Int64.toUInt64 63)).toInt64 = lN x3 := by
    rw [show (32 : Int32) = nI 32 by decide, ush 32 4294967296 (by omega) (by decide) rfl, lN_add, e3]
  clear h1 h2 h3 e1 e2 e3
  refine Sp0.of (by decide) (Nat.le_of_ble_eq_true rfl) ?_
  show E mJ13_bitCount_95d88 none _ 0 [some (.long (lN n0)), none] [] sh h 0 0
  refine E_lload_n dJ13_bitCount_95d88_0 rfl ?_
  refine E_lload_n dJ13_bitCount_95d88_1 rfl ?_
  refine E_ic 1 dJ13_bitCount_95d88_2 (by decide) ?_
  refine E_lushr dJ13_bitCount_95d88_3 ?_
  refine E_ldc2 dJ13_bitCount_95d88_4 kl_J13_314 ?_
  refine E_land dJ13_bitCount_95d88_7 ?_
  refine E_lsub dJ13_bitCount_95d88_8 ?_
  rw [k1]
  refine E_lstore_n dJ13_bitCount_95d88_9 (by decide) ?_
  refine E_lload_n dJ13_bitCount_95d88_10 rfl ?_
  refine E_ldc2 dJ13_bitCount_95d88_11 kl_J13_316 ?_
  refine E_land dJ13_bitCount_95d88_14 ?_
  refine E_lload_n dJ13_bitCount_95d88_15 rfl ?_
  refine E_ic 2 dJ13_bitCount_95d88_16 (by decide) ?_
  refine E_lushr dJ13_bitCount_95d88_17 ?_
  refine E_ldc2 dJ13_bitCount_95d88_18 kl_J13_316 ?_
  refine E_land dJ13_bitCount_95d88_21 ?_
  refine E_ladd dJ13_bitCount_95d88_22 ?_
  rw [k2]
  refine E_lstore_n dJ13_bitCount_95d88_23 (by decide) ?_
  refine E_lload_n dJ13_bitCount_95d88_24 rfl ?_
  refine E_lload_n dJ13_bitCount_95d88_25 rfl ?_
  refine E_ic 4 dJ13_bitCount_95d88_26 (by decide) ?_
  refine E_lushr dJ13_bitCount_95d88_27 ?_
  refine E_ladd dJ13_bitCount_95d88_28 ?_
  refine E_ldc2 dJ13_bitCount_95d88_29 kl_J13_318 ?_
  refine E_land dJ13_bitCount_95d88_32 ?_
  rw [k3]
  refine E_lstore_n dJ13_bitCount_95d88_33 (by decide) ?_
  refine E_lload_n dJ13_bitCount_95d88_34 rfl ?_
  refine E_lload_n dJ13_bitCount_95d88_35 rfl ?_
  refine E_bi 8 dJ13_bitCount_95d88_36 (by decide) ?_
  refine E_lushr dJ13_bitCount_95d88_38 ?_
  refine E_ladd dJ13_bitCount_95d88_39 ?_
  rw [k4]
  refine E_lstore_n dJ13_bitCount_95d88_40 (by decide) ?_
  refine E_lload_n dJ13_bitCount_95d88_41 rfl ?_
  refine E_lload_n dJ13_bitCount_95d88_42 rfl ?_
  refine E_bi 16 dJ13_bitCount_95d88_43 (by decide) ?_
  refine E_lushr dJ13_bitCount_95d88_45 ?_
  refine E_ladd dJ13_bitCount_95d88_46 ?_
  rw [k5]
  refine E_lstore_n dJ13_bitCount_95d88_47 (by decide) ?_
  refine E_lload_n dJ13_bitCount_95d88_48 rfl ?_
  refine E_lload_n dJ13_bitCount_95d88_49 rfl ?_
  refine E_bi 32 dJ13_bitCount_95d88_50 (by decide) ?_
  refine E_lushr dJ13_bitCount_95d88_52 ?_
  refine E_ladd dJ13_bitCount_95d88_53 ?_
  rw [k6]
  refine E_lstore_n dJ13_bitCount_95d88_54 (by decide) ?_
  refine E_lload_n dJ13_bitCount_95d88_55 rfl ?_
  refine E_l2i dJ13_bitCount_95d88_56 ?_
  refine E_bi 127 dJ13_bitCount_95d88_57 (by decide) ?_
  refine E_iand dJ13_bitCount_95d88_59 ?_
  rw [lN_i, i127, r1]
  exact E_reti dJ13_bitCount_95d88_60 rfl rfl (Nat.le_of_ble_eq_true rfl) (Nat.le_of_ble_eq_true rfl) ⟨rfl, rfl, rfl⟩
theorem mem_sh2 {T : List Nat} {k : Nat} (h1 : 1 ≤ k) (h : k + 1 ∈ T) : k ∈ shT T := by
  unfold shT
  rw [List.mem_map]
  exact ⟨k + 1, List.mem_filter.mpr ⟨h, by simp; omega⟩, by omega⟩
theorem msk_bit : ∀ (k : Nat) {T : List Nat}, (∀ t ∈ T, 1 ≤ t) → T.Nodup → msk T / 2 ^ k % 2 = if k + 1 ∈ T then 1 else 0 := by
  intro k
  induction k with
  | zero =>
    intro T h1 h2
    have e := msk_sh h1 h2
    rw [Nat.pow_zero, Nat.div_one, e]
    split <;> omega
  | succ k ih =>
    intro T h1 h2
    have e := msk_sh h1 h2
    have e2 : msk T / 2 = msk (shT T) := by
      rw [e]
      split <;> omega
    rw [Nat.pow_succ, Nat.mul_comm, ← Nat.div_div_eq_div_mul, e2, ih (fun t ht => (mem_sh h1 ht).1) (sh_nd h1 h2)]
    by_cases q : k + 1 + 1 ∈ T
    · rw [if_pos q, if_pos (mem_sh2 (by omega) q)]
    · rw [if_neg q, if_neg (fun z => q (mem_sh h1 z).2)]
theorem len_sh : ∀ {T : List Nat}, T.Nodup → T.length = (if 1 ∈ T then 1 else 0) + (shT T).length
  | [], _ => rfl
  | t :: T, h => by
    obtain ⟨n1, n2⟩ := List.nodup_cons.mp h
    have ih := len_sh n2
    by_cases e : t = 1
    · subst e
      rw [shT_c1, List.length_cons, ih, if_neg n1, if_pos (by simp)]
      omega
    · have e2 : (1 ∈ t :: T) ↔ 1 ∈ T := by
        rw [List.mem_cons]
        exact ⟨fun z => z.elim (fun y => absurd y.symm e) id, Or.inr⟩
      rw [shT_cn T e, List.length_cons, List.length_cons, ih]
      simp only [e2]
      omega
theorem pcn_len : ∀ (k : Nat) {T : List Nat}, (∀ t ∈ T, 1 ≤ t ∧ t ≤ k) → T.Nodup → pcn k (msk T) = T.length := by
  intro k
  induction k with
  | zero =>
    intro T h1 h2
    cases T with
    | nil => rfl
    | cons t T => have := h1 t (by simp); omega
  | succ k ih =>
    intro T h1 h2
    have h1' : ∀ t ∈ T, 1 ≤ t := fun t ht => (h1 t ht).1
    have e := msk_sh h1' h2
    have e1 : msk T % 2 = if 1 ∈ T then 1 else 0 := by
      rw [e]
      split <;> omega
    have e2 : msk T / 2 = msk (shT T) := by
      rw [e]
      split <;> omega
    have hs : ∀ t ∈ shT T, 1 ≤ t ∧ t ≤ k := fun t ht => by
      have z := mem_sh h1' ht
      have := (h1 _ z.2).2
      exact ⟨z.1, by omega⟩
    rw [pcn, e1, e2, ih hs (sh_nd h1' h2), len_sh h2]
theorem msk_app (T : List Nat) (q : Nat) : msk (T ++ [q]) = msk T + 2 ^ (q - 1) := by simp [msk]
def TlT (T : List Nat) : Prop := (∀ t ∈ T, 1 ≤ t ∧ t ≤ 50) ∧ T.Nodup ∧ T.length ≤ 8
theorem TlT.lt {T : List Nat} (h : TlT T) : msk T < 2 ^ 53 := by
  have h1 := msk_le (T := T) (fun t ht => (h.1 t ht).2)
  have h2 := h.2.2
  have h3 : T.length * 2 ^ 49 ≤ 8 * 2 ^ 49 := Nat.mul_le_mul_right _ h2
  have h4 : (8 : Nat) * 2 ^ 49 < 2 ^ 53 := by decide
  omega
theorem TlT.len {T : List Nat} (h : TlT T) : pcn 64 (msk T) = T.length := pcn_len 64 (fun t ht => ⟨(h.1 t ht).1, by have := (h.1 t ht).2; omega⟩) h.2.1
theorem TlT.app {T : List Nat} (h : TlT T) {q : Nat} (h1 : 1 ≤ q) (h2 : q ≤ 50) (hq : ¬ q ∈ T) (hl : T.length < 8) : TlT (T ++ [q]) := by
  refine ⟨fun t ht => ?_, ?_, by simp; omega⟩
  · rcases List.mem_append.mp ht with z | z
    · exact h.1 t z
    · rw [List.mem_singleton] at z; omega
  · rw [List.nodup_append]
    exact ⟨h.2.1, by simp, fun x hx y hy e => by rw [List.mem_singleton] at hy; rw [e, hy] at hx; exact hq hx⟩
theorem c_tellLoss {sh : List Sh} {h : Hp} {n q : Nat} {T : List Nat} (hs : sh[n]? = some (.inr 0)) (hT : TlT T) (ht : h.2.1 n 0 = lN (msk T)) (h1 : 1 ≤ q) (h2 : q ≤ 50) : Sp0 mX0_tellLoss [.ref n, .int (nI q)] sh h (fun v h' => v = some (.int (loR T (nI q))) ∧ h' = if ¬ q ∈ T ∧ ¬ 8 ≤ T.length then sL h n 0 (lN (msk (T ++ [q]))) else h) := by
  have hok : loOk (nI q) := by rw [loOk, nI_toInt (by omega)]; omega
  have hc : (nI q).toNatClampNeg = q := nI_clamp (by omega)
  have hm := hT.lt
  have hp : 2 ^ (q - 1) ≤ 2 ^ 49 := Nat.pow_le_pow_right (by decide) (by omega)
  have hp' : (2 : Nat) ^ 49 < 2 ^ 50 := by decide
  have hbit : (1 : Int64) <<< ((nI q - 1).toInt64 &&& 63) = lN (2 ^ (q - 1)) := by
    rw [show (1 : Int32) = nI 1 by decide, pk_sub h1, show (1 : Int64) = lN 1 by decide, wb_shl 1 (by omega), Nat.one_mul]
  have hmb := msk_bit (q - 1) (fun t ht => (hT.1 t ht).1) hT.2.1
  rw [Nat.sub_add_cancel h1] at hmb
  have hand : lN (msk T) &&& lN (2 ^ (q - 1)) = lN ((if q ∈ T then 1 else 0) * 2 ^ (q - 1)) := by
    rw [wb_and (by omega) (by omega), and_pow, hmb]
  refine Sp0.of (by decide) (Nat.le_of_ble_eq_true rfl) ?_
  show E mX0_tellLoss none _ 0 [some (.ref n), some (.int (nI q)), none, none] [] sh h 0 0
  by_cases hq : q ∈ T
  · have hz : ¬ lN (1 * 2 ^ (q - 1)) = 0 := by
      rw [Nat.one_mul, show (0 : Int64) = lN 0 by decide, pk_lEQ (by omega) (by decide)]
      exact Nat.ne_of_gt (Nat.two_pow_pos _)
    refine E_lc 1 dX0_tellLoss_0 (by decide) ?_
    refine E_iload_n dX0_tellLoss_1 rfl ?_
    refine E_ic 1 dX0_tellLoss_2 (by decide) ?_
    refine E_isub dX0_tellLoss_3 ?_
    refine E_lshl dX0_tellLoss_4 ?_
    rw [hbit]
    refine E_lstore_n dX0_tellLoss_5 (by decide) ?_
    refine E_aload_n dX0_tellLoss_6 rfl ?_
    refine E_getL dX0_tellLoss_7 fl_X0_9 (by first | assumption | rfl) rfl ?_
    rw [ht]
    refine E_lload_n dX0_tellLoss_10 rfl ?_
    refine E_land dX0_tellLoss_11 ?_
    rw [hand, if_pos hq]
    refine E_lc 0 dX0_tellLoss_12 (by decide) ?_
    refine E_lcmp dX0_tellLoss_13 ?_
    refine E_if_eq 19 dX0_tellLoss_14 (by decide) (fun c_14 => absurd ((lg_cmp_eq _ _).mp c_14) hz) (fun c_14 => ?_)
    refine E_ic (-1) dX0_tellLoss_17 (by decide) ?_
    exact E_reti dX0_tellLoss_18 rfl rfl (Nat.le_of_ble_eq_true rfl) (Nat.le_of_ble_eq_true rfl) ⟨rfl, by rw [loR, if_pos hok, hc, if_pos hq], by rw [if_neg (fun z => z.1 hq)]⟩
  · have hl0 : hT.len = hT.len := rfl
    by_cases hl : 8 ≤ T.length
    · refine E_lc 1 dX0_tellLoss_0 (by decide) ?_
      refine E_iload_n dX0_tellLoss_1 rfl ?_
      refine E_ic 1 dX0_tellLoss_2 (by decide) ?_
      refine E_isub dX0_tellLoss_3 ?_
      refine E_lshl dX0_tellLoss_4 ?_
      rw [hbit]
      refine E_lstore_n dX0_tellLoss_5 (by decide) ?_
      refine E_aload_n dX0_tellLoss_6 rfl ?_
      refine E_getL dX0_tellLoss_7 fl_X0_9 (by first | assumption | rfl) rfl ?_
      rw [ht]
      refine E_lload_n dX0_tellLoss_10 rfl ?_
      refine E_land dX0_tellLoss_11 ?_
      rw [hand, if_neg hq, Nat.zero_mul]
      refine E_lc 0 dX0_tellLoss_12 (by decide) ?_
      refine E_lcmp dX0_tellLoss_13 ?_
      refine E_if_eq 19 dX0_tellLoss_14 (by decide) (fun c_14 => ?_) (fun c_14 => absurd ((lg_cmp_eq _ _).mpr rfl) c_14)
      refine E_aload_n dX0_tellLoss_19 rfl ?_
      refine E_getL dX0_tellLoss_20 fl_X0_9 (by first | assumption | rfl) rfl ?_
      rw [ht]
      refine cS1 (N := mJ13_bitCount_95d88) dX0_tellLoss_23 cn_J13_bitCount_95d88 lk_X0_15 ⟨Nat.le_of_ble_eq_true rfl, Nat.le_of_ble_eq_true rfl⟩ (Nat.le_of_ble_eq_true rfl) ⟨rfl, rfl⟩ (c_bitCount (by omega)) (fun v3 h3 ⟨hv3, hh3⟩ => ?_)
      rw [hv3, hh3, hT.len]
      refine E_bi 8 dX0_tellLoss_26 (by decide) ?_
      rw [show (8 : Int32) = nI 8 by decide]
      refine E_icmp_lt 34 dX0_tellLoss_28 (by decide) (fun c_28 => absurd c_28 (nI_nlt hl (by have := hT.2.2; omega))) (fun c_28 => ?_)
      refine E_bi (-3) dX0_tellLoss_31 (by decide) ?_
      exact E_reti dX0_tellLoss_33 rfl rfl (Nat.le_of_ble_eq_true rfl) (Nat.le_of_ble_eq_true rfl) ⟨rfl, by rw [loR, if_pos hok, hc, if_neg hq, if_pos hl], by rw [if_neg (fun z => z.2 hl)]⟩
    · have hT2 := hT.app h1 h2 hq (by omega)
      have hor : lN (msk T) ||| lN (2 ^ (q - 1)) = lN (msk (T ++ [q])) := by
        rw [wb_or (by omega) (by omega), or_add (by omega) (by omega) (by omega) (by rw [and_pow, hmb, if_neg hq, Nat.zero_mul]), msk_app]
      have hm2 := hT2.lt
      refine E_lc 1 dX0_tellLoss_0 (by decide) ?_
      refine E_iload_n dX0_tellLoss_1 rfl ?_
      refine E_ic 1 dX0_tellLoss_2 (by decide) ?_
      refine E_isub dX0_tellLoss_3 ?_
      refine E_lshl dX0_tellLoss_4 ?_
      rw [hbit]
      refine E_lstore_n dX0_tellLoss_5 (by decide) ?_
      refine E_aload_n dX0_tellLoss_6 rfl ?_
      refine E_getL dX0_tellLoss_7 fl_X0_9 (by first | assumption | rfl) rfl ?_
      rw [ht]
      refine E_lload_n dX0_tellLoss_10 rfl ?_
      refine E_land dX0_tellLoss_11 ?_
      rw [hand, if_neg hq, Nat.zero_mul]
      refine E_lc 0 dX0_tellLoss_12 (by decide) ?_
      refine E_lcmp dX0_tellLoss_13 ?_
      refine E_if_eq 19 dX0_tellLoss_14 (by decide) (fun c_14 => ?_) (fun c_14 => absurd ((lg_cmp_eq _ _).mpr rfl) c_14)
      refine E_aload_n dX0_tellLoss_19 rfl ?_
      refine E_getL dX0_tellLoss_20 fl_X0_9 (by first | assumption | rfl) rfl ?_
      rw [ht]
      refine cS1 (N := mJ13_bitCount_95d88) dX0_tellLoss_23 cn_J13_bitCount_95d88 lk_X0_15 ⟨Nat.le_of_ble_eq_true rfl, Nat.le_of_ble_eq_true rfl⟩ (Nat.le_of_ble_eq_true rfl) ⟨rfl, rfl⟩ (c_bitCount (by omega)) (fun v3 h3 ⟨hv3, hh3⟩ => ?_)
      rw [hv3, hh3, hT.len]
      refine E_bi 8 dX0_tellLoss_26 (by decide) ?_
      rw [show (8 : Int32) = nI 8 by decide]
      refine E_icmp_lt 34 dX0_tellLoss_28 (by decide) (fun c_28 => ?_) (fun c_28 => absurd (nI_lt (by omega) (by decide)) c_28)
      refine E_aload_n dX0_tellLoss_34 rfl ?_
      refine E_dup rfl dX0_tellLoss_35 ?_
      refine E_getL dX0_tellLoss_36 fl_X0_9 (by first | assumption | rfl) rfl ?_
      rw [ht]
      refine E_lload_n dX0_tellLoss_39 rfl ?_
      refine E_lor dX0_tellLoss_40 ?_
      rw [hor]
      refine E_putL dX0_tellLoss_41 fl_X0_9 (by first | assumption | rfl) rfl ?_
      refine E_aload_n dX0_tellLoss_44 rfl ?_
      refine E_getL dX0_tellLoss_45 fl_X0_9 (by first | assumption | rfl) rfl ?_
      rw [show (sL h n 0 (lN (msk (T ++ [q])))).2.1 n 0 = lN (msk (T ++ [q])) by simp [sL, u2]]
      refine cS1 (N := mJ13_bitCount_95d88) dX0_tellLoss_48 cn_J13_bitCount_95d88 lk_X0_15 ⟨Nat.le_of_ble_eq_true rfl, Nat.le_of_ble_eq_true rfl⟩ (Nat.le_of_ble_eq_true rfl) ⟨rfl, rfl⟩ (c_bitCount (by omega)) (fun v4 h4 ⟨hv4, hh4⟩ => ?_)
      rw [hv4, hh4, hT2.len]
      exact E_reti dX0_tellLoss_51 rfl rfl (Nat.le_of_ble_eq_true rfl) (Nat.le_of_ble_eq_true rfl) ⟨rfl, by rw [loR, if_pos hok, hc, if_neg hq, if_neg hl, List.length_append]; rfl, by rw [if_pos ⟨hq, hl⟩]⟩
def loA (a : Ab) (k : Int32) : Ab := if loOk k ∧ ¬ k.toNatClampNeg ∈ a.2.2.1 5 ∧ ¬ 8 ≤ (a.2.2.1 5).length then aL (aN a 5 (a.2.2.1 5 ++ [k.toNatClampNeg])) 0 (lN (msk (a.2.2.1 5 ++ [k.toNatClampNeg]))) else a
theorem c_lose {a : Ab} {h : Hp} (C : CRep a h) (T : Tl a) (k : Int32) : Sp0 mX8_lose [.ref 0, .int k] SH h (fun v h' => v = some (.int (loR (a.2.2.1 5) k)) ∧ CRep (loA a k) h' ∧ CF h h') := by
  obtain ⟨r00, r01, r02, r03, r420, r421, r422, r423, r424, r425, r430, r431, r490, r491, r530, r531, r532, r533, r534⟩ := id C.2.2.1
  have l0 : h.2.1 41 0 = a.2.1 0 := C.2.1 0 (by decide)
  have h1 : (1 : Int32).toInt = 1 := by decide
  have h50 : (50 : Int32).toInt = 50 := by decide
  have hT : TlT (a.2.2.1 5) := ⟨T.1, T.2.1, T.2.2.1⟩
  have l0' : h.2.1 41 0 = lN (msk (a.2.2.1 5)) := l0.trans T.2.2.2
  have bad : ¬ loOk k → (some (Value.int (-1)) : Option Value) = some (.int (loR (a.2.2.1 5) k)) ∧ CRep (loA a k) h ∧ CF h h := fun hb => ⟨by rw [loR, if_neg hb], by rw [loA, if_neg (fun z => hb z.1)]; exact C, CF.rf⟩
  have fin : ∀ q h', 1 ≤ q → q ≤ 50 → (h' = if ¬ q ∈ a.2.2.1 5 ∧ ¬ 8 ≤ (a.2.2.1 5).length then sL h 41 0 (lN (msk (a.2.2.1 5 ++ [q]))) else h) → CRep (loA a (nI q)) h' ∧ CF h h' := by
    intro q h' q1 q2 e
    have hok : loOk (nI q) := by rw [loOk, nI_toInt (by omega)]; omega
    have hc : (nI q).toNatClampNeg = q := nI_clamp (by omega)
    rw [loA, hc]
    by_cases z : ¬ q ∈ a.2.2.1 5 ∧ ¬ 8 ≤ (a.2.2.1 5).length
    · rw [if_pos z] at e
      rw [if_pos ⟨hok, z⟩, e]
      have C2 := C.setL 0 (lN (msk (a.2.2.1 5 ++ [q]))) (by decide)
      exact ⟨C2, CF_sL CF.rf (by decide)⟩
    · rw [if_neg z] at e
      rw [if_neg (fun y => z y.2), e]
      exact ⟨C, CF.rf⟩
  refine Sp0.of (by decide) (Nat.le_of_ble_eq_true rfl) ?_
  show E mX8_lose none _ 0 [some (.ref 0), some (.int k)] [] SH h 0 0
  by_cases hok : loOk k
  · obtain ⟨q, hq, rfl⟩ := nI_of (x := k) (by rw [i_lt, i_0]; have := hok.1; omega)
    have q1 : 1 ≤ q := by have := hok.1; rw [nI_toInt hq] at this; omega
    have q2 : q ≤ 50 := by have := hok.2; rw [nI_toInt hq] at this; omega
    refine E_iload_n dX8_lose_0 rfl ?_
    refine E_ic 1 dX8_lose_1 (by decide) ?_
    refine E_icmp_lt 11 dX8_lose_2 (by decide) (fun c_2 => absurd c_2 (by rw [i_lt, h1]; have := hok.1; omega)) (fun c_2 => ?_)
    refine E_iload_n dX8_lose_5 rfl ?_
    refine E_bi 50 dX8_lose_6 (by decide) ?_
    refine E_icmp_le 15 dX8_lose_8 (by decide) (fun c_8 => ?_) (fun c_8 => absurd (by rw [i_le, h50]; exact hok.2) c_8)
    refine E_aload_n dX8_lose_15 rfl ?_
    refine E_getR dX8_lose_16 fl_X8_22 rfl r02 rfl ?_
    refine E_iload_n dX8_lose_19 rfl ?_
    refine cV1 (N := mX0_tellLoss) dX8_lose_20 cn_X0_tellLoss lk_X8_106 ⟨Nat.le_of_ble_eq_true rfl, Nat.le_of_ble_eq_true rfl⟩ rfl rfl (Nat.le_of_ble_eq_true rfl) ⟨rfl, rfl⟩ (c_tellLoss rfl hT l0' q1 q2) (fun v3 h3 ⟨hv3, hh3⟩ => ?_)
    rw [hv3]
    exact E_reti dX8_lose_23 rfl rfl (Nat.le_of_ble_eq_true rfl) (Nat.le_of_ble_eq_true rfl) ⟨rfl, rfl, fin q h3 q1 q2 hh3⟩
  · refine E_iload_n dX8_lose_0 rfl ?_
    refine E_ic 1 dX8_lose_1 (by decide) ?_
    refine E_icmp_lt 11 dX8_lose_2 (by decide) (fun c_2 => ?_) (fun c_2 => ?_)
    · refine E_ic (-1) dX8_lose_11 (by decide) ?_
      refine E_goto 23 dX8_lose_12 (by decide) ?_
      exact E_reti dX8_lose_23 rfl rfl (Nat.le_of_ble_eq_true rfl) (Nat.le_of_ble_eq_true rfl) ⟨rfl, bad hok⟩
    · refine E_iload_n dX8_lose_5 rfl ?_
      refine E_bi 50 dX8_lose_6 (by decide) ?_
      refine E_icmp_le 15 dX8_lose_8 (by decide) (fun c_8 => absurd ⟨by rw [i_lt, h1] at c_2; omega, by rw [i_le, h50] at c_8; exact c_8⟩ hok) (fun c_8 => ?_)
      refine E_ic (-1) dX8_lose_11 (by decide) ?_
      refine E_goto 23 dX8_lose_12 (by decide) ?_
      exact E_reti dX8_lose_23 rfl rfl (Nat.le_of_ble_eq_true rfl) (Nat.le_of_ble_eq_true rfl) ⟨rfl, bad hok⟩
theorem lo_ok {a b : Ab} (H : R a b) (k : Int32) : loR (a.2.2.1 5) k = loR (b.2.2.1 5) k ∧ R (loA a k) (aN b 5 (loT (b.2.2.1 5) k)) := by
  have e5 : a.2.2.1 5 = b.2.2.1 5 := H.1.n 5 rfl
  refine ⟨by rw [e5], ?_⟩
  rw [← e5]
  unfold loA loT
  by_cases z : loOk k ∧ ¬ k.toNatClampNeg ∈ a.2.2.1 5 ∧ ¬ 8 ≤ (a.2.2.1 5).length
  · rw [if_pos z, if_pos z]
    obtain ⟨z1, z2, z3⟩ := z
    obtain ⟨D, l1, bd, T, hs, h20, h8, hr⟩ := H
    have hT : TlT (a.2.2.1 5) := ⟨T.1, T.2.1, T.2.2.1⟩
    obtain ⟨q, hq, rfl⟩ := nI_of (x := k) (by rw [i_lt, i_0]; have := z1.1; omega)
    have q1 : 1 ≤ q := by have := z1.1; rw [nI_toInt hq] at this; omega
    have q2 : q ≤ 50 := by have := z1.2; rw [nI_toInt hq] at this; omega
    rw [nI_clamp hq] at z2 ⊢
    have hT2 := hT.app q1 q2 z2 (by omega)
    have t5 : (aL (aN a 5 (a.2.2.1 5 ++ [q])) 0 (lN (msk (a.2.2.1 5 ++ [q])))).2.2.1 5 = a.2.2.1 5 ++ [q] := aN_at a 5 _
    refine ⟨(D.sN 5 rfl).lL _, l1, bd, ?_, hs, h20, h8, fun y => ?_⟩
    · unfold Tl
      rw [t5]
      exact ⟨hT2.1, hT2.2.1, hT2.2.2, rfl⟩
    · obtain ⟨S, rb, hC, hL⟩ := hr y
      have hn : ∀ j, j = 0 ∨ j = 1 ∨ j = 3 ∨ j = 4 → (aL (aN a 5 (a.2.2.1 5 ++ [q])) 0 (lN (msk (a.2.2.1 5 ++ [q])))).2.2.1 j = a.2.2.1 j := by
        rintro j (rfl | rfl | rfl | rfl) <;> rfl
      exact ⟨S, rb, fun y => ⟨(hC y).1.of (fun _ _ => rfl) hn rfl (fun _ _ => rfl), (hC y).2⟩, fun y => ⟨(hL y).1.of (fun _ _ => rfl) hn rfl (fun _ _ => rfl), (hL y).2⟩⟩
  · rw [if_neg z, if_neg z, e5, aN_self]
    exact H

