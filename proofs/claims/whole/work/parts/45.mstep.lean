/-! the model: comes, steps, step -/
theorem take_idle {xs : List Nat} (h : xs.length ≤ 500) : (xs ++ []).take 500 = xs := by rw [List.append_nil, List.take_of_length_le h]
theorem cm_bytes {b : Ab} {h0 h : Hp} (M : MRep b h) (F0 : MF h0 h) {Q : QT} (kk : ∀ h', MRep (aN b 1 ((b.2.2.1 1 ++ b.2.2.1 2).take 500)) h' → MF h0 h' → Q none SH h') : ∀ (n i : Nat) (h3 : Hp), (b.2.2.1 2).length - i ≤ n → i ≤ (b.2.2.1 2).length → MRep (aN b 1 ((b.2.2.1 1 ++ (b.2.2.1 2).take i).take 500)) h3 → MF h0 h3 → E mX9_comes none Q 187 [some (.ref 59), some (.int (nI i))] [] SH h3 0 0 := by
  have hl16 : (b.2.2.1 2).length ≤ 16 := M.2.2.2.2.2.2.2.1.2.1
  intro n
  have fin : ∀ (h3 : Hp), MRep (aN b 1 ((b.2.2.1 1 ++ (b.2.2.1 2).take (b.2.2.1 2).length).take 500)) h3 → MF h0 h3 → E mX9_comes none Q 187 [some (.ref 59), some (.int (nI (b.2.2.1 2).length))] [] SH h3 0 0 := by
    intro h3 M3 F3
    have f1 : h3.1 59 30 = nI (b.2.2.1 2).length := M3.2.2.2.2.2.2.2.1.1
    rw [List.take_length] at M3
    refine E_iload_n dX9_comes_187 rfl ?_
    refine E_aload_n dX9_comes_188 rfl ?_
    refine E_getI dX9_comes_189 fl_X9_203 rfl rfl ?_
    rw [f1]
    refine E_icmp_ge 211 dX9_comes_192 (by decide) (fun c_192 => ?_) (fun c_192 => absurd (nI_le (by omega) (by omega)) c_192)
    refine E_goto 349 dX9_comes_211 (by decide) ?_
    exact E_retv dX9_comes_349 rfl (Nat.le_of_ble_eq_true rfl) (Nat.le_of_ble_eq_true rfl) (kk h3 M3 F3)
  induction n with
  | zero =>
    intro i h3 r1 r2 M3 F3
    have e : i = (b.2.2.1 2).length := by omega
    subst e
    exact fin h3 M3 F3
  | succ n ih =>
    intro i h3 r1 r2 M3 F3
    by_cases e : i = (b.2.2.1 2).length
    · subst e
      exact fin h3 M3 F3
    · have hi : i < (b.2.2.1 2).length := by omega
      obtain ⟨q0, q1, q2, q3, q9, q10, q11, q13, q14, q22, q29, q33, q34, q36, q37, q40⟩ := id M3.2.2.1
      obtain ⟨f1, hl, fB⟩ := id M3.2.2.2.2.2.2.2.1
      have f1 : h3.1 59 30 = nI (b.2.2.1 2).length := f1
      have fB : BSeg h3 70 0 (b.2.2.1 2) := fB
      have hr := fB.at hi
      rw [Nat.zero_add] at hr
      refine E_iload_n dX9_comes_187 rfl ?_
      refine E_aload_n dX9_comes_188 rfl ?_
      refine E_getI dX9_comes_189 fl_X9_203 rfl rfl ?_
      rw [f1]
      refine E_icmp_ge 211 dX9_comes_192 (by decide) (fun c_192 => absurd c_192 (nI_ge hi (by omega))) (fun c_192 => ?_)
      refine E_aload_n dX9_comes_195 rfl ?_
      refine E_aload_n dX9_comes_196 rfl ?_
      refine E_getR dX9_comes_197 fl_X9_43 rfl (by assumption) rfl ?_
      refine E_iload_n dX9_comes_200 rfl ?_
      refine E_bald dX9_comes_201 rfl (vp_in_nI (by omega) (by omega)) ?_
      rw [nI_clamp (by omega), hr]
      refine cV1 (N := mX9_builds) dX9_comes_202 cn_X9_builds lk_X9_218 ⟨Nat.le_of_ble_eq_true rfl, Nat.le_of_ble_eq_true rfl⟩ rfl rfl (Nat.le_of_ble_eq_true rfl) ⟨rfl, rfl⟩ (m_builds M3 (fB.lt i)) (fun v4 h4 ⟨hv4, M4, F4⟩ => ?_)
      rw [hv4]
      refine E_iinc dX9_comes_205 rfl (by decide) ?_
      refine E_goto 187 dX9_comes_208 (by decide) ?_
      rw [nI_inc]
      rw [aN_aN, aN_at, addAll_step hi] at M4
      exact ih (i + 1) h4 (by omega) (by omega) M4 (F3.tr F4)
theorem cm_block {b : Ab} {h0 h : Hp} (M : MRep b h) (hs : eOk (b.1 1)) {j B f : Nat} (hj : j ≤ 500) (hj2 : b.1 11 = nI j) (hB : b.1 16 = nI B) (hB2 : B ≤ 64) (hf : f < 8) (hF : b.1 19 = nI f) {Q : QT} (kk : ∀ h', MRep (aN b 1 ((b.2.2.1 1 ++ (((tF b f).getD []).drop (B * j)).take B).take 500)) h' → MF h0 h' → Q none SH h') : ∀ (n t : Nat) (h3 : Hp), B - t ≤ n → t ≤ B → (0 < t → B * j + t ≤ ((tF b f).getD []).length) → MRep (aN b 1 ((b.2.2.1 1 ++ (((tF b f).getD []).drop (B * j)).take t).take 500)) h3 → MF h0 h3 → E mX9_comes none Q 235 [some (.ref 59), some (.int (nI (B * j + t)))] [] SH h3 0 0 := by
  have tl := tg_lt b
  have hBj : B * j ≤ 32000 := by rw [show (32000 : Nat) = 64 * 500 by decide]; exact Nat.mul_le_mul hB2 hj
  generalize how : (tF b f).getD [] = own at kk ⊢
  have hol : own.length ≤ 500 := by rw [← how]; exact (M.fm tl hf).2.1
  have hix : (8 : Int32) * nI (tg b) + nI f = nI (8 * tg b + f) := by rw [show (8 : Int32) = nI 8 by decide, pk_mul, nI_add]
  intro n
  have fin : ∀ (h3 : Hp), MRep (aN b 1 ((b.2.2.1 1 ++ (own.drop (B * j)).take B).take 500)) h3 → MF h0 h3 → E mX9_comes none Q 235 [some (.ref 59), some (.int (nI (B * j + B)))] [] SH h3 0 0 := by
    intro h3 M3 F3
    have k16 : h3.1 59 6 = nI B := (M3.1 16 (by decide)).trans hB
    have k11 : h3.1 59 27 = nI j := (M3.1 11 (by decide)).trans hj2
    refine E_iload_n dX9_comes_235 rfl ?_
    refine E_aload_n dX9_comes_236 rfl ?_
    refine E_getI dX9_comes_237 fl_X9_97 rfl rfl ?_
    refine E_aload_n dX9_comes_240 rfl ?_
    refine E_getI dX9_comes_241 fl_X9_134 rfl rfl ?_
    refine E_imul dX9_comes_244 ?_
    refine E_aload_n dX9_comes_245 rfl ?_
    refine E_getI dX9_comes_246 fl_X9_97 rfl rfl ?_
    refine E_iadd dX9_comes_249 ?_
    rw [k16, k11, pk_mul, nI_add]
    refine E_icmp_ge 306 dX9_comes_250 (by decide) (fun c_250 => ?_) (fun c_250 => absurd (nI_le (by omega) (by omega)) c_250)
    refine E_goto 349 dX9_comes_306 (by decide) ?_
    exact E_retv dX9_comes_349 rfl (Nat.le_of_ble_eq_true rfl) (Nat.le_of_ble_eq_true rfl) (kk h3 M3 F3)
  induction n with
  | zero =>
    intro t h3 r1 r2 r0 M3 F3
    have e : t = B := by omega
    subst e
    exact fin h3 M3 F3
  | succ n ih =>
    intro t h3 r1 r2 r0 M3 F3
    by_cases e : t = B
    · subst e
      exact fin h3 M3 F3
    · have k16 : h3.1 59 6 = nI B := (M3.1 16 (by decide)).trans hB
      obtain ⟨q0, q1, q2, q3, q9, q10, q11, q13, q14, q22, q29, q33, q34, q36, q37, q40⟩ := id M3.2.2.1
      have k11 : h3.1 59 27 = nI j := (M3.1 11 (by decide)).trans hj2
      have k19 : h3.1 59 16 = nI f := (M3.1 19 (by decide)).trans hF
      have fm : h3.1 61 (8 * tg b + f) = szI (tF b f) ∧ ((tF b f).getD []).length ≤ 500 ∧ BSeg h3 60 (500 * (8 * tg b + f)) ((tF b f).getD []) := M3.fm tl hf
      refine E_iload_n dX9_comes_235 rfl ?_
      refine E_aload_n dX9_comes_236 rfl ?_
      refine E_getI dX9_comes_237 fl_X9_97 rfl rfl ?_
      refine E_aload_n dX9_comes_240 rfl ?_
      refine E_getI dX9_comes_241 fl_X9_134 rfl rfl ?_
      refine E_imul dX9_comes_244 ?_
      refine E_aload_n dX9_comes_245 rfl ?_
      refine E_getI dX9_comes_246 fl_X9_97 rfl rfl ?_
      refine E_iadd dX9_comes_249 ?_
      rw [k16, k11, pk_mul, nI_add]
      refine E_icmp_ge 306 dX9_comes_250 (by decide) (fun c_250 => absurd c_250 (nI_ge (by omega) (by omega))) (fun c_250 => ?_)
      refine E_iload_n dX9_comes_253 rfl ?_
      refine E_aload_n dX9_comes_254 rfl ?_
      refine E_bi 8 dX9_comes_255 (by decide) ?_
      refine E_aload_n dX9_comes_257 rfl ?_
      refine cV0 (N := mX9_target) dX9_comes_258 cn_X9_target lk_X9_157 ⟨Nat.le_of_ble_eq_true rfl, Nat.le_of_ble_eq_true rfl⟩ rfl rfl (Nat.le_of_ble_eq_true rfl) ⟨rfl, rfl⟩ (m_target M3 hs) (fun v4 h4 ⟨hv4, hh4⟩ => ?_)
      rw [hv4, hh4]
      refine E_imul dX9_comes_261 ?_
      refine E_aload_n dX9_comes_262 rfl ?_
      refine E_getI dX9_comes_263 fl_X9_112 rfl rfl ?_
      rw [k19]
      refine E_iadd dX9_comes_266 ?_
      rw [show (8 : Int32) * nI (tg (aN b 1 ((b.2.2.1 1 ++ (own.drop (B * j)).take t).take 500))) + nI f = nI (8 * tg b + f) from hix]
      refine cV1 (N := mX9_sizeOf) dX9_comes_267 cn_X9_sizeOf lk_X9_69 ⟨Nat.le_of_ble_eq_true rfl, Nat.le_of_ble_eq_true rfl⟩ rfl rfl (Nat.le_of_ble_eq_true rfl) ⟨rfl, rfl⟩ (m_sizeOf q1 (by omega) fm.1 fm.2.1) (fun v5 h5 ⟨hv5, hh5⟩ => ?_)
      rw [hv5, hh5, how]
      refine E_icmp_ge 306 dX9_comes_270 (by decide) (fun c_270 => ?_) (fun c_270 => ?_)
      · refine E_goto 349 dX9_comes_306 (by decide) ?_
        have hge : own.length ≤ B * j + t := (nI_leI (by omega) (by omega)).mp c_270
        rw [List.take_of_length_le (l := own.drop (B * j)) (by simp; omega)] at M3 kk
        exact E_retv dX9_comes_349 rfl (Nat.le_of_ble_eq_true rfl) (Nat.le_of_ble_eq_true rfl) (kk h3 M3 F3)
      · have hlt : B * j + t < own.length := Nat.lt_of_not_le fun q => c_270 (nI_le q (by omega))
        have hr := (show BSeg h3 60 (500 * (8 * tg b + f)) own from how ▸ fm.2.2).at hlt
        have hv := getD_lt (show ∀ x ∈ own, x < 256 from how ▸ fm.2.2.1) (B * j + t)
        refine E_aload_n dX9_comes_273 rfl ?_
        refine E_aload_n dX9_comes_274 rfl ?_
        refine E_getR dX9_comes_275 fl_X9_7 rfl (by assumption) rfl ?_
        refine E_si 500 dX9_comes_278 (by decide) ?_
        refine E_bi 8 dX9_comes_281 (by decide) ?_
        refine E_aload_n dX9_comes_283 rfl ?_
        refine cV0 (N := mX9_target) dX9_comes_284 cn_X9_target lk_X9_157 ⟨Nat.le_of_ble_eq_true rfl, Nat.le_of_ble_eq_true rfl⟩ rfl rfl (Nat.le_of_ble_eq_true rfl) ⟨rfl, rfl⟩ (m_target M3 hs) (fun v6 h6 ⟨hv6, hh6⟩ => ?_)
        rw [hv6, hh6]
        refine E_imul dX9_comes_287 ?_
        refine E_aload_n dX9_comes_288 rfl ?_
        refine E_getI dX9_comes_289 fl_X9_112 rfl rfl ?_
        rw [k19]
        refine E_iadd dX9_comes_292 ?_
        rw [show (8 : Int32) * nI (tg (aN b 1 ((b.2.2.1 1 ++ (own.drop (B * j)).take t).take 500))) + nI f = nI (8 * tg b + f) from hix, show (500 : Int32) = nI 500 by decide]
        refine E_imul dX9_comes_293 ?_
        rw [pk_mul]
        refine E_iload_n dX9_comes_294 rfl ?_
        refine E_iadd dX9_comes_295 ?_
        rw [nI_add]
        refine E_bald dX9_comes_296 rfl (vp_in_nI (by omega) (by omega)) ?_
        rw [nI_clamp (by omega), hr]
        refine cV1 (N := mX9_builds) dX9_comes_297 cn_X9_builds lk_X9_218 ⟨Nat.le_of_ble_eq_true rfl, Nat.le_of_ble_eq_true rfl⟩ rfl rfl (Nat.le_of_ble_eq_true rfl) ⟨rfl, rfl⟩ (m_builds M3 hv) (fun v7 h7 ⟨hv7, M7, F7⟩ => ?_)
        rw [hv7]
        refine E_iinc dX9_comes_300 rfl (by decide) ?_
        refine E_goto 235 dX9_comes_303 (by decide) ?_
        rw [nI_inc]
        have h8 : t < (own.drop (B * j)).length := by simp; omega
        have h9 : own.getD (B * j + t) 0 = (own.drop (B * j)).getD t 0 := by simp [List.getD]
        rw [aN_aN, aN_at, h9, addAll_step h8] at M7
        exact ih (t + 1) h7 (by omega) (by omega) (fun _ => by omega) M7 (F3.tr F7)
theorem m_comes {b : Ab} {h : Hp} (M : MRep b h) (hs : eOk (b.1 1)) (P : MTkPre b) : Sp0 mX9_comes [.ref 59] SH h (fun v h' => v = none ∧ MRep (mTk b) h' ∧ MF h h') := by
  obtain ⟨q0, q1, q2, q3, q9, q10, q11, q13, q14, q22, q29, q33, q34, q36, q37, q40⟩ := id M.2.2.1
  have g9 : h.1 59 25 = b.1 9 := M.1 9 (by decide)
  have hbl : (b.2.2.1 1).length ≤ 500 := M.2.2.2.2.2.2.1.2.1
  refine Sp0.of (by decide) (Nat.le_of_ble_eq_true rfl) ?_
  show E mX9_comes none _ 0 [some (.ref 59), none] [] SH h 0 0
  rcases P with d | ⟨d, x, hx1, hx2, hx, hw⟩ | d | ⟨d, f, hf, hF⟩ | d | ⟨d, j, B, f, hj, hj2, hB, hB2, hf, hF⟩ | ⟨d, f, hf, hF⟩ | d
  · rw [d] at g9
    have M1 := M.setI 12 1 (by decide)
    have F1 : MF h (sI h 59 15 1) := MF_sI MF.rf (by decide)
    refine E_aload_n dX9_comes_0 rfl ?_
    refine E_getI dX9_comes_1 fl_X9_131 rfl rfl ?_
    rw [g9]
    refine E_tabIn 48 dX9_comes_4 (by decide) (by decide) rfl (by decide) ?_
    refine E_aload_n dX9_comes_48 rfl ?_
    refine E_ic 1 dX9_comes_49 (by decide) ?_
    refine E_putI dX9_comes_50 fl_X9_109 rfl rfl ?_
    refine E_goto 349 dX9_comes_53 (by decide) ?_
    exact cm_end M1 F1 (by rw [mTk, if_pos d])
  · rw [d] at g9
    have M1 := M.setI 12 0 (by decide)
    have F1 : MF h (sI h 59 15 0) := MF_sI MF.rf (by decide)
    refine E_aload_n dX9_comes_0 rfl ?_
    refine E_getI dX9_comes_1 fl_X9_131 rfl rfl ?_
    rw [g9]
    refine E_tabIn 56 dX9_comes_4 (by decide) (by decide) rfl (by decide) ?_
    refine E_aload_n dX9_comes_56 rfl ?_
    refine E_ic 0 dX9_comes_57 (by decide) ?_
    refine E_putI dX9_comes_58 fl_X9_109 rfl rfl ?_
    refine E_aload_n dX9_comes_61 rfl ?_
    refine cV0 (N := mX9_nodeComes) dX9_comes_62 cn_X9_nodeComes lk_X9_212 ⟨Nat.le_of_ble_eq_true rfl, Nat.le_of_ble_eq_true rfl⟩ rfl rfl (Nat.le_of_ble_eq_true rfl) ⟨rfl, rfl⟩ (m_nodeComes M1 hs hx1 hx2 hx hw) (fun v2 h2 ⟨hv2, M2, F2⟩ => ?_)
    rw [hv2]
    refine E_goto 349 dX9_comes_65 (by decide) ?_
    exact cm_end M2 (F1.tr F2) (by rw [mTk, if_neg (by rw [d]; decide), if_pos d, xN_of hx (by omega)]; rfl)
  · rw [d] at g9
    refine E_aload_n dX9_comes_0 rfl ?_
    refine E_getI dX9_comes_1 fl_X9_131 rfl rfl ?_
    rw [g9]
    refine E_tabIn 68 dX9_comes_4 (by decide) (by decide) rfl (by decide) ?_
    refine E_aload_n dX9_comes_68 rfl ?_
    refine cV0 (N := mX9_sumsCome) dX9_comes_69 cn_X9_sumsCome lk_X9_215 ⟨Nat.le_of_ble_eq_true rfl, Nat.le_of_ble_eq_true rfl⟩ rfl rfl (Nat.le_of_ble_eq_true rfl) ⟨rfl, rfl⟩ (m_sumsCome M) (fun v2 h2 ⟨hv2, M2, F2⟩ => ?_)
    rw [hv2]
    refine E_goto 349 dX9_comes_72 (by decide) ?_
    exact cm_end M2 F2 (by rw [mTk, if_neg (by rw [d]; decide), if_neg (by rw [d]; decide), if_pos d])
  · rw [d] at g9
    refine E_aload_n dX9_comes_0 rfl ?_
    refine E_getI dX9_comes_1 fl_X9_131 rfl rfl ?_
    rw [g9]
    refine E_tabIn 75 dX9_comes_4 (by decide) (by decide) rfl (by decide) ?_
    exact cm_gone M hs hf hF (by rw [mTk, if_neg (by rw [d]; decide), if_neg (by rw [d]; decide), if_neg (by rw [d]; decide), if_pos d, xN_of hF (by omega)])
  · rw [d] at g9
    have g26 : h.1 64 9 = b.1 26 := M.1 26 (by decide)
    have f1 : h.1 59 30 = nI (b.2.2.1 2).length := M.2.2.2.2.2.2.2.1.1
    have M1 := M.setI 26 (b.1 26 + nI (b.2.2.1 2).length) (by decide)
    have F1 : MF h (sI h 64 9 (b.1 26 + nI (b.2.2.1 2).length)) := MF_sI MF.rf (by decide)
    have e : takeBytesA b = mTk b := by rw [mTk, if_neg (by rw [d]; decide), if_neg (by rw [d]; decide), if_neg (by rw [d]; decide), if_neg (by rw [d]; decide), if_pos d]
    refine E_aload_n dX9_comes_0 rfl ?_
    refine E_getI dX9_comes_1 fl_X9_131 rfl rfl ?_
    rw [g9]
    refine E_tabIn 171 dX9_comes_4 (by decide) (by decide) rfl (by decide) ?_
    refine E_aload_n dX9_comes_171 rfl ?_
    refine E_getR dX9_comes_172 fl_X9_24 rfl (by assumption) rfl ?_
    refine E_bi 9 dX9_comes_175 (by decide) ?_
    refine E_dup2 rfl rfl dX9_comes_177 ?_
    refine E_iald dX9_comes_178 rfl (vp_in_nI (n := 9) (by decide) (by decide)) ?_
    rw [show h.1 64 (9 : Int32).toNatClampNeg = b.1 26 from g26]
    refine E_aload_n dX9_comes_179 rfl ?_
    refine E_getI dX9_comes_180 fl_X9_203 rfl rfl ?_
    rw [f1]
    refine E_iadd dX9_comes_183 ?_
    refine E_iast dX9_comes_184 rfl (vp_in_nI (n := 9) (by decide) (by decide)) ?_
    refine E_ic 0 dX9_comes_185 (by decide) ?_
    refine E_istore_n dX9_comes_186 (by decide) ?_
    rw [← e]
    exact cm_bytes M1 F1 (fun h' M' F' => ⟨rfl, rfl, M', F'⟩) _ 0 _ (Nat.le_refl _) (by omega) (by rw [List.take_zero, take_idle (show ((aI b 26 (b.1 26 + nI (b.2.2.1 2).length)).2.2.1 1).length ≤ 500 from hbl), aN_self]; exact M1) F1
  · rw [d] at g9
    have g25 : h.1 64 8 = b.1 25 := M.1 25 (by decide)
    have M1 := M.setI 25 (b.1 25 + 1) (by decide)
    have F1 : MF h (sI h 64 8 (b.1 25 + 1)) := MF_sI MF.rf (by decide)
    have k16 : (sI h 64 8 (b.1 25 + 1)).1 59 6 = nI B := (M1.1 16 (by decide)).trans hB
    have k11 : (sI h 64 8 (b.1 25 + 1)).1 59 27 = nI j := (M1.1 11 (by decide)).trans hj2
    have e : mBlkA b j B f = mTk b := by rw [mTk, if_neg (by rw [d]; decide), if_neg (by rw [d]; decide), if_neg (by rw [d]; decide), if_neg (by rw [d]; decide), if_neg (by rw [d]; decide), if_pos d, xN_of hj2 (by omega), xN_of hB (by omega), xN_of hF (by omega)]
    refine E_aload_n dX9_comes_0 rfl ?_
    refine E_getI dX9_comes_1 fl_X9_131 rfl rfl ?_
    rw [g9]
    refine E_tabIn 214 dX9_comes_4 (by decide) (by decide) rfl (by decide) ?_
    refine E_aload_n dX9_comes_214 rfl ?_
    refine E_getR dX9_comes_215 fl_X9_24 rfl (by assumption) rfl ?_
    refine E_bi 8 dX9_comes_218 (by decide) ?_
    refine E_dup2 rfl rfl dX9_comes_220 ?_
    refine E_iald dX9_comes_221 rfl (vp_in_nI (n := 8) (by decide) (by decide)) ?_
    rw [show h.1 64 (8 : Int32).toNatClampNeg = b.1 25 from g25]
    refine E_ic 1 dX9_comes_222 (by decide) ?_
    refine E_iadd dX9_comes_223 ?_
    refine E_iast dX9_comes_224 rfl (vp_in_nI (n := 8) (by decide) (by decide)) ?_
    rw [show (8 : Int32).toNatClampNeg = 8 by decide]
    refine E_aload_n dX9_comes_225 rfl ?_
    refine E_getI dX9_comes_226 fl_X9_97 rfl rfl ?_
    refine E_aload_n dX9_comes_229 rfl ?_
    refine E_getI dX9_comes_230 fl_X9_134 rfl rfl ?_
    rw [k16, k11]
    refine E_imul dX9_comes_233 ?_
    rw [pk_mul]
    refine E_istore_n dX9_comes_234 (by decide) ?_
    rw [← e]
    exact cm_block M1 hs hj hj2 hB hB2 hf hF (fun h' M' F' => ⟨rfl, rfl, M', F'⟩) B 0 _ (by omega) (by omega) (by omega) (by rw [List.take_zero, take_idle (show ((aI b 25 (b.1 25 + 1)).2.2.1 1).length ≤ 500 from hbl), aN_self]; exact M1) F1
  · rw [d] at g9
    refine E_aload_n dX9_comes_0 rfl ?_
    refine E_getI dX9_comes_1 fl_X9_131 rfl rfl ?_
    rw [g9]
    refine E_tabIn 309 dX9_comes_4 (by decide) (by decide) rfl (by decide) ?_
    refine E_aload_n dX9_comes_309 rfl ?_
    refine cV0 (N := mX9_endComes) dX9_comes_310 cn_X9_endComes lk_X9_222 ⟨Nat.le_of_ble_eq_true rfl, Nat.le_of_ble_eq_true rfl⟩ rfl rfl (Nat.le_of_ble_eq_true rfl) ⟨rfl, rfl⟩ (m_endComes M hs hf hF) (fun v2 h2 ⟨hv2, M2, F2⟩ => ?_)
    rw [hv2]
    refine E_goto 349 dX9_comes_313 (by decide) ?_
    exact cm_end M2 F2 (by rw [mTk, if_neg (by rw [d]; decide), if_neg (by rw [d]; decide), if_neg (by rw [d]; decide), if_neg (by rw [d]; decide), if_neg (by rw [d]; decide), if_neg (by rw [d]; decide), if_pos d, xN_of hF (by omega)])
  · rw [d] at g9
    have M1 := M.setI 12 0 (by decide)
    have F1 : MF h (sI h 59 15 0) := MF_sI MF.rf (by decide)
    have k28 : (sI h 59 15 0).1 59 21 = b.1 28 := M1.1 28 (by decide)
    have k21 : (sI h 59 15 0).1 59 17 = b.1 21 := M1.1 21 (by decide)
    have k19 : (sI h 59 15 0).1 59 16 = b.1 19 := M1.1 19 (by decide)
    have e : mAnsA b = mTk b := by rw [mTk, if_neg (by rw [d]; decide), if_neg (by rw [d]; decide), if_neg (by rw [d]; decide), if_neg (by rw [d]; decide), if_neg (by rw [d]; decide), if_neg (by rw [d]; decide), if_neg (by rw [d]; decide)]
    rw [mAnsA] at e
    refine E_aload_n dX9_comes_0 rfl ?_
    refine E_getI dX9_comes_1 fl_X9_131 rfl rfl ?_
    rw [g9]
    refine E_tabOut 316 dX9_comes_4 (by decide) (by decide) ?_
    refine E_aload_n dX9_comes_316 rfl ?_
    refine E_ic 0 dX9_comes_317 (by decide) ?_
    refine E_putI dX9_comes_318 fl_X9_109 rfl rfl ?_
    refine E_aload_n dX9_comes_321 rfl ?_
    refine E_aload_n dX9_comes_322 rfl ?_
    refine E_getI dX9_comes_323 fl_X9_225 rfl rfl ?_
    rw [k28]
    refine E_if_ne 337 dX9_comes_326 (by decide) (fun c_326 => ?_) (fun c_326 => ?_)
    · refine E_bi (-2) dX9_comes_337 (by decide) ?_
      refine E_goto 346 dX9_comes_339 (by decide) ?_
      refine E_putI dX9_comes_346 fl_X9_112 rfl rfl ?_
      exact cm_end (M1.setI 19 (-2) (by decide)) (MF_sI F1 (by decide)) (by rw [if_pos (Or.inl c_326)] at e; exact e)
    · refine E_aload_n dX9_comes_329 rfl ?_
      refine E_getI dX9_comes_330 fl_X9_181 rfl rfl ?_
      refine E_ic 3 dX9_comes_333 (by decide) ?_
      rw [k21]
      refine E_icmp_ne 342 dX9_comes_334 (by decide) (fun c_334 => ?_) (fun c_334 => ?_)
      · refine E_aload_n dX9_comes_342 rfl ?_
        refine E_getI dX9_comes_343 fl_X9_112 rfl rfl ?_
        rw [k19]
        refine E_putI dX9_comes_346 fl_X9_112 rfl rfl ?_
        exact cm_end (M1.setI 19 (b.1 19) (by decide)) (MF_sI F1 (by decide)) (by rw [if_neg (fun z => z.elim (fun y => y c_326) c_334)] at e; exact e)
      · refine E_bi (-2) dX9_comes_337 (by decide) ?_
        refine E_goto 346 dX9_comes_339 (by decide) ?_
        refine E_putI dX9_comes_346 fl_X9_112 rfl rfl ?_
        exact cm_end (M1.setI 19 (-2) (by decide)) (MF_sI F1 (by decide)) (by rw [if_pos (Or.inr c_334)] at e; exact e)
def mEm1 (b : Ab) : Ab := if b.1 9 = 2 then aN (aI b 7 (b.1 11)) 1 [] else b
def mEm2 (b : Ab) : Ab := if b.1 29 = 0 then aL b 1 (b.2.1 1 + (b.1 10).toInt64) else aL b 2 (b.2.1 2 + (b.1 10).toInt64)
def mEm3 (b : Ab) : Ab := aI (aI b 5 (b.1 5 + 1)) 8 (b.1 9)
def mEm4 (b : Ab) : Ab := aI (aN b 5 (shT (b.2.2.1 5))) 2 (if 1 ∈ b.2.2.1 5 then 1 else 0)
def mEm (b : Ab) : Ab := mEm4 (mEm3 (mEm2 (mEm1 b)))
def mOneB (b : Ab) : Ab := mEm (if b.1 2 = 0 then mMk (aI b 4 (b.1 4 + 1)) else aI b 4 (b.1 4 + 1))
def mFin (b : Ab) : Ab := if b.1 12 = 0 ∧ (b.2.2.1 0).length = 0 ∧ ltd (b.2.2.2.2.1 0) = -2 then overA b else b
def mOne (b : Ab) : Ab := if ¬ b.1 2 = 0 ∧ 0 < b.1 3 then aI (aI b 4 (b.1 4 + 1)) 3 (b.1 3 - 1) else if (mOneB b).1 2 = 0 then mFin (mTk (mOneB b)) else aI (aI (mOneB b) 6 ((mOneB b).1 6 + 1)) 3 2
def MOnePre (b : Ab) : Prop := eOk (b.1 1) ∧ (∀ t ∈ b.2.2.1 5, 1 ≤ t ∧ t ≤ 50) ∧ (¬ (¬ b.1 2 = 0 ∧ 0 < b.1 3) → (b.1 2 = 0 → MMkPre (aI b 4 (b.1 4 + 1))) ∧ eOk ((if b.1 2 = 0 then mMk (aI b 4 (b.1 4 + 1)) else aI b 4 (b.1 4 + 1)).1 29) ∧ (if b.1 2 = 0 then mMk (aI b 4 (b.1 4 + 1)) else aI b 4 (b.1 4 + 1)).2.2.1 5 = b.2.2.1 5 ∧ eOk ((mOneB b).1 1) ∧ ((mOneB b).1 2 = 0 → MTkPre (mOneB b) ∧ eOk ((mTk (mOneB b)).1 1)))
theorem st_end {c : Ab} {h h3 : Hp} {Q : QT} (M : MRep c h3) (F : MF h h3) (hs : eOk (c.1 1)) (P : c.1 2 = 0 → MTkPre c ∧ eOk ((mTk c).1 1)) (kk : ∀ h', MRep (if c.1 2 = 0 then mFin (mTk c) else aI (aI c 6 (c.1 6 + 1)) 3 2) h' → MF h h' → Q none SH h') : E mX9_steps none Q 116 [some (.ref 59)] [] SH h3 0 0 := by
  obtain ⟨q0, q1, q2, q3, q9, q10, q11, q13, q14, q22, q29, q33, q34, q36, q37, q40⟩ := id M.2.2.1
  have g2 : h3.1 59 31 = c.1 2 := M.1 2 (by decide)
  have g6 : h3.1 64 3 = c.1 6 := M.1 6 (by decide)
  by_cases h2 : c.1 2 = 0
  · rw [if_pos h2] at kk
    obtain ⟨P1, P2⟩ := P h2
    refine E_aload_n dX9_steps_116 rfl ?_
    refine E_getI dX9_steps_117 fl_X9_115 rfl rfl ?_
    rw [g2, h2]
    refine E_if_eq 139 dX9_steps_120 (by decide) (fun c_120 => ?_) (fun c_120 => absurd rfl c_120)
    refine E_aload_n dX9_steps_139 rfl ?_
    refine cV0 (N := mX9_comes) dX9_steps_140 cn_X9_comes lk_X9_147 ⟨Nat.le_of_ble_eq_true rfl, Nat.le_of_ble_eq_true rfl⟩ rfl rfl (Nat.le_of_ble_eq_true rfl) ⟨rfl, rfl⟩ (m_comes M hs P1) (fun v4 h4 ⟨hv4, M4, F4⟩ => ?_)
    rw [hv4]
    have k12 : h4.1 59 15 = (mTk c).1 12 := M4.1 12 (by decide)
    have kW : h4.1 59 12 = nI ((mTk c).2.2.1 0).length := M4.2.2.2.1.1
    have kl : ((mTk c).2.2.1 0).length ≤ 16 := M4.2.2.2.1.2.1
    refine E_aload_n dX9_steps_143 rfl ?_
    refine E_getI dX9_steps_144 fl_X9_109 rfl rfl ?_
    rw [k12]
    refine E_if_ne 170 dX9_steps_147 (by decide) (fun c_147 => ?_) (fun c_147 => ?_)
    · exact E_retv dX9_steps_170 rfl (Nat.le_of_ble_eq_true rfl) (Nat.le_of_ble_eq_true rfl) (kk h4 (by rw [mFin, if_neg (fun z => c_147 z.1)]; exact M4) (F.tr F4))
    · refine E_aload_n dX9_steps_150 rfl ?_
      refine E_getI dX9_steps_151 fl_X9_106 rfl rfl ?_
      rw [kW]
      refine E_if_ne 170 dX9_steps_154 (by decide) (fun c_154 => ?_) (fun c_154 => ?_)
      · exact E_retv dX9_steps_170 rfl (Nat.le_of_ble_eq_true rfl) (Nat.le_of_ble_eq_true rfl) (kk h4 (by rw [mFin, if_neg (fun z => c_154 (by rw [z.2.1]; decide))]; exact M4) (F.tr F4))
      · refine E_aload_n dX9_steps_157 rfl ?_
        refine cV0 (N := mX9_leastToDo) dX9_steps_158 cn_X9_leastToDo lk_X9_150 ⟨Nat.le_of_ble_eq_true rfl, Nat.le_of_ble_eq_true rfl⟩ rfl rfl (Nat.le_of_ble_eq_true rfl) ⟨rfl, rfl⟩ (m_leastToDo M4) (fun v5 h5 ⟨hv5, hh5⟩ => ?_)
        rw [hv5, hh5]
        refine E_bi (-2) dX9_steps_161 (by decide) ?_
        refine E_icmp_ne 170 dX9_steps_163 (by decide) (fun c_163 => ?_) (fun c_163 => ?_)
        · exact E_retv dX9_steps_170 rfl (Nat.le_of_ble_eq_true rfl) (Nat.le_of_ble_eq_true rfl) (kk h4 (by rw [mFin, if_neg (fun z => c_163 z.2.2)]; exact M4) (F.tr F4))
        · refine E_aload_n dX9_steps_166 rfl ?_
          refine cV0 (N := mX9_ends) dX9_steps_167 cn_X9_ends lk_X9_154 ⟨Nat.le_of_ble_eq_true rfl, Nat.le_of_ble_eq_true rfl⟩ rfl rfl (Nat.le_of_ble_eq_true rfl) ⟨rfl, rfl⟩ (m_ends M4 P2) (fun v6 h6 ⟨hv6, M6, F6⟩ => ?_)
          rw [hv6]
          exact E_retv dX9_steps_170 rfl (Nat.le_of_ble_eq_true rfl) (Nat.le_of_ble_eq_true rfl) (kk h6 (by rw [mFin, if_pos ⟨c_147, by have := (nI_eq (b := 0) (by omega) (by decide)).mp c_154; exact this, c_163⟩]; exact M6) ((F.tr F4).tr F6))
  · rw [if_neg h2] at kk
    have M4 := M.setI 6 (c.1 6 + 1) (by decide)
    have F4 : MF h (sI h3 64 3 (c.1 6 + 1)) := MF_sI F (by decide)
    refine E_aload_n dX9_steps_116 rfl ?_
    refine E_getI dX9_steps_117 fl_X9_115 rfl rfl ?_
    rw [g2]
    refine E_if_eq 139 dX9_steps_120 (by decide) (fun c_120 => absurd c_120 h2) (fun c_120 => ?_)
    refine E_aload_n dX9_steps_123 rfl ?_
    refine E_getR dX9_steps_124 fl_X9_24 rfl (by assumption) rfl ?_
    refine E_ic 3 dX9_steps_127 (by decide) ?_
    refine E_dup2 rfl rfl dX9_steps_128 ?_
    refine E_iald dX9_steps_129 rfl (vp_in_nI (n := 3) (by decide) (by decide)) ?_
    rw [show h3.1 64 (3 : Int32).toNatClampNeg = c.1 6 from g6]
    refine E_ic 1 dX9_steps_130 (by decide) ?_
    refine E_iadd dX9_steps_131 ?_
    refine E_iast dX9_steps_132 rfl (vp_in_nI (n := 3) (by decide) (by decide)) ?_
    refine E_aload_n dX9_steps_133 rfl ?_
    refine E_ic 2 dX9_steps_134 (by decide) ?_
    refine E_putI dX9_steps_135 fl_X9_125 rfl rfl ?_
    exact E_retv dX9_steps_138 rfl (Nat.le_of_ble_eq_true rfl) (Nat.le_of_ble_eq_true rfl) (kk _ (M4.setI 3 2 (by decide)) (MF_sI F4 (by decide)))
theorem st_em {c : Ab} {h h3 : Hp} {Q : QT} (M : MRep c h3) (F : MF h h3) (h29 : eOk (c.1 29)) (hT : ∀ t ∈ c.2.2.1 5, 1 ≤ t ∧ t ≤ 50) (kk : ∀ h', MRep (mEm4 (mEm3 (mEm2 c))) h' → MF h h' → E mX9_steps none Q 116 [some (.ref 59)] [] SH h' 0 0) : E mX9_steps none Q 70 [some (.ref 59)] [] SH h3 0 0 := by
  obtain ⟨q0, q1, q2, q3, q9, q10, q11, q13, q14, q22, q29, q33, q34, q36, q37, q40⟩ := id M.2.2.1
  have g29 : h3.1 59 24 = c.1 29 := M.1 29 (by decide)
  have g10 : h3.1 59 26 = c.1 10 := M.1 10 (by decide)
  have l1 : h3.2.1 65 0 = c.2.1 1 := M.2.1 1 (by decide) (by decide)
  have l2 : h3.2.1 65 1 = c.2.1 2 := M.2.1 2 (by decide) (by decide)
  have next : ∀ (h4 : Hp), MRep (mEm2 c) h4 → MF h h4 → E mX9_steps none Q 87 [some (.ref 59)] [] SH h4 0 0 := by
    intro h4 M4 F4
    have e9 : (mEm2 c).1 9 = c.1 9 := by unfold mEm2; split <;> rfl
    have hT4 : (mEm2 c).2.2.1 5 = c.2.2.1 5 := by unfold mEm2; split <;> rfl
    generalize mEm2 c = d at M4 kk e9 hT4
    have g5 : h4.1 64 2 = d.1 5 := M4.1 5 (by decide)
    have q9 : h4.2.2 59 9 = some 64 := M4.2.2.1.2.2.2.2.1
    have M5 := M4.setI 5 (d.1 5 + 1) (by decide)
    have F5 : MF h (sI h4 64 2 (d.1 5 + 1)) := MF_sI F4 (by decide)
    have k9 : (sI h4 64 2 (d.1 5 + 1)).1 59 25 = d.1 9 := M5.1 9 (by decide)
    have M6 := M5.setI 8 (d.1 9) (by decide)
    have F6 : MF h (sI (sI h4 64 2 (d.1 5 + 1)) 64 14 (d.1 9)) := MF_sI F5 (by decide)
    refine E_aload_n dX9_steps_87 rfl ?_
    refine E_getR dX9_steps_88 fl_X9_24 rfl (by assumption) rfl ?_
    refine E_ic 2 dX9_steps_91 (by decide) ?_
    refine E_dup2 rfl rfl dX9_steps_92 ?_
    refine E_iald dX9_steps_93 rfl (vp_in_nI (n := 2) (by decide) (by decide)) ?_
    rw [show h4.1 64 (2 : Int32).toNatClampNeg = d.1 5 from g5]
    refine E_ic 1 dX9_steps_94 (by decide) ?_
    refine E_iadd dX9_steps_95 ?_
    refine E_iast dX9_steps_96 rfl (vp_in_nI (n := 2) (by decide) (by decide)) ?_
    refine E_aload_n dX9_steps_97 rfl ?_
    refine E_getR dX9_steps_98 fl_X9_24 rfl (by assumption) rfl ?_
    refine E_bi 14 dX9_steps_101 (by decide) ?_
    refine E_aload_n dX9_steps_103 rfl ?_
    rw [show (2 : Int32).toNatClampNeg = 2 by decide]
    refine E_getI dX9_steps_104 fl_X9_131 rfl rfl ?_
    rw [k9]
    refine E_iast dX9_steps_107 rfl (vp_in_nI (n := 14) (by decide) (by decide)) ?_
    rw [show (14 : Int32).toNatClampNeg = 14 by decide]
    refine E_aload_n dX9_steps_108 rfl ?_
    refine E_aload_n dX9_steps_109 rfl ?_
    refine cV0 (N := mX9_isToLose) dX9_steps_110 cn_X9_isToLose lk_X9_143 ⟨Nat.le_of_ble_eq_true rfl, Nat.le_of_ble_eq_true rfl⟩ rfl rfl (Nat.le_of_ble_eq_true rfl) ⟨rfl, rfl⟩ (m_isToLose M6 (by rw [show (aI (aI d 5 (d.1 5 + 1)) 8 (d.1 9)).2.2.1 5 = c.2.2.1 5 from hT4]; exact hT)) (fun v7 h7 ⟨hv7, M7, F7⟩ => ?_)
    rw [hv7]
    refine E_putZ dX9_steps_113 fl_X9_115 rfl rfl (by split <;> simp) ?_
    exact kk _ (M7.setI 2 _ (by decide)) (MF_sI (F6.tr F7) (by decide))
  rcases h29 with h0 | h1
  · rw [h0] at g29
    have M4 : MRep (mEm2 c) (sL h3 65 0 (c.2.1 1 + (c.1 10).toInt64)) := by rw [mEm2, if_pos h0]; exact M.setL 1 _ (by decide) (by decide)
    refine E_aload_n dX9_steps_70 rfl ?_
    refine E_getR dX9_steps_71 fl_X9_27 rfl (by assumption) rfl ?_
    refine E_aload_n dX9_steps_74 rfl ?_
    refine E_getI dX9_steps_75 fl_X9_137 rfl rfl ?_
    rw [g29]
    refine E_dup2 rfl rfl dX9_steps_78 ?_
    refine E_lald dX9_steps_79 rfl (vp_in_nI (n := 0) (by decide) (by decide)) ?_
    rw [show h3.2.1 65 (0 : Int32).toNatClampNeg = c.2.1 1 from l1]
    refine E_aload_n dX9_steps_80 rfl ?_
    refine E_getI dX9_steps_81 fl_X9_140 rfl rfl ?_
    rw [g10]
    refine E_i2l dX9_steps_84 ?_
    refine E_ladd dX9_steps_85 ?_
    refine E_last dX9_steps_86 rfl (vp_in_nI (n := 0) (by decide) (by decide)) ?_
    exact next _ M4 (MF_sL F (by decide))
  · rw [h1] at g29
    have M4 : MRep (mEm2 c) (sL h3 65 1 (c.2.1 2 + (c.1 10).toInt64)) := by rw [mEm2, if_neg (by rw [h1]; decide)]; exact M.setL 2 _ (by decide) (by decide)
    refine E_aload_n dX9_steps_70 rfl ?_
    refine E_getR dX9_steps_71 fl_X9_27 rfl (by assumption) rfl ?_
    refine E_aload_n dX9_steps_74 rfl ?_
    refine E_getI dX9_steps_75 fl_X9_137 rfl rfl ?_
    rw [g29]
    refine E_dup2 rfl rfl dX9_steps_78 ?_
    refine E_lald dX9_steps_79 rfl (vp_in_nI (n := 1) (by decide) (by decide)) ?_
    rw [show h3.2.1 65 (1 : Int32).toNatClampNeg = c.2.1 2 from l2]
    refine E_aload_n dX9_steps_80 rfl ?_
    refine E_getI dX9_steps_81 fl_X9_140 rfl rfl ?_
    rw [g10]
    refine E_i2l dX9_steps_84 ?_
    refine E_ladd dX9_steps_85 ?_
    refine E_last dX9_steps_86 rfl (vp_in_nI (n := 1) (by decide) (by decide)) ?_
    exact next _ M4 (MF_sL F (by decide))
theorem st_mid {c : Ab} {h h3 : Hp} {Q : QT} (M : MRep c h3) (F : MF h h3) (h29 : eOk (c.1 29)) (hT : ∀ t ∈ c.2.2.1 5, 1 ≤ t ∧ t ≤ 50) (hs : eOk ((mEm c).1 1)) (P : (mEm c).1 2 = 0 → MTkPre (mEm c) ∧ eOk ((mTk (mEm c)).1 1)) (kk : ∀ h', MRep (if (mEm c).1 2 = 0 then mFin (mTk (mEm c)) else aI (aI (mEm c) 6 ((mEm c).1 6 + 1)) 3 2) h' → MF h h' → Q none SH h') : E mX9_steps none Q 46 [some (.ref 59)] [] SH h3 0 0 := by
  obtain ⟨q0, q1, q2, q3, q9, q10, q11, q13, q14, q22, q29, q33, q34, q36, q37, q40⟩ := id M.2.2.1
  have g9 : h3.1 59 25 = c.1 9 := M.1 9 (by decide)
  have g11 : h3.1 59 27 = c.1 11 := M.1 11 (by decide)
  have go : ∀ h4, MRep (mEm1 c) h4 → MF h h4 → E mX9_steps none Q 70 [some (.ref 59)] [] SH h4 0 0 := by
    intro h4 M4 F4
    refine st_em M4 F4 (by unfold mEm1; split <;> exact h29) (by unfold mEm1; split <;> exact hT) (fun h' M' F' => ?_)
    exact st_end M' F' hs P kk
  by_cases h9 : c.1 9 = 2
  · have M4 : MRep (mEm1 c) (sI (sI h3 64 12 (c.1 11)) 59 23 0) := by rw [mEm1, if_pos h9]; exact MRep.built0 (M.setI 7 (c.1 11) (by decide))
    refine E_aload_n dX9_steps_46 rfl ?_
    refine E_getI dX9_steps_47 fl_X9_131 rfl rfl ?_
    refine E_ic 2 dX9_steps_50 (by decide) ?_
    rw [g9]
    refine E_icmp_ne 70 dX9_steps_51 (by decide) (fun c_51 => absurd h9 c_51) (fun c_51 => ?_)
    refine E_aload_n dX9_steps_54 rfl ?_
    refine E_getR dX9_steps_55 fl_X9_24 rfl (by assumption) rfl ?_
    refine E_bi 12 dX9_steps_58 (by decide) ?_
    refine E_aload_n dX9_steps_60 rfl ?_
    refine E_getI dX9_steps_61 fl_X9_134 rfl rfl ?_
    rw [g11]
    refine E_iast dX9_steps_64 rfl (vp_in_nI (n := 12) (by decide) (by decide)) ?_
    refine E_aload_n dX9_steps_65 rfl ?_
    refine E_ic 0 dX9_steps_66 (by decide) ?_
    refine E_putI dX9_steps_67 fl_X9_119 rfl rfl ?_
    exact go _ M4 (MF_sI (MF_sI F (by decide)) (by decide))
  · have M4 : MRep (mEm1 c) h3 := by rw [mEm1, if_neg h9]; exact M
    refine E_aload_n dX9_steps_46 rfl ?_
    refine E_getI dX9_steps_47 fl_X9_131 rfl rfl ?_
    refine E_ic 2 dX9_steps_50 (by decide) ?_
    rw [g9]
    refine E_icmp_ne 70 dX9_steps_51 (by decide) (fun c_51 => ?_) (fun c_51 => absurd c_51 h9)
    exact go _ M4 F
theorem m_steps {b : Ab} {h : Hp} (M : MRep b h) (P : MOnePre b) : Sp0 mX9_steps [.ref 59] SH h (fun v h' => v = none ∧ MRep (mOne b) h' ∧ MF h h') := by
  obtain ⟨hs, hT, P3⟩ := P
  have g4 : h.1 64 1 = b.1 4 := M.1 4 (by decide)
  have q9 : h.2.2 59 9 = some 64 := M.2.2.1.2.2.2.2.1
  have M1 := M.setI 4 (b.1 4 + 1) (by decide)
  have F1 : MF h (sI h 64 1 (b.1 4 + 1)) := MF_sI MF.rf (by decide)
  have k2 : (sI h 64 1 (b.1 4 + 1)).1 59 31 = b.1 2 := M1.1 2 (by decide)
  have k3 : (sI h 64 1 (b.1 4 + 1)).1 59 32 = b.1 3 := M1.1 3 (by decide)
  refine Sp0.of (by decide) (Nat.le_of_ble_eq_true rfl) ?_
  show E mX9_steps none _ 0 [some (.ref 59)] [] SH h 0 0
  have fin : ∀ (c : Ab) (h3 : Hp), ¬ (¬ b.1 2 = 0 ∧ 0 < b.1 3) → c = (if b.1 2 = 0 then mMk (aI b 4 (b.1 4 + 1)) else aI b 4 (b.1 4 + 1)) → MRep c h3 → MF h h3 → E mX9_steps none (fun v sh' h' => sh' = SH ∧ v = none ∧ MRep (mOne b) h' ∧ MF h h') 46 [some (.ref 59)] [] SH h3 0 0 := by
    intro c h3 hno hc M3 F3
    obtain ⟨_, p2, p3, p4, p5⟩ := P3 hno
    rw [← hc] at p2 p3
    rw [mOne, if_neg hno]
    have hB : mOneB b = mEm c := by rw [hc]; rfl
    rw [hB] at p4 p5 ⊢
    exact st_mid M3 F3 p2 (by rw [p3]; exact hT) p4 p5 (fun h' M' F' => ⟨rfl, rfl, M', F'⟩)
  by_cases h2 : b.1 2 = 0
  · have hno : ¬ (¬ b.1 2 = 0 ∧ 0 < b.1 3) := fun z => z.1 h2
    have P1 := (P3 hno).1 h2
    refine E_aload_n dX9_steps_0 rfl ?_
    refine E_getR dX9_steps_1 fl_X9_24 rfl (by assumption) rfl ?_
    refine E_ic 1 dX9_steps_4 (by decide) ?_
    refine E_dup2 rfl rfl dX9_steps_5 ?_
    refine E_iald dX9_steps_6 rfl (vp_in_nI (n := 1) (by decide) (by decide)) ?_
    rw [show h.1 64 (1 : Int32).toNatClampNeg = b.1 4 from g4]
    refine E_ic 1 dX9_steps_7 (by decide) ?_
    refine E_iadd dX9_steps_8 ?_
    refine E_iast dX9_steps_9 rfl (vp_in_nI (n := 1) (by decide) (by decide)) ?_
    rw [show (1 : Int32).toNatClampNeg = 1 by decide]
    refine E_aload_n dX9_steps_10 rfl ?_
    refine E_getI dX9_steps_11 fl_X9_115 rfl rfl ?_
    rw [k2, h2]
    refine E_if_eq 35 dX9_steps_14 (by decide) (fun c_14 => ?_) (fun c_14 => absurd rfl c_14)
    refine E_aload_n dX9_steps_35 rfl ?_
    refine E_getI dX9_steps_36 fl_X9_115 rfl rfl ?_
    rw [k2, h2]
    refine E_if_ne 46 dX9_steps_39 (by decide) (fun c_39 => absurd rfl c_39) (fun c_39 => ?_)
    refine E_aload_n dX9_steps_42 rfl ?_
    refine cV0 (N := mX9_makes) dX9_steps_43 cn_X9_makes lk_X9_128 ⟨Nat.le_of_ble_eq_true rfl, Nat.le_of_ble_eq_true rfl⟩ rfl rfl (Nat.le_of_ble_eq_true rfl) ⟨rfl, rfl⟩ (m_makes M1 hs P1) (fun v4 h4 ⟨hv4, M4, F4⟩ => ?_)
    rw [hv4]
    exact fin _ h4 hno (by rw [if_pos h2]) M4 (F1.tr F4)
  · refine E_aload_n dX9_steps_0 rfl ?_
    refine E_getR dX9_steps_1 fl_X9_24 rfl (by assumption) rfl ?_
    refine E_ic 1 dX9_steps_4 (by decide) ?_
    refine E_dup2 rfl rfl dX9_steps_5 ?_
    refine E_iald dX9_steps_6 rfl (vp_in_nI (n := 1) (by decide) (by decide)) ?_
    rw [show h.1 64 (1 : Int32).toNatClampNeg = b.1 4 from g4]
    refine E_ic 1 dX9_steps_7 (by decide) ?_
    refine E_iadd dX9_steps_8 ?_
    refine E_iast dX9_steps_9 rfl (vp_in_nI (n := 1) (by decide) (by decide)) ?_
    rw [show (1 : Int32).toNatClampNeg = 1 by decide]
    refine E_aload_n dX9_steps_10 rfl ?_
    refine E_getI dX9_steps_11 fl_X9_115 rfl rfl ?_
    rw [k2]
    refine E_if_eq 35 dX9_steps_14 (by decide) (fun c_14 => absurd c_14 h2) (fun c_14 => ?_)
    refine E_aload_n dX9_steps_17 rfl ?_
    refine E_getI dX9_steps_18 fl_X9_125 rfl rfl ?_
    rw [k3]
    refine E_if_le 35 dX9_steps_21 (by decide) (fun c_21 => ?_) (fun c_21 => ?_)
    · refine E_aload_n dX9_steps_35 rfl ?_
      refine E_getI dX9_steps_36 fl_X9_115 rfl rfl ?_
      rw [k2]
      refine E_if_ne 46 dX9_steps_39 (by decide) (fun c_39 => ?_) (fun c_39 => absurd c_39 h2)
      exact fin _ _ (fun z => absurd c_21 (Int32.not_le.mpr z.2)) (by rw [if_neg h2]) M1 F1
    · refine E_aload_n dX9_steps_24 rfl ?_
      refine E_dup rfl dX9_steps_25 ?_
      refine E_getI dX9_steps_26 fl_X9_125 rfl rfl ?_
      rw [k3]
      refine E_ic 1 dX9_steps_29 (by decide) ?_
      refine E_isub dX9_steps_30 ?_
      refine E_putI dX9_steps_31 fl_X9_125 rfl rfl ?_
      exact E_retv dX9_steps_34 rfl (Nat.le_of_ble_eq_true rfl) (Nat.le_of_ble_eq_true rfl) ⟨rfl, rfl, by rw [mOne, if_pos ⟨h2, Int32.not_le.mp c_21⟩]; exact M1.setI 3 _ (by decide), MF_sI F1 (by decide)⟩

