/-! the law: both objects, call by call -/
theorem RM.fr {h h' : AH} {b c n : Nat} {S : Nat → Int → Int} (m : RM h b S) (a : Fr h h' c n) (hd : b + 9 ≤ c ∨ c + n ≤ b) : RM h' b S := by
  obtain ⟨m0, m1, m2, m3, m4, m5, m6, m7, m8⟩ := m
  exact ⟨a.at (by omega) m0, a.at (by omega) m1, a.at (by omega) m2, a.at (by omega) m3, a.at (by omega) m4, a.at (by omega) m5, a.at (by omega) m6, a.at (by omega) m7, a.at (by omega) m8⟩
theorem XR.fr {h h' : AH} {b c n : Nat} {S : Nat → Int → Int} (m : XR h b S) (a : Fr h h' c n) (hd : b + 367 ≤ c ∨ c + n ≤ b) : XR h' b S := by
  obtain ⟨F, pi, Fs, kq, N, T, x0, hK, hi0, hi1, htx, htr, hrb, heb, hhb, hr, htt⟩ := m
  exact ⟨F, pi, Fs, kq, N, T, a.at (by omega) x0, hK.fr a (by omega), hi0.fr a (by omega), hi1.fr a (by omega), htx.fr a (by omega), htr.fr a (by omega), hrb.fr a (by omega), heb.fr a (by omega), hhb.fr a (by omega), hr, htt⟩
theorem outR_rnI {f : Int → Int} (hI : inv f) {p n : Int} (hp : 0 ≤ p ∧ p < f 37) (hn : 0 ≤ n) : ∀ (m : Nat) (c : Int) (T C : Int → Int), outR T → outR (rnI f p n m c T C).2.1 := by
  intro m
  induction m with
  | zero => intro c T C h; exact h
  | succ m ih =>
    intro c T C h
    have q : outR (iub f p n (chF n c C) T).2 := outR_inv (inv_iub hI h hp hn).1
    show outR (if iuP f p n (chF n c C) T then (c, (iub f p n (chF n c C) T).2, chF n c C) else rnI f p n m (c + 1) (iub f p n (chF n c C) T).2 (chF n c C)).2.1
    by_cases w : iuP f p n (chF n c C) T
    · rw [if_pos w]; exact q
    · rw [if_neg w]; exact ih _ _ _ q
theorem outR_rnO {f : Int → Int} (hI : inv f) {p : Int} (hp : 0 ≤ p ∧ p < f 37) : ∀ (m : Nat) (n : Int) (T C : Int → Int), 0 ≤ n → outR T → outR (rnO f p m n T C).2.2.1 := by
  intro m
  induction m with
  | zero => intro n T C _ h; exact h
  | succ m ih =>
    intro n T C hn h
    have q := outR_rnI hI hp hn (p5 n).toNat 0 T C h
    show outR (if (rnI f p n (p5 n).toNat 0 T C).1 = -1 then rnO f p m (n + 1) (rnI f p n (p5 n).toNat 0 T C).2.1 (rnI f p n (p5 n).toNat 0 T C).2.2 else (n, rnI f p n (p5 n).toNat 0 T C)).2.2.1
    by_cases w : (rnI f p n (p5 n).toNat 0 T C).1 = -1
    · rw [if_pos w]; exact ih _ _ _ (by omega) q
    · rw [if_neg w]; exact q
theorem iM_run {S : Nat → Int → Int} (h : invM S) {p k : Int} : invM (runA S p k).2 := by
  refine iM_if (fun a => iM_if (fun _ => h) (fun _ => iM_if (fun _ => ?_) (fun _ => h))) (fun _ => h)
  exact invM_tri h (outR_rnO h.1.1 (by omega) 4 1 (S 2) (S 8) (by decide) h.2.1)
def xv (xs : Nat → Int32) (i : Int) : Int := (xs i.toNat).toInt
theorem xv_rg (xs : Nat → Int32) (i : Int) : rgI (xv xs i) := iI_rg _
def XA (g : Gt) (x : Xt) (b L : Nat) (xs : Nat → Int32) : Prop := match x with
  | (p, e, R, s, m, args, below, meth, c, nL, Q) => va_X b L xs s s.heap ∧ b < s.heap.size ∧ b < gz g
section Law
variable {g : Gt} {x : Xt} {M : MM} {d cs ss : Nat} {u : Nat × Nat × Nat} {h : AH} {pc b L : Nat} {xs : Nat → Int32} {lv : List (Nat × Value)} {st : List Value}
theorem z_xlen (hA : XA g x b L xs) (hx : Ok g x M d cs ss) (hd : decode M.2.1 pc = .ok (.arraylength, 1)) (k : Zj g x u h (pc + 1) lv (.int (iI (L : Int)) :: st)) : Zj g x u h pc lv (.ref b :: st) := by
  obtain ⟨p, e, R, s, m, args, below, meth, c, nL, Q⟩ := x
  obtain ⟨hx, hb, hml, hnL, hown, hts, hK, hlk, hnm, hrt, hfr, hlo, hcs, hss⟩ := hx
  obtain ⟨a1, a2, a3⟩ := hA
  intro H locs ls hW hz hu hS hl
  have e : Int32.ofNat L = iI (L : Int) := rfl
  refine va_slen hx hb a1 a2 (Nat.not_le.mpr a3) hS hd ?_
  rw [e]
  exact k H locs ls hW hz hu hS hl
theorem z_xald {i : Int} (hA : XA g x b L xs) (hx : Ok g x M d cs ss) (hd : decode M.2.1 pc = .ok (.iaload, 1)) (hi : 0 ≤ i ∧ i < (L : Int)) (hL : L ≤ 256) (k : Zj g x u h (pc + 1) lv (.int (iI (xv xs i)) :: st)) : Zj g x u h pc lv (.int (iI i) :: .ref b :: st) := by
  obtain ⟨p, e, R, s, m, args, below, meth, c, nL, Q⟩ := x
  obtain ⟨hx, hb, hml, hnL, hown, hts, hK, hlk, hnm, hrt, hfr, hlo, hcs, hss⟩ := hx
  obtain ⟨a1, a2, a3⟩ := hA
  intro H locs ls hW hz hu hS hl
  have e1 : (iI i).toNatClampNeg = i.toNat := iI_nat hi.1 hi.2 (by omega)
  have e2 : xs (iI i).toNatClampNeg = iI (xv xs i) := by rw [e1]; exact (iI_of _).symm
  refine va_sld hx hb a1 a2 (Nat.not_le.mpr a3) hS (iI_in hi.1 hi.2 (by omega)) hd ?_
  rw [e2]
  exact k H locs ls hW hz hu hS hl
theorem z_icmpS {a off : Int} {tgt : Nat} (hx : Ok g x M d cs ss) (hd : decode M.2.1 pc = .ok (.if_icmp .eq off, 3)) (ht : (pc : Int) + off = (tgt : Int)) (k : Zj g x u h tgt lv st) : Zj g x u h pc lv (.int (iI a) :: .int (iI a) :: st) := by
  obtain ⟨p, e, R, s, m, args, below, meth, c, nL, Q⟩ := x
  obtain ⟨hx, hb, hml, hnL, hown, hts, hK, hlk, hnm, hrt, hfr, hlo, hcs, hss⟩ := hx
  intro H locs ls hW hz hu hS hl
  exact lv_icmp_eq hx hb hd ht (fun _ => k H locs ls hW hz hu hS hl) (fun q => absurd rfl q)
theorem z_lcmpS {a : Int} (hx : Ok g x M d cs ss) (hd : decode M.2.1 pc = .ok (.lcmp, 1)) (k : Zj g x u h (pc + 1) lv (.int (iI 0) :: st)) : Zj g x u h pc lv (.long (lI a) :: .long (lI a) :: st) := by
  obtain ⟨p, e, R, s, m, args, below, meth, c, nL, Q⟩ := x
  obtain ⟨hx, hb, hml, hnL, hown, hts, hK, hlk, hnm, hrt, hfr, hlo, hcs, hss⟩ := hx
  intro H locs ls hW hz hu hS hl
  refine W.lcmp hx hb hd ?_
  have e1 : lI (lI a).toInt = lI a := Int64.ofInt_toInt _
  have r1 := Int64.le_toInt (lI a)
  have r2 := Int64.toInt_lt (lI a)
  have e2 : lg_cmp (lI a) (lI a) = iI 0 := by
    rw [← e1, lg_cmp_ok (by omega) (by omega)]
    congr 1
    unfold cmpI
    rw [if_neg (by omega)]
    (repeat' split) <;> omega
  rw [e2]
  exact k H locs ls hW hz hu hS hl
theorem rcv_X {S : Nat → Int → Int} {b : Nat} (hx : Ok g x M d cs ss) (hX : XR h b S) : Rcv g x h b RX8 := by
  obtain ⟨F, pi, Fs, kq, N, T, x0, _⟩ := hX
  exact rcv_obj hx x0 rfl
theorem rcv_R {S : Nat → Int → Int} {b : Nat} (hx : Ok g x M d cs ss) (hM : RM h b S) : Rcv g x h b RX9 := rcv_obj hx hM.1 rfl
end Law

theorem law_0 (g : Gt) {x : Xt} {cs ss : Nat} {u : Nat × Nat × Nat} {h : AH} {b L z : Nat} {xs : Nat → Int32} {v : Int} {S : Nat → Int → Int} (hx : Ok g x mL_law 20 cs ss) (hA : XA g x b L xs) (hL : L ≤ 256) (hX : XR h z S) (hM : RM h (z + 367) S) (hV : invM S) (hi : 0 ≤ v ∧ v + 4 ≤ (L : Int)) (kk : ∀ (h9 : AH) (S9 : Nat → Int → Int), XR h9 z S9 → RM h9 (z + 367) S9 → invM S9 → Zj g x u h9 1098 [(0, .ref b), (1, .ref z), (2, .ref (z + 367)), (3, .int (iI v))] []) : Zj g x u h 184 [(0, .ref b), (1, .ref z), (2, .ref (z + 367)), (3, .int (iI v))] [] := by
  refine z_aload_n hx dL_law_184 rfl 1 rfl ?_
  refine z_cVJ (as := []) (rest := []) hx dL_law_185 lk_L_13 wm_X8_common wv_X8_common (rcv_X hx hX) mo_X8_common (kX8_common g hX hV) (by decide) rfl rfl (Nat.le_of_ble_eq_true rfl) (fun h1 q1 => ?_)
  obtain ⟨hX1, hf1⟩ := q1
  have hM1 := RM.fr hM hf1 (by omega)
  refine z_aload_n hx dL_law_188 rfl 2 rfl ?_
  refine z_cVJ (as := []) (rest := [.int (iI (commonA S).1)]) hx dL_law_189 lk_L_17 wm_X9_common wv_X9_common (rcv_R hx hM1) mo_X9_common (kX9_common g hM1 hV) (by decide) rfl rfl (Nat.le_of_ble_eq_true rfl) (fun h2 q2 => ?_)
  obtain ⟨hM2, hf2⟩ := q2
  have hX2 := XR.fr hX1 hf2 (by omega)
  refine z_icmpS (tgt := 1098) hx dL_law_192 (by decide) ?_
  exact kk _ _ hX2 hM2 (iM_common hV)

theorem law_1 (g : Gt) {x : Xt} {cs ss : Nat} {u : Nat × Nat × Nat} {h : AH} {b L z : Nat} {xs : Nat → Int32} {v : Int} {S : Nat → Int → Int} (hx : Ok g x mL_law 20 cs ss) (hA : XA g x b L xs) (hL : L ≤ 256) (hX : XR h z S) (hM : RM h (z + 367) S) (hV : invM S) (hi : 0 ≤ v ∧ v + 4 ≤ (L : Int)) (kk : ∀ (h9 : AH) (S9 : Nat → Int → Int), XR h9 z S9 → RM h9 (z + 367) S9 → invM S9 → Zj g x u h9 1098 [(0, .ref b), (1, .ref z), (2, .ref (z + 367)), (3, .int (iI v))] []) : Zj g x u h 197 [(0, .ref b), (1, .ref z), (2, .ref (z + 367)), (3, .int (iI v))] [] := by
  refine z_aload_n hx dL_law_197 rfl 1 rfl ?_
  refine z_aload_n hx dL_law_198 rfl 0 rfl ?_
  refine z_iload_n hx dL_law_199 rfl 3 rfl ?_
  refine z_iconst hx dL_law_200 ?_
  refine z_iadd hx dL_law_201 ?_
  refine z_xald hA hx dL_law_202 (by omega) hL ?_
  refine z_aload_n hx dL_law_203 rfl 0 rfl ?_
  refine z_iload_n hx dL_law_204 rfl 3 rfl ?_
  refine z_iconst hx dL_law_205 ?_
  refine z_iadd hx dL_law_206 ?_
  refine z_xald hA hx dL_law_207 (by omega) hL ?_
  refine z_aload_n hx dL_law_208 rfl 0 rfl ?_
  refine z_iload_n hx dL_law_209 rfl 3 rfl ?_
  refine z_iconst hx dL_law_210 ?_
  refine z_iadd hx dL_law_211 ?_
  refine z_xald hA hx dL_law_212 (by omega) hL ?_
  refine z_cVJ (as := [.int (iI (xv xs (v + 1))), .int (iI (xv xs (v + 2))), .int (iI (xv xs (v + 3)))]) (rest := []) hx dL_law_213 lk_L_18 wm_X8_cosy wv_X8_cosy (rcv_X hx hX) mo_X8_cosy (kX8_cosy g hX hV (xv_rg _ _) (xv_rg _ _) (xv_rg _ _)) (by decide) rfl rfl (Nat.le_of_ble_eq_true rfl) (fun h1 q1 => ?_)
  obtain ⟨hX1, hf1⟩ := q1
  have hM1 := RM.fr hM hf1 (by omega)
  refine z_aload_n hx dL_law_216 rfl 2 rfl ?_
  refine z_aload_n hx dL_law_217 rfl 0 rfl ?_
  refine z_iload_n hx dL_law_218 rfl 3 rfl ?_
  refine z_iconst hx dL_law_219 ?_
  refine z_iadd hx dL_law_220 ?_
  refine z_xald hA hx dL_law_221 (by omega) hL ?_
  refine z_aload_n hx dL_law_222 rfl 0 rfl ?_
  refine z_iload_n hx dL_law_223 rfl 3 rfl ?_
  refine z_iconst hx dL_law_224 ?_
  refine z_iadd hx dL_law_225 ?_
  refine z_xald hA hx dL_law_226 (by omega) hL ?_
  refine z_aload_n hx dL_law_227 rfl 0 rfl ?_
  refine z_iload_n hx dL_law_228 rfl 3 rfl ?_
  refine z_iconst hx dL_law_229 ?_
  refine z_iadd hx dL_law_230 ?_
  refine z_xald hA hx dL_law_231 (by omega) hL ?_
  refine z_cVJ (as := [.int (iI (xv xs (v + 1))), .int (iI (xv xs (v + 2))), .int (iI (xv xs (v + 3)))]) (rest := [.int (iI (cosyA S (xv xs (v + 1)) (xv xs (v + 2)) (xv xs (v + 3))).1)]) hx dL_law_232 lk_L_22 wm_X9_cosy wv_X9_cosy (rcv_R hx hM1) mo_X9_cosy (kX9_cosy g hM1 hV (xv_rg _ _) (xv_rg _ _) (xv_rg _ _)) (by decide) rfl rfl (Nat.le_of_ble_eq_true rfl) (fun h2 q2 => ?_)
  obtain ⟨hM2, hf2⟩ := q2
  have hX2 := XR.fr hX1 hf2 (by omega)
  refine z_icmpS (tgt := 1098) hx dL_law_235 (by decide) ?_
  exact kk _ _ hX2 hM2 (iM_cosy hV)

theorem law_2 (g : Gt) {x : Xt} {cs ss : Nat} {u : Nat × Nat × Nat} {h : AH} {b L z : Nat} {xs : Nat → Int32} {v : Int} {S : Nat → Int → Int} (hx : Ok g x mL_law 20 cs ss) (hA : XA g x b L xs) (hL : L ≤ 256) (hX : XR h z S) (hM : RM h (z + 367) S) (hV : invM S) (hi : 0 ≤ v ∧ v + 4 ≤ (L : Int)) (kk : ∀ (h9 : AH) (S9 : Nat → Int → Int), XR h9 z S9 → RM h9 (z + 367) S9 → invM S9 → Zj g x u h9 1098 [(0, .ref b), (1, .ref z), (2, .ref (z + 367)), (3, .int (iI v))] []) : Zj g x u h 240 [(0, .ref b), (1, .ref z), (2, .ref (z + 367)), (3, .int (iI v))] [] := by
  refine z_aload_n hx dL_law_240 rfl 1 rfl ?_
  refine z_aload_n hx dL_law_241 rfl 0 rfl ?_
  refine z_iload_n hx dL_law_242 rfl 3 rfl ?_
  refine z_iconst hx dL_law_243 ?_
  refine z_iadd hx dL_law_244 ?_
  refine z_xald hA hx dL_law_245 (by omega) hL ?_
  refine z_cVJ (as := [.int (iI (xv xs (v + 1)))]) (rest := []) hx dL_law_246 lk_L_23 wm_X8_hunted wv_X8_hunted (rcv_X hx hX) mo_X8_hunted (kX8_hunted g hX hV (xv_rg _ _)) (by decide) rfl rfl (Nat.le_of_ble_eq_true rfl) (fun h1 q1 => ?_)
  obtain ⟨hX1, hf1⟩ := q1
  have hM1 := RM.fr hM hf1 (by omega)
  refine z_aload_n hx dL_law_249 rfl 2 rfl ?_
  refine z_aload_n hx dL_law_250 rfl 0 rfl ?_
  refine z_iload_n hx dL_law_251 rfl 3 rfl ?_
  refine z_iconst hx dL_law_252 ?_
  refine z_iadd hx dL_law_253 ?_
  refine z_xald hA hx dL_law_254 (by omega) hL ?_
  refine z_cVJ (as := [.int (iI (xv xs (v + 1)))]) (rest := [.int (iI (huntedA S (xv xs (v + 1))).1)]) hx dL_law_255 lk_L_27 wm_X9_hunted wv_X9_hunted (rcv_R hx hM1) mo_X9_hunted (kX9_hunted g hM1 hV (xv_rg _ _)) (by decide) rfl rfl (Nat.le_of_ble_eq_true rfl) (fun h2 q2 => ?_)
  obtain ⟨hM2, hf2⟩ := q2
  have hX2 := XR.fr hX1 hf2 (by omega)
  refine z_icmpS (tgt := 1098) hx dL_law_258 (by decide) ?_
  exact kk _ _ hX2 hM2 (iM_hunted hV)

theorem law_3 (g : Gt) {x : Xt} {cs ss : Nat} {u : Nat × Nat × Nat} {h : AH} {b L z : Nat} {xs : Nat → Int32} {v : Int} {S : Nat → Int → Int} (hx : Ok g x mL_law 20 cs ss) (hA : XA g x b L xs) (hL : L ≤ 256) (hX : XR h z S) (hM : RM h (z + 367) S) (hV : invM S) (hi : 0 ≤ v ∧ v + 4 ≤ (L : Int)) (kk : ∀ (h9 : AH) (S9 : Nat → Int → Int), XR h9 z S9 → RM h9 (z + 367) S9 → invM S9 → Zj g x u h9 1098 [(0, .ref b), (1, .ref z), (2, .ref (z + 367)), (3, .int (iI v))] []) : Zj g x u h 263 [(0, .ref b), (1, .ref z), (2, .ref (z + 367)), (3, .int (iI v))] [] := by
  refine z_aload_n hx dL_law_263 rfl 1 rfl ?_
  refine z_aload_n hx dL_law_264 rfl 0 rfl ?_
  refine z_iload_n hx dL_law_265 rfl 3 rfl ?_
  refine z_iconst hx dL_law_266 ?_
  refine z_iadd hx dL_law_267 ?_
  refine z_xald hA hx dL_law_268 (by omega) hL ?_
  refine z_cVJ (as := [.int (iI (xv xs (v + 1)))]) (rest := []) hx dL_law_269 lk_L_28 wm_X8_sheriff wv_X8_sheriff (rcv_X hx hX) mo_X8_sheriff (kX8_sheriff g hX hV (xv_rg _ _)) (by decide) rfl rfl (Nat.le_of_ble_eq_true rfl) (fun h1 q1 => ?_)
  obtain ⟨hX1, hf1⟩ := q1
  have hM1 := RM.fr hM hf1 (by omega)
  refine z_aload_n hx dL_law_272 rfl 2 rfl ?_
  refine z_aload_n hx dL_law_273 rfl 0 rfl ?_
  refine z_iload_n hx dL_law_274 rfl 3 rfl ?_
  refine z_iconst hx dL_law_275 ?_
  refine z_iadd hx dL_law_276 ?_
  refine z_xald hA hx dL_law_277 (by omega) hL ?_
  refine z_cVJ (as := [.int (iI (xv xs (v + 1)))]) (rest := [.int (iI (sheriffA S (xv xs (v + 1))).1)]) hx dL_law_278 lk_L_31 wm_X9_sheriff wv_X9_sheriff (rcv_R hx hM1) mo_X9_sheriff (kX9_sheriff g hM1 hV (xv_rg _ _)) (by decide) rfl rfl (Nat.le_of_ble_eq_true rfl) (fun h2 q2 => ?_)
  obtain ⟨hM2, hf2⟩ := q2
  have hX2 := XR.fr hX1 hf2 (by omega)
  refine z_icmpS (tgt := 1098) hx dL_law_281 (by decide) ?_
  exact kk _ _ hX2 hM2 (iM_sheriff hV)

theorem law_4 (g : Gt) {x : Xt} {cs ss : Nat} {u : Nat × Nat × Nat} {h : AH} {b L z : Nat} {xs : Nat → Int32} {v : Int} {S : Nat → Int → Int} (hx : Ok g x mL_law 20 cs ss) (hA : XA g x b L xs) (hL : L ≤ 256) (hX : XR h z S) (hM : RM h (z + 367) S) (hV : invM S) (hi : 0 ≤ v ∧ v + 4 ≤ (L : Int)) (kk : ∀ (h9 : AH) (S9 : Nat → Int → Int), XR h9 z S9 → RM h9 (z + 367) S9 → invM S9 → Zj g x u h9 1098 [(0, .ref b), (1, .ref z), (2, .ref (z + 367)), (3, .int (iI v))] []) : Zj g x u h 286 [(0, .ref b), (1, .ref z), (2, .ref (z + 367)), (3, .int (iI v))] [] := by
  refine z_aload_n hx dL_law_286 rfl 1 rfl ?_
  refine z_aload_n hx dL_law_287 rfl 0 rfl ?_
  refine z_iload_n hx dL_law_288 rfl 3 rfl ?_
  refine z_iconst hx dL_law_289 ?_
  refine z_iadd hx dL_law_290 ?_
  refine z_xald hA hx dL_law_291 (by omega) hL ?_
  refine z_cVJ (as := [.int (iI (xv xs (v + 1)))]) (rest := []) hx dL_law_292 lk_L_32 wm_X8_type wv_X8_type (rcv_X hx hX) mo_X8_type (kX8_type g hX hV (xv_rg _ _)) (by decide) rfl rfl (Nat.le_of_ble_eq_true rfl) (fun h1 q1 => ?_)
  obtain ⟨hX1, hf1⟩ := q1
  have hM1 := RM.fr hM hf1 (by omega)
  refine z_aload_n hx dL_law_295 rfl 2 rfl ?_
  refine z_aload_n hx dL_law_296 rfl 0 rfl ?_
  refine z_iload_n hx dL_law_297 rfl 3 rfl ?_
  refine z_iconst hx dL_law_298 ?_
  refine z_iadd hx dL_law_299 ?_
  refine z_xald hA hx dL_law_300 (by omega) hL ?_
  refine z_cVJ (as := [.int (iI (xv xs (v + 1)))]) (rest := [.int (iI (typeA S (xv xs (v + 1))).1)]) hx dL_law_301 lk_L_35 wm_X9_type wv_X9_type (rcv_R hx hM1) mo_X9_type (kX9_type g hM1 hV (xv_rg _ _)) (by decide) rfl rfl (Nat.le_of_ble_eq_true rfl) (fun h2 q2 => ?_)
  obtain ⟨hM2, hf2⟩ := q2
  have hX2 := XR.fr hX1 hf2 (by omega)
  refine z_icmpS (tgt := 1098) hx dL_law_304 (by decide) ?_
  exact kk _ _ hX2 hM2 (iM_type hV)

theorem law_5 (g : Gt) {x : Xt} {cs ss : Nat} {u : Nat × Nat × Nat} {h : AH} {b L z : Nat} {xs : Nat → Int32} {v : Int} {S : Nat → Int → Int} (hx : Ok g x mL_law 20 cs ss) (hA : XA g x b L xs) (hL : L ≤ 256) (hX : XR h z S) (hM : RM h (z + 367) S) (hV : invM S) (hi : 0 ≤ v ∧ v + 4 ≤ (L : Int)) (kk : ∀ (h9 : AH) (S9 : Nat → Int → Int), XR h9 z S9 → RM h9 (z + 367) S9 → invM S9 → Zj g x u h9 1098 [(0, .ref b), (1, .ref z), (2, .ref (z + 367)), (3, .int (iI v))] []) : Zj g x u h 309 [(0, .ref b), (1, .ref z), (2, .ref (z + 367)), (3, .int (iI v))] [] := by
  refine z_aload_n hx dL_law_309 rfl 1 rfl ?_
  refine z_cVJ (as := []) (rest := []) hx dL_law_310 lk_L_36 wm_X8_clear wv_X8_clear (rcv_X hx hX) mo_X8_clear (kX8_clear g hX hV) (by decide) rfl rfl (Nat.le_of_ble_eq_true rfl) (fun h1 q1 => ?_)
  obtain ⟨hX1, hf1⟩ := q1
  have hM1 := RM.fr hM hf1 (by omega)
  refine z_aload_n hx dL_law_313 rfl 2 rfl ?_
  refine z_cVJ (as := []) (rest := [.int (iI (clearA S).1)]) hx dL_law_314 lk_L_39 wm_X9_clear wv_X9_clear (rcv_R hx hM1) mo_X9_clear (kX9_clear g hM1 hV) (by decide) rfl rfl (Nat.le_of_ble_eq_true rfl) (fun h2 q2 => ?_)
  obtain ⟨hM2, hf2⟩ := q2
  have hX2 := XR.fr hX1 hf2 (by omega)
  refine z_icmpS (tgt := 1098) hx dL_law_317 (by decide) ?_
  exact kk _ _ hX2 hM2 (iM_clear hV)

theorem law_6 (g : Gt) {x : Xt} {cs ss : Nat} {u : Nat × Nat × Nat} {h : AH} {b L z : Nat} {xs : Nat → Int32} {v : Int} {S : Nat → Int → Int} (hx : Ok g x mL_law 20 cs ss) (hA : XA g x b L xs) (hL : L ≤ 256) (hX : XR h z S) (hM : RM h (z + 367) S) (hV : invM S) (hi : 0 ≤ v ∧ v + 4 ≤ (L : Int)) (kk : ∀ (h9 : AH) (S9 : Nat → Int → Int), XR h9 z S9 → RM h9 (z + 367) S9 → invM S9 → Zj g x u h9 1098 [(0, .ref b), (1, .ref z), (2, .ref (z + 367)), (3, .int (iI v))] []) : Zj g x u h 322 [(0, .ref b), (1, .ref z), (2, .ref (z + 367)), (3, .int (iI v))] [] := by
  refine z_aload_n hx dL_law_322 rfl 1 rfl ?_
  refine z_cVJ (as := []) (rest := []) hx dL_law_323 lk_L_40 wm_X8_read wv_X8_read (rcv_X hx hX) mo_X8_read (kX8_read g hX hV) (by decide) rfl rfl (Nat.le_of_ble_eq_true rfl) (fun h1 q1 => ?_)
  obtain ⟨hX1, hf1⟩ := q1
  have hM1 := RM.fr hM hf1 (by omega)
  refine z_aload_n hx dL_law_326 rfl 2 rfl ?_
  refine z_cVJ (as := []) (rest := [.int (iI (readA S).1)]) hx dL_law_327 lk_L_43 wm_X9_read wv_X9_read (rcv_R hx hM1) mo_X9_read (kX9_read g hM1 hV) (by decide) rfl rfl (Nat.le_of_ble_eq_true rfl) (fun h2 q2 => ?_)
  obtain ⟨hM2, hf2⟩ := q2
  have hX2 := XR.fr hX1 hf2 (by omega)
  refine z_icmpS (tgt := 1098) hx dL_law_330 (by decide) ?_
  exact kk _ _ hX2 hM2 (iM_read hV)

theorem law_7 (g : Gt) {x : Xt} {cs ss : Nat} {u : Nat × Nat × Nat} {h : AH} {b L z : Nat} {xs : Nat → Int32} {v : Int} {S : Nat → Int → Int} (hx : Ok g x mL_law 20 cs ss) (hA : XA g x b L xs) (hL : L ≤ 256) (hX : XR h z S) (hM : RM h (z + 367) S) (hV : invM S) (hi : 0 ≤ v ∧ v + 4 ≤ (L : Int)) (kk : ∀ (h9 : AH) (S9 : Nat → Int → Int), XR h9 z S9 → RM h9 (z + 367) S9 → invM S9 → Zj g x u h9 1098 [(0, .ref b), (1, .ref z), (2, .ref (z + 367)), (3, .int (iI v))] []) : Zj g x u h 335 [(0, .ref b), (1, .ref z), (2, .ref (z + 367)), (3, .int (iI v))] [] := by
  refine z_aload_n hx dL_law_335 rfl 1 rfl ?_
  refine z_aload_n hx dL_law_336 rfl 0 rfl ?_
  refine z_iload_n hx dL_law_337 rfl 3 rfl ?_
  refine z_iconst hx dL_law_338 ?_
  refine z_iadd hx dL_law_339 ?_
  refine z_xald hA hx dL_law_340 (by omega) hL ?_
  refine z_cVJ (as := [.int (iI (xv xs (v + 1)))]) (rest := []) hx dL_law_341 lk_L_44 wm_X8_hour wv_X8_hour (rcv_X hx hX) mo_X8_hour (kX8_hour g hX hV (xv_rg _ _)) (by decide) rfl rfl (Nat.le_of_ble_eq_true rfl) (fun h1 q1 => ?_)
  obtain ⟨hX1, hf1⟩ := q1
  have hM1 := RM.fr hM hf1 (by omega)
  refine z_aload_n hx dL_law_344 rfl 2 rfl ?_
  refine z_aload_n hx dL_law_345 rfl 0 rfl ?_
  refine z_iload_n hx dL_law_346 rfl 3 rfl ?_
  refine z_iconst hx dL_law_347 ?_
  refine z_iadd hx dL_law_348 ?_
  refine z_xald hA hx dL_law_349 (by omega) hL ?_
  refine z_cVJ (as := [.int (iI (xv xs (v + 1)))]) (rest := [.int (iI (hourA S (xv xs (v + 1))).1)]) hx dL_law_350 lk_L_47 wm_X9_hour wv_X9_hour (rcv_R hx hM1) mo_X9_hour (kX9_hour g hM1 hV (xv_rg _ _)) (by decide) rfl rfl (Nat.le_of_ble_eq_true rfl) (fun h2 q2 => ?_)
  obtain ⟨hM2, hf2⟩ := q2
  have hX2 := XR.fr hX1 hf2 (by omega)
  refine z_icmpS (tgt := 1098) hx dL_law_353 (by decide) ?_
  exact kk _ _ hX2 hM2 (iM_hour hV)

theorem law_8 (g : Gt) {x : Xt} {cs ss : Nat} {u : Nat × Nat × Nat} {h : AH} {b L z : Nat} {xs : Nat → Int32} {v : Int} {S : Nat → Int → Int} (hx : Ok g x mL_law 20 cs ss) (hA : XA g x b L xs) (hL : L ≤ 256) (hX : XR h z S) (hM : RM h (z + 367) S) (hV : invM S) (hi : 0 ≤ v ∧ v + 4 ≤ (L : Int)) (kk : ∀ (h9 : AH) (S9 : Nat → Int → Int), XR h9 z S9 → RM h9 (z + 367) S9 → invM S9 → Zj g x u h9 1098 [(0, .ref b), (1, .ref z), (2, .ref (z + 367)), (3, .int (iI v))] []) : Zj g x u h 358 [(0, .ref b), (1, .ref z), (2, .ref (z + 367)), (3, .int (iI v))] [] := by
  refine z_aload_n hx dL_law_358 rfl 1 rfl ?_
  refine z_aload_n hx dL_law_359 rfl 0 rfl ?_
  refine z_iload_n hx dL_law_360 rfl 3 rfl ?_
  refine z_iconst hx dL_law_361 ?_
  refine z_iadd hx dL_law_362 ?_
  refine z_xald hA hx dL_law_363 (by omega) hL ?_
  refine z_aload_n hx dL_law_364 rfl 0 rfl ?_
  refine z_iload_n hx dL_law_365 rfl 3 rfl ?_
  refine z_iconst hx dL_law_366 ?_
  refine z_iadd hx dL_law_367 ?_
  refine z_xald hA hx dL_law_368 (by omega) hL ?_
  refine z_cVJ (as := [.int (iI (xv xs (v + 1))), .int (iI (xv xs (v + 2)))]) (rest := []) hx dL_law_369 lk_L_48 wm_X8_darn wv_X8_darn (rcv_X hx hX) mo_X8_darn (kX8_darn g hX hV (xv_rg _ _) (xv_rg _ _)) (by decide) rfl rfl (Nat.le_of_ble_eq_true rfl) (fun h1 q1 => ?_)
  obtain ⟨hX1, hf1⟩ := q1
  have hM1 := RM.fr hM hf1 (by omega)
  refine z_aload_n hx dL_law_372 rfl 2 rfl ?_
  refine z_aload_n hx dL_law_373 rfl 0 rfl ?_
  refine z_iload_n hx dL_law_374 rfl 3 rfl ?_
  refine z_iconst hx dL_law_375 ?_
  refine z_iadd hx dL_law_376 ?_
  refine z_xald hA hx dL_law_377 (by omega) hL ?_
  refine z_aload_n hx dL_law_378 rfl 0 rfl ?_
  refine z_iload_n hx dL_law_379 rfl 3 rfl ?_
  refine z_iconst hx dL_law_380 ?_
  refine z_iadd hx dL_law_381 ?_
  refine z_xald hA hx dL_law_382 (by omega) hL ?_
  refine z_cVJ (as := [.int (iI (xv xs (v + 1))), .int (iI (xv xs (v + 2)))]) (rest := [.int (iI (darnA S (xv xs (v + 1)) (xv xs (v + 2))).1)]) hx dL_law_383 lk_L_52 wm_X9_darn wv_X9_darn (rcv_R hx hM1) mo_X9_darn (kX9_darn g hM1 hV (xv_rg _ _) (xv_rg _ _)) (by decide) rfl rfl (Nat.le_of_ble_eq_true rfl) (fun h2 q2 => ?_)
  obtain ⟨hM2, hf2⟩ := q2
  have hX2 := XR.fr hX1 hf2 (by omega)
  refine z_icmpS (tgt := 1098) hx dL_law_386 (by decide) ?_
  exact kk _ _ hX2 hM2 (iM_darn hV)

theorem law_9 (g : Gt) {x : Xt} {cs ss : Nat} {u : Nat × Nat × Nat} {h : AH} {b L z : Nat} {xs : Nat → Int32} {v : Int} {S : Nat → Int → Int} (hx : Ok g x mL_law 20 cs ss) (hA : XA g x b L xs) (hL : L ≤ 256) (hX : XR h z S) (hM : RM h (z + 367) S) (hV : invM S) (hi : 0 ≤ v ∧ v + 4 ≤ (L : Int)) (kk : ∀ (h9 : AH) (S9 : Nat → Int → Int), XR h9 z S9 → RM h9 (z + 367) S9 → invM S9 → Zj g x u h9 1098 [(0, .ref b), (1, .ref z), (2, .ref (z + 367)), (3, .int (iI v))] []) : Zj g x u h 391 [(0, .ref b), (1, .ref z), (2, .ref (z + 367)), (3, .int (iI v))] [] := by
  refine z_aload_n hx dL_law_391 rfl 1 rfl ?_
  refine z_aload_n hx dL_law_392 rfl 0 rfl ?_
  refine z_iload_n hx dL_law_393 rfl 3 rfl ?_
  refine z_iconst hx dL_law_394 ?_
  refine z_iadd hx dL_law_395 ?_
  refine z_xald hA hx dL_law_396 (by omega) hL ?_
  refine z_aload_n hx dL_law_397 rfl 0 rfl ?_
  refine z_iload_n hx dL_law_398 rfl 3 rfl ?_
  refine z_iconst hx dL_law_399 ?_
  refine z_iadd hx dL_law_400 ?_
  refine z_xald hA hx dL_law_401 (by omega) hL ?_
  refine z_cVJ (as := [.int (iI (xv xs (v + 1))), .int (iI (xv xs (v + 2)))]) (rest := []) hx dL_law_402 lk_L_53 wm_X8_carry wv_X8_carry (rcv_X hx hX) mo_X8_carry (kX8_carry g hX hV (xv_rg _ _) (xv_rg _ _)) (by decide) rfl rfl (Nat.le_of_ble_eq_true rfl) (fun h1 q1 => ?_)
  obtain ⟨hX1, hf1⟩ := q1
  have hM1 := RM.fr hM hf1 (by omega)
  refine z_aload_n hx dL_law_405 rfl 2 rfl ?_
  refine z_aload_n hx dL_law_406 rfl 0 rfl ?_
  refine z_iload_n hx dL_law_407 rfl 3 rfl ?_
  refine z_iconst hx dL_law_408 ?_
  refine z_iadd hx dL_law_409 ?_
  refine z_xald hA hx dL_law_410 (by omega) hL ?_
  refine z_aload_n hx dL_law_411 rfl 0 rfl ?_
  refine z_iload_n hx dL_law_412 rfl 3 rfl ?_
  refine z_iconst hx dL_law_413 ?_
  refine z_iadd hx dL_law_414 ?_
  refine z_xald hA hx dL_law_415 (by omega) hL ?_
  refine z_cVJ (as := [.int (iI (xv xs (v + 1))), .int (iI (xv xs (v + 2)))]) (rest := [.int (iI (carryA S (xv xs (v + 1)) (xv xs (v + 2))).1)]) hx dL_law_416 lk_L_56 wm_X9_carry wv_X9_carry (rcv_R hx hM1) mo_X9_carry (kX9_carry g hM1 hV (xv_rg _ _) (xv_rg _ _)) (by decide) rfl rfl (Nat.le_of_ble_eq_true rfl) (fun h2 q2 => ?_)
  obtain ⟨hM2, hf2⟩ := q2
  have hX2 := XR.fr hX1 hf2 (by omega)
  refine z_icmpS (tgt := 1098) hx dL_law_419 (by decide) ?_
  exact kk _ _ hX2 hM2 (iM_carry hV)

theorem law_10 (g : Gt) {x : Xt} {cs ss : Nat} {u : Nat × Nat × Nat} {h : AH} {b L z : Nat} {xs : Nat → Int32} {v : Int} {S : Nat → Int → Int} (hx : Ok g x mL_law 20 cs ss) (hA : XA g x b L xs) (hL : L ≤ 256) (hX : XR h z S) (hM : RM h (z + 367) S) (hV : invM S) (hi : 0 ≤ v ∧ v + 4 ≤ (L : Int)) (kk : ∀ (h9 : AH) (S9 : Nat → Int → Int), XR h9 z S9 → RM h9 (z + 367) S9 → invM S9 → Zj g x u h9 1098 [(0, .ref b), (1, .ref z), (2, .ref (z + 367)), (3, .int (iI v))] []) : Zj g x u h 424 [(0, .ref b), (1, .ref z), (2, .ref (z + 367)), (3, .int (iI v))] [] := by
  refine z_aload_n hx dL_law_424 rfl 1 rfl ?_
  refine z_cVJ (as := []) (rest := []) hx dL_law_425 lk_L_57 wm_X8_undo wv_X8_undo (rcv_X hx hX) mo_X8_undo (kX8_undo g hX hV) (by decide) rfl rfl (Nat.le_of_ble_eq_true rfl) (fun h1 q1 => ?_)
  obtain ⟨hX1, hf1⟩ := q1
  have hM1 := RM.fr hM hf1 (by omega)
  refine z_aload_n hx dL_law_428 rfl 2 rfl ?_
  refine z_cVJ (as := []) (rest := [.int (iI (undoA S).1)]) hx dL_law_429 lk_L_60 wm_X9_undo wv_X9_undo (rcv_R hx hM1) mo_X9_undo (kX9_undo g hM1 hV) (by decide) rfl rfl (Nat.le_of_ble_eq_true rfl) (fun h2 q2 => ?_)
  obtain ⟨hM2, hf2⟩ := q2
  have hX2 := XR.fr hX1 hf2 (by omega)
  refine z_icmpS (tgt := 1098) hx dL_law_432 (by decide) ?_
  exact kk _ _ hX2 hM2 (iM_undo hV)

theorem law_11 (g : Gt) {x : Xt} {cs ss : Nat} {u : Nat × Nat × Nat} {h : AH} {b L z : Nat} {xs : Nat → Int32} {v : Int} {S : Nat → Int → Int} (hx : Ok g x mL_law 20 cs ss) (hA : XA g x b L xs) (hL : L ≤ 256) (hX : XR h z S) (hM : RM h (z + 367) S) (hV : invM S) (hi : 0 ≤ v ∧ v + 4 ≤ (L : Int)) (kk : ∀ (h9 : AH) (S9 : Nat → Int → Int), XR h9 z S9 → RM h9 (z + 367) S9 → invM S9 → Zj g x u h9 1098 [(0, .ref b), (1, .ref z), (2, .ref (z + 367)), (3, .int (iI v))] []) : Zj g x u h 437 [(0, .ref b), (1, .ref z), (2, .ref (z + 367)), (3, .int (iI v))] [] := by
  refine z_aload_n hx dL_law_437 rfl 1 rfl ?_
  refine z_aload_n hx dL_law_438 rfl 0 rfl ?_
  refine z_iload_n hx dL_law_439 rfl 3 rfl ?_
  refine z_iconst hx dL_law_440 ?_
  refine z_iadd hx dL_law_441 ?_
  refine z_xald hA hx dL_law_442 (by omega) hL ?_
  refine z_aload_n hx dL_law_443 rfl 0 rfl ?_
  refine z_iload_n hx dL_law_444 rfl 3 rfl ?_
  refine z_iconst hx dL_law_445 ?_
  refine z_iadd hx dL_law_446 ?_
  refine z_xald hA hx dL_law_447 (by omega) hL ?_
  refine z_cVJ (as := [.int (iI (xv xs (v + 1))), .int (iI (xv xs (v + 2)))]) (rest := []) hx dL_law_448 lk_L_61 wm_X8_of wv_X8_of (rcv_X hx hX) mo_X8_of (kX8_of g hX hV (xv_rg _ _) (xv_rg _ _)) (by decide) rfl rfl (Nat.le_of_ble_eq_true rfl) (fun h1 q1 => ?_)
  obtain ⟨hX1, hf1⟩ := q1
  have hM1 := RM.fr hM hf1 (by omega)
  refine z_aload_n hx dL_law_451 rfl 2 rfl ?_
  refine z_aload_n hx dL_law_452 rfl 0 rfl ?_
  refine z_iload_n hx dL_law_453 rfl 3 rfl ?_
  refine z_iconst hx dL_law_454 ?_
  refine z_iadd hx dL_law_455 ?_
  refine z_xald hA hx dL_law_456 (by omega) hL ?_
  refine z_aload_n hx dL_law_457 rfl 0 rfl ?_
  refine z_iload_n hx dL_law_458 rfl 3 rfl ?_
  refine z_iconst hx dL_law_459 ?_
  refine z_iadd hx dL_law_460 ?_
  refine z_xald hA hx dL_law_461 (by omega) hL ?_
  refine z_cVJ (as := [.int (iI (xv xs (v + 1))), .int (iI (xv xs (v + 2)))]) (rest := [.int (iI (ofA S (xv xs (v + 1)) (xv xs (v + 2))).1)]) hx dL_law_462 lk_L_64 wm_X9_of wv_X9_of (rcv_R hx hM1) mo_X9_of (kX9_of g hM1 hV (xv_rg _ _) (xv_rg _ _)) (by decide) rfl rfl (Nat.le_of_ble_eq_true rfl) (fun h2 q2 => ?_)
  obtain ⟨hM2, hf2⟩ := q2
  have hX2 := XR.fr hX1 hf2 (by omega)
  refine z_icmpS (tgt := 1098) hx dL_law_465 (by decide) ?_
  exact kk _ _ hX2 hM2 (iM_of hV)

theorem law_12 (g : Gt) {x : Xt} {cs ss : Nat} {u : Nat × Nat × Nat} {h : AH} {b L z : Nat} {xs : Nat → Int32} {v : Int} {S : Nat → Int → Int} (hx : Ok g x mL_law 20 cs ss) (hA : XA g x b L xs) (hL : L ≤ 256) (hX : XR h z S) (hM : RM h (z + 367) S) (hV : invM S) (hi : 0 ≤ v ∧ v + 4 ≤ (L : Int)) (kk : ∀ (h9 : AH) (S9 : Nat → Int → Int), XR h9 z S9 → RM h9 (z + 367) S9 → invM S9 → Zj g x u h9 1098 [(0, .ref b), (1, .ref z), (2, .ref (z + 367)), (3, .int (iI v))] []) : Zj g x u h 470 [(0, .ref b), (1, .ref z), (2, .ref (z + 367)), (3, .int (iI v))] [] := by
  refine z_aload_n hx dL_law_470 rfl 1 rfl ?_
  refine z_aload_n hx dL_law_471 rfl 0 rfl ?_
  refine z_iload_n hx dL_law_472 rfl 3 rfl ?_
  refine z_iconst hx dL_law_473 ?_
  refine z_iadd hx dL_law_474 ?_
  refine z_xald hA hx dL_law_475 (by omega) hL ?_
  refine z_aload_n hx dL_law_476 rfl 0 rfl ?_
  refine z_iload_n hx dL_law_477 rfl 3 rfl ?_
  refine z_iconst hx dL_law_478 ?_
  refine z_iadd hx dL_law_479 ?_
  refine z_xald hA hx dL_law_480 (by omega) hL ?_
  refine z_cVJ (as := [.int (iI (xv xs (v + 1))), .int (iI (xv xs (v + 2)))]) (rest := []) hx dL_law_481 lk_L_65 wm_X8_about wv_X8_about (rcv_X hx hX) mo_X8_about (kX8_about g hX hV (xv_rg _ _) (xv_rg _ _)) (by decide) rfl rfl (Nat.le_of_ble_eq_true rfl) (fun h1 q1 => ?_)
  obtain ⟨hX1, hf1⟩ := q1
  have hM1 := RM.fr hM hf1 (by omega)
  refine z_aload_n hx dL_law_484 rfl 2 rfl ?_
  refine z_aload_n hx dL_law_485 rfl 0 rfl ?_
  refine z_iload_n hx dL_law_486 rfl 3 rfl ?_
  refine z_iconst hx dL_law_487 ?_
  refine z_iadd hx dL_law_488 ?_
  refine z_xald hA hx dL_law_489 (by omega) hL ?_
  refine z_aload_n hx dL_law_490 rfl 0 rfl ?_
  refine z_iload_n hx dL_law_491 rfl 3 rfl ?_
  refine z_iconst hx dL_law_492 ?_
  refine z_iadd hx dL_law_493 ?_
  refine z_xald hA hx dL_law_494 (by omega) hL ?_
  refine z_cVJ (as := [.int (iI (xv xs (v + 1))), .int (iI (xv xs (v + 2)))]) (rest := [.int (iI (aboutA S (xv xs (v + 1)) (xv xs (v + 2))).1)]) hx dL_law_495 lk_L_68 wm_X9_about wv_X9_about (rcv_R hx hM1) mo_X9_about (kX9_about g hM1 hV (xv_rg _ _) (xv_rg _ _)) (by decide) rfl rfl (Nat.le_of_ble_eq_true rfl) (fun h2 q2 => ?_)
  obtain ⟨hM2, hf2⟩ := q2
  have hX2 := XR.fr hX1 hf2 (by omega)
  refine z_icmpS (tgt := 1098) hx dL_law_498 (by decide) ?_
  exact kk _ _ hX2 hM2 (iM_about hV)

theorem law_13 (g : Gt) {x : Xt} {cs ss : Nat} {u : Nat × Nat × Nat} {h : AH} {b L z : Nat} {xs : Nat → Int32} {v : Int} {S : Nat → Int → Int} (hx : Ok g x mL_law 20 cs ss) (hA : XA g x b L xs) (hL : L ≤ 256) (hX : XR h z S) (hM : RM h (z + 367) S) (hV : invM S) (hi : 0 ≤ v ∧ v + 4 ≤ (L : Int)) (kk : ∀ (h9 : AH) (S9 : Nat → Int → Int), XR h9 z S9 → RM h9 (z + 367) S9 → invM S9 → Zj g x u h9 1098 [(0, .ref b), (1, .ref z), (2, .ref (z + 367)), (3, .int (iI v))] []) : Zj g x u h 503 [(0, .ref b), (1, .ref z), (2, .ref (z + 367)), (3, .int (iI v))] [] := by
  refine z_aload_n hx dL_law_503 rfl 1 rfl ?_
  refine z_aload_n hx dL_law_504 rfl 0 rfl ?_
  refine z_iload_n hx dL_law_505 rfl 3 rfl ?_
  refine z_iconst hx dL_law_506 ?_
  refine z_iadd hx dL_law_507 ?_
  refine z_xald hA hx dL_law_508 (by omega) hL ?_
  refine z_cVJ (as := [.int (iI (xv xs (v + 1)))]) (rest := []) hx dL_law_509 lk_L_69 wm_X8_where wv_X8_where (rcv_X hx hX) mo_X8_where (kX8_where g hX hV (xv_rg _ _)) (by decide) rfl rfl (Nat.le_of_ble_eq_true rfl) (fun h1 q1 => ?_)
  obtain ⟨hX1, hf1⟩ := q1
  have hM1 := RM.fr hM hf1 (by omega)
  refine z_aload_n hx dL_law_512 rfl 2 rfl ?_
  refine z_aload_n hx dL_law_513 rfl 0 rfl ?_
  refine z_iload_n hx dL_law_514 rfl 3 rfl ?_
  refine z_iconst hx dL_law_515 ?_
  refine z_iadd hx dL_law_516 ?_
  refine z_xald hA hx dL_law_517 (by omega) hL ?_
  refine z_cVJ (as := [.int (iI (xv xs (v + 1)))]) (rest := [.int (iI (whereA S (xv xs (v + 1))).1)]) hx dL_law_518 lk_L_72 wm_X9_where wv_X9_where (rcv_R hx hM1) mo_X9_where (kX9_where g hM1 hV (xv_rg _ _)) (by decide) rfl rfl (Nat.le_of_ble_eq_true rfl) (fun h2 q2 => ?_)
  obtain ⟨hM2, hf2⟩ := q2
  have hX2 := XR.fr hX1 hf2 (by omega)
  refine z_icmpS (tgt := 1098) hx dL_law_521 (by decide) ?_
  exact kk _ _ hX2 hM2 (iM_where hV)

theorem law_14 (g : Gt) {x : Xt} {cs ss : Nat} {u : Nat × Nat × Nat} {h : AH} {b L z : Nat} {xs : Nat → Int32} {v : Int} {S : Nat → Int → Int} (hx : Ok g x mL_law 20 cs ss) (hA : XA g x b L xs) (hL : L ≤ 256) (hX : XR h z S) (hM : RM h (z + 367) S) (hV : invM S) (hi : 0 ≤ v ∧ v + 4 ≤ (L : Int)) (kk : ∀ (h9 : AH) (S9 : Nat → Int → Int), XR h9 z S9 → RM h9 (z + 367) S9 → invM S9 → Zj g x u h9 1098 [(0, .ref b), (1, .ref z), (2, .ref (z + 367)), (3, .int (iI v))] []) : Zj g x u h 526 [(0, .ref b), (1, .ref z), (2, .ref (z + 367)), (3, .int (iI v))] [] := by
  refine z_aload_n hx dL_law_526 rfl 1 rfl ?_
  refine z_aload_n hx dL_law_527 rfl 0 rfl ?_
  refine z_iload_n hx dL_law_528 rfl 3 rfl ?_
  refine z_iconst hx dL_law_529 ?_
  refine z_iadd hx dL_law_530 ?_
  refine z_xald hA hx dL_law_531 (by omega) hL ?_
  refine z_aload_n hx dL_law_532 rfl 0 rfl ?_
  refine z_iload_n hx dL_law_533 rfl 3 rfl ?_
  refine z_iconst hx dL_law_534 ?_
  refine z_iadd hx dL_law_535 ?_
  refine z_xald hA hx dL_law_536 (by omega) hL ?_
  refine z_aload_n hx dL_law_537 rfl 0 rfl ?_
  refine z_iload_n hx dL_law_538 rfl 3 rfl ?_
  refine z_iconst hx dL_law_539 ?_
  refine z_iadd hx dL_law_540 ?_
  refine z_xald hA hx dL_law_541 (by omega) hL ?_
  refine z_cVJ (as := [.int (iI (xv xs (v + 1))), .int (iI (xv xs (v + 2))), .int (iI (xv xs (v + 3)))]) (rest := []) hx dL_law_542 lk_L_73 wm_X8_then wv_X8_then (rcv_X hx hX) mo_X8_then (kX8_then g hX hV (xv_rg _ _) (xv_rg _ _) (xv_rg _ _)) (by decide) rfl rfl (Nat.le_of_ble_eq_true rfl) (fun h1 q1 => ?_)
  obtain ⟨hX1, hf1⟩ := q1
  have hM1 := RM.fr hM hf1 (by omega)
  refine z_aload_n hx dL_law_545 rfl 2 rfl ?_
  refine z_aload_n hx dL_law_546 rfl 0 rfl ?_
  refine z_iload_n hx dL_law_547 rfl 3 rfl ?_
  refine z_iconst hx dL_law_548 ?_
  refine z_iadd hx dL_law_549 ?_
  refine z_xald hA hx dL_law_550 (by omega) hL ?_
  refine z_aload_n hx dL_law_551 rfl 0 rfl ?_
  refine z_iload_n hx dL_law_552 rfl 3 rfl ?_
  refine z_iconst hx dL_law_553 ?_
  refine z_iadd hx dL_law_554 ?_
  refine z_xald hA hx dL_law_555 (by omega) hL ?_
  refine z_aload_n hx dL_law_556 rfl 0 rfl ?_
  refine z_iload_n hx dL_law_557 rfl 3 rfl ?_
  refine z_iconst hx dL_law_558 ?_
  refine z_iadd hx dL_law_559 ?_
  refine z_xald hA hx dL_law_560 (by omega) hL ?_
  refine z_cVJ (as := [.int (iI (xv xs (v + 1))), .int (iI (xv xs (v + 2))), .int (iI (xv xs (v + 3)))]) (rest := [.int (iI (thenA S (xv xs (v + 1)) (xv xs (v + 2)) (xv xs (v + 3))).1)]) hx dL_law_561 lk_L_76 wm_X9_then wv_X9_then (rcv_R hx hM1) mo_X9_then (kX9_then g hM1 hV (xv_rg _ _) (xv_rg _ _) (xv_rg _ _)) (by decide) rfl rfl (Nat.le_of_ble_eq_true rfl) (fun h2 q2 => ?_)
  obtain ⟨hM2, hf2⟩ := q2
  have hX2 := XR.fr hX1 hf2 (by omega)
  refine z_icmpS (tgt := 1098) hx dL_law_564 (by decide) ?_
  exact kk _ _ hX2 hM2 (iM_then hV)

theorem law_15 (g : Gt) {x : Xt} {cs ss : Nat} {u : Nat × Nat × Nat} {h : AH} {b L z : Nat} {xs : Nat → Int32} {v : Int} {S : Nat → Int → Int} (hx : Ok g x mL_law 20 cs ss) (hA : XA g x b L xs) (hL : L ≤ 256) (hX : XR h z S) (hM : RM h (z + 367) S) (hV : invM S) (hi : 0 ≤ v ∧ v + 4 ≤ (L : Int)) (kk : ∀ (h9 : AH) (S9 : Nat → Int → Int), XR h9 z S9 → RM h9 (z + 367) S9 → invM S9 → Zj g x u h9 1098 [(0, .ref b), (1, .ref z), (2, .ref (z + 367)), (3, .int (iI v))] []) : Zj g x u h 569 [(0, .ref b), (1, .ref z), (2, .ref (z + 367)), (3, .int (iI v))] [] := by
  refine z_aload_n hx dL_law_569 rfl 1 rfl ?_
  refine z_aload_n hx dL_law_570 rfl 0 rfl ?_
  refine z_iload_n hx dL_law_571 rfl 3 rfl ?_
  refine z_iconst hx dL_law_572 ?_
  refine z_iadd hx dL_law_573 ?_
  refine z_xald hA hx dL_law_574 (by omega) hL ?_
  refine z_aload_n hx dL_law_575 rfl 0 rfl ?_
  refine z_iload_n hx dL_law_576 rfl 3 rfl ?_
  refine z_iconst hx dL_law_577 ?_
  refine z_iadd hx dL_law_578 ?_
  refine z_xald hA hx dL_law_579 (by omega) hL ?_
  refine z_cVJ (as := [.int (iI (xv xs (v + 1))), .int (iI (xv xs (v + 2)))]) (rest := []) hx dL_law_580 lk_L_77 wm_X8_fate wv_X8_fate (rcv_X hx hX) mo_X8_fate (kX8_fate g hX hV (xv_rg _ _) (xv_rg _ _)) (by decide) rfl rfl (Nat.le_of_ble_eq_true rfl) (fun h1 q1 => ?_)
  obtain ⟨hX1, hf1⟩ := q1
  have hM1 := RM.fr hM hf1 (by omega)
  refine z_aload_n hx dL_law_583 rfl 2 rfl ?_
  refine z_aload_n hx dL_law_584 rfl 0 rfl ?_
  refine z_iload_n hx dL_law_585 rfl 3 rfl ?_
  refine z_iconst hx dL_law_586 ?_
  refine z_iadd hx dL_law_587 ?_
  refine z_xald hA hx dL_law_588 (by omega) hL ?_
  refine z_aload_n hx dL_law_589 rfl 0 rfl ?_
  refine z_iload_n hx dL_law_590 rfl 3 rfl ?_
  refine z_iconst hx dL_law_591 ?_
  refine z_iadd hx dL_law_592 ?_
  refine z_xald hA hx dL_law_593 (by omega) hL ?_
  refine z_cVJ (as := [.int (iI (xv xs (v + 1))), .int (iI (xv xs (v + 2)))]) (rest := [.int (iI (fateA S (xv xs (v + 1)) (xv xs (v + 2))).1)]) hx dL_law_594 lk_L_80 wm_X9_fate wv_X9_fate (rcv_R hx hM1) mo_X9_fate (kX9_fate g hM1 hV (xv_rg _ _) (xv_rg _ _)) (by decide) rfl rfl (Nat.le_of_ble_eq_true rfl) (fun h2 q2 => ?_)
  obtain ⟨hM2, hf2⟩ := q2
  have hX2 := XR.fr hX1 hf2 (by omega)
  refine z_icmpS (tgt := 1098) hx dL_law_597 (by decide) ?_
  exact kk _ _ hX2 hM2 (iM_fate hV)

theorem law_16 (g : Gt) {x : Xt} {cs ss : Nat} {u : Nat × Nat × Nat} {h : AH} {b L z : Nat} {xs : Nat → Int32} {v : Int} {S : Nat → Int → Int} (hx : Ok g x mL_law 20 cs ss) (hA : XA g x b L xs) (hL : L ≤ 256) (hX : XR h z S) (hM : RM h (z + 367) S) (hV : invM S) (hi : 0 ≤ v ∧ v + 4 ≤ (L : Int)) (kk : ∀ (h9 : AH) (S9 : Nat → Int → Int), XR h9 z S9 → RM h9 (z + 367) S9 → invM S9 → Zj g x u h9 1098 [(0, .ref b), (1, .ref z), (2, .ref (z + 367)), (3, .int (iI v))] []) : Zj g x u h 602 [(0, .ref b), (1, .ref z), (2, .ref (z + 367)), (3, .int (iI v))] [] := by
  refine z_aload_n hx dL_law_602 rfl 1 rfl ?_
  refine z_aload_n hx dL_law_603 rfl 0 rfl ?_
  refine z_iload_n hx dL_law_604 rfl 3 rfl ?_
  refine z_iconst hx dL_law_605 ?_
  refine z_iadd hx dL_law_606 ?_
  refine z_xald hA hx dL_law_607 (by omega) hL ?_
  refine z_cVJ (as := [.int (iI (xv xs (v + 1)))]) (rest := []) hx dL_law_608 lk_L_81 wm_X8_when wv_X8_when (rcv_X hx hX) mo_X8_when (kX8_when g hX hV (xv_rg _ _)) (by decide) rfl rfl (Nat.le_of_ble_eq_true rfl) (fun h1 q1 => ?_)
  obtain ⟨hX1, hf1⟩ := q1
  have hM1 := RM.fr hM hf1 (by omega)
  refine z_aload_n hx dL_law_611 rfl 2 rfl ?_
  refine z_aload_n hx dL_law_612 rfl 0 rfl ?_
  refine z_iload_n hx dL_law_613 rfl 3 rfl ?_
  refine z_iconst hx dL_law_614 ?_
  refine z_iadd hx dL_law_615 ?_
  refine z_xald hA hx dL_law_616 (by omega) hL ?_
  refine z_cVJ (as := [.int (iI (xv xs (v + 1)))]) (rest := [.int (iI (whenA S (xv xs (v + 1))).1)]) hx dL_law_617 lk_L_84 wm_X9_when wv_X9_when (rcv_R hx hM1) mo_X9_when (kX9_when g hM1 hV (xv_rg _ _)) (by decide) rfl rfl (Nat.le_of_ble_eq_true rfl) (fun h2 q2 => ?_)
  obtain ⟨hM2, hf2⟩ := q2
  have hX2 := XR.fr hX1 hf2 (by omega)
  refine z_icmpS (tgt := 1098) hx dL_law_620 (by decide) ?_
  exact kk _ _ hX2 hM2 (iM_when hV)

theorem law_17 (g : Gt) {x : Xt} {cs ss : Nat} {u : Nat × Nat × Nat} {h : AH} {b L z : Nat} {xs : Nat → Int32} {v : Int} {S : Nat → Int → Int} (hx : Ok g x mL_law 20 cs ss) (hA : XA g x b L xs) (hL : L ≤ 256) (hX : XR h z S) (hM : RM h (z + 367) S) (hV : invM S) (hi : 0 ≤ v ∧ v + 4 ≤ (L : Int)) (kk : ∀ (h9 : AH) (S9 : Nat → Int → Int), XR h9 z S9 → RM h9 (z + 367) S9 → invM S9 → Zj g x u h9 1098 [(0, .ref b), (1, .ref z), (2, .ref (z + 367)), (3, .int (iI v))] []) : Zj g x u h 625 [(0, .ref b), (1, .ref z), (2, .ref (z + 367)), (3, .int (iI v))] [] := by
  refine z_aload_n hx dL_law_625 rfl 1 rfl ?_
  refine z_aload_n hx dL_law_626 rfl 0 rfl ?_
  refine z_iload_n hx dL_law_627 rfl 3 rfl ?_
  refine z_iconst hx dL_law_628 ?_
  refine z_iadd hx dL_law_629 ?_
  refine z_xald hA hx dL_law_630 (by omega) hL ?_
  refine z_aload_n hx dL_law_631 rfl 0 rfl ?_
  refine z_iload_n hx dL_law_632 rfl 3 rfl ?_
  refine z_iconst hx dL_law_633 ?_
  refine z_iadd hx dL_law_634 ?_
  refine z_xald hA hx dL_law_635 (by omega) hL ?_
  refine z_cVJ (as := [.int (iI (xv xs (v + 1))), .int (iI (xv xs (v + 2)))]) (rest := []) hx dL_law_636 lk_L_85 wm_X8_place wv_X8_place (rcv_X hx hX) mo_X8_place (kX8_place g hX hV (xv_rg _ _) (xv_rg _ _)) (by decide) rfl rfl (Nat.le_of_ble_eq_true rfl) (fun h1 q1 => ?_)
  obtain ⟨hX1, hf1⟩ := q1
  have hM1 := RM.fr hM hf1 (by omega)
  refine z_aload_n hx dL_law_639 rfl 2 rfl ?_
  refine z_aload_n hx dL_law_640 rfl 0 rfl ?_
  refine z_iload_n hx dL_law_641 rfl 3 rfl ?_
  refine z_iconst hx dL_law_642 ?_
  refine z_iadd hx dL_law_643 ?_
  refine z_xald hA hx dL_law_644 (by omega) hL ?_
  refine z_aload_n hx dL_law_645 rfl 0 rfl ?_
  refine z_iload_n hx dL_law_646 rfl 3 rfl ?_
  refine z_iconst hx dL_law_647 ?_
  refine z_iadd hx dL_law_648 ?_
  refine z_xald hA hx dL_law_649 (by omega) hL ?_
  refine z_cVJ (as := [.int (iI (xv xs (v + 1))), .int (iI (xv xs (v + 2)))]) (rest := [.int (iI (placeA S (xv xs (v + 1)) (xv xs (v + 2))).1)]) hx dL_law_650 lk_L_88 wm_X9_place wv_X9_place (rcv_R hx hM1) mo_X9_place (kX9_place g hM1 hV (xv_rg _ _) (xv_rg _ _)) (by decide) rfl rfl (Nat.le_of_ble_eq_true rfl) (fun h2 q2 => ?_)
  obtain ⟨hM2, hf2⟩ := q2
  have hX2 := XR.fr hX1 hf2 (by omega)
  refine z_icmpS (tgt := 1098) hx dL_law_653 (by decide) ?_
  exact kk _ _ hX2 hM2 (iM_place hV)

theorem law_18 (g : Gt) {x : Xt} {cs ss : Nat} {u : Nat × Nat × Nat} {h : AH} {b L z : Nat} {xs : Nat → Int32} {v : Int} {S : Nat → Int → Int} (hx : Ok g x mL_law 20 cs ss) (hA : XA g x b L xs) (hL : L ≤ 256) (hX : XR h z S) (hM : RM h (z + 367) S) (hV : invM S) (hi : 0 ≤ v ∧ v + 4 ≤ (L : Int)) (kk : ∀ (h9 : AH) (S9 : Nat → Int → Int), XR h9 z S9 → RM h9 (z + 367) S9 → invM S9 → Zj g x u h9 1098 [(0, .ref b), (1, .ref z), (2, .ref (z + 367)), (3, .int (iI v))] []) : Zj g x u h 658 [(0, .ref b), (1, .ref z), (2, .ref (z + 367)), (3, .int (iI v))] [] := by
  refine z_aload_n hx dL_law_658 rfl 1 rfl ?_
  refine z_aload_n hx dL_law_659 rfl 0 rfl ?_
  refine z_iload_n hx dL_law_660 rfl 3 rfl ?_
  refine z_iconst hx dL_law_661 ?_
  refine z_iadd hx dL_law_662 ?_
  refine z_xald hA hx dL_law_663 (by omega) hL ?_
  refine z_aload_n hx dL_law_664 rfl 0 rfl ?_
  refine z_iload_n hx dL_law_665 rfl 3 rfl ?_
  refine z_iconst hx dL_law_666 ?_
  refine z_iadd hx dL_law_667 ?_
  refine z_xald hA hx dL_law_668 (by omega) hL ?_
  refine z_cVJ (as := [.int (iI (xv xs (v + 1))), .int (iI (xv xs (v + 2)))]) (rest := []) hx dL_law_669 lk_L_89 wm_X8_run wv_X8_run (rcv_X hx hX) mo_X8_run (kX8_run g hX hV (xv_rg _ _) (xv_rg _ _)) (by decide) rfl rfl (Nat.le_of_ble_eq_true rfl) (fun h1 q1 => ?_)
  obtain ⟨hX1, hf1⟩ := q1
  have hM1 := RM.fr hM hf1 (by omega)
  refine z_aload_n hx dL_law_672 rfl 2 rfl ?_
  refine z_aload_n hx dL_law_673 rfl 0 rfl ?_
  refine z_iload_n hx dL_law_674 rfl 3 rfl ?_
  refine z_iconst hx dL_law_675 ?_
  refine z_iadd hx dL_law_676 ?_
  refine z_xald hA hx dL_law_677 (by omega) hL ?_
  refine z_aload_n hx dL_law_678 rfl 0 rfl ?_
  refine z_iload_n hx dL_law_679 rfl 3 rfl ?_
  refine z_iconst hx dL_law_680 ?_
  refine z_iadd hx dL_law_681 ?_
  refine z_xald hA hx dL_law_682 (by omega) hL ?_
  refine z_cVJ (as := [.int (iI (xv xs (v + 1))), .int (iI (xv xs (v + 2)))]) (rest := [.int (iI (runA S (xv xs (v + 1)) (xv xs (v + 2))).1)]) hx dL_law_683 lk_L_92 wm_X9_run wv_X9_run (rcv_R hx hM1) mo_X9_run (kX9_run g hM1 hV (xv_rg _ _) (xv_rg _ _)) (by decide) rfl rfl (Nat.le_of_ble_eq_true rfl) (fun h2 q2 => ?_)
  obtain ⟨hM2, hf2⟩ := q2
  have hX2 := XR.fr hX1 hf2 (by omega)
  refine z_icmpS (tgt := 1098) hx dL_law_686 (by decide) ?_
  exact kk _ _ hX2 hM2 (iM_run hV)

theorem law_19 (g : Gt) {x : Xt} {cs ss : Nat} {u : Nat × Nat × Nat} {h : AH} {b L z : Nat} {xs : Nat → Int32} {v : Int} {S : Nat → Int → Int} (hx : Ok g x mL_law 20 cs ss) (hA : XA g x b L xs) (hL : L ≤ 256) (hX : XR h z S) (hM : RM h (z + 367) S) (hV : invM S) (hi : 0 ≤ v ∧ v + 4 ≤ (L : Int)) (kk : ∀ (h9 : AH) (S9 : Nat → Int → Int), XR h9 z S9 → RM h9 (z + 367) S9 → invM S9 → Zj g x u h9 1098 [(0, .ref b), (1, .ref z), (2, .ref (z + 367)), (3, .int (iI v))] []) : Zj g x u h 691 [(0, .ref b), (1, .ref z), (2, .ref (z + 367)), (3, .int (iI v))] [] := by
  refine z_aload_n hx dL_law_691 rfl 1 rfl ?_
  refine z_aload_n hx dL_law_692 rfl 0 rfl ?_
  refine z_iload_n hx dL_law_693 rfl 3 rfl ?_
  refine z_iconst hx dL_law_694 ?_
  refine z_iadd hx dL_law_695 ?_
  refine z_xald hA hx dL_law_696 (by omega) hL ?_
  refine z_aload_n hx dL_law_697 rfl 0 rfl ?_
  refine z_iload_n hx dL_law_698 rfl 3 rfl ?_
  refine z_iconst hx dL_law_699 ?_
  refine z_iadd hx dL_law_700 ?_
  refine z_xald hA hx dL_law_701 (by omega) hL ?_
  refine z_cVJ (as := [.int (iI (xv xs (v + 1))), .int (iI (xv xs (v + 2)))]) (rest := []) hx dL_law_702 lk_L_93 wm_X8_stitches wv_X8_stitches (rcv_X hx hX) mo_X8_stitches (kX8_stitches g hX hV (xv_rg _ _) (xv_rg _ _)) (by decide) rfl rfl (Nat.le_of_ble_eq_true rfl) (fun h1 q1 => ?_)
  obtain ⟨hX1, hf1⟩ := q1
  have hM1 := RM.fr hM hf1 (by omega)
  refine z_aload_n hx dL_law_705 rfl 2 rfl ?_
  refine z_aload_n hx dL_law_706 rfl 0 rfl ?_
  refine z_iload_n hx dL_law_707 rfl 3 rfl ?_
  refine z_iconst hx dL_law_708 ?_
  refine z_iadd hx dL_law_709 ?_
  refine z_xald hA hx dL_law_710 (by omega) hL ?_
  refine z_aload_n hx dL_law_711 rfl 0 rfl ?_
  refine z_iload_n hx dL_law_712 rfl 3 rfl ?_
  refine z_iconst hx dL_law_713 ?_
  refine z_iadd hx dL_law_714 ?_
  refine z_xald hA hx dL_law_715 (by omega) hL ?_
  refine z_cVJ (as := [.int (iI (xv xs (v + 1))), .int (iI (xv xs (v + 2)))]) (rest := [.int (iI (stitchesA S (xv xs (v + 1)) (xv xs (v + 2))).1)]) hx dL_law_716 lk_L_96 wm_X9_stitches wv_X9_stitches (rcv_R hx hM1) mo_X9_stitches (kX9_stitches g hM1 hV (xv_rg _ _) (xv_rg _ _)) (by decide) rfl rfl (Nat.le_of_ble_eq_true rfl) (fun h2 q2 => ?_)
  obtain ⟨hM2, hf2⟩ := q2
  have hX2 := XR.fr hX1 hf2 (by omega)
  refine z_icmpS (tgt := 1098) hx dL_law_719 (by decide) ?_
  exact kk _ _ hX2 hM2 (iM_stitches hV)

theorem law_20 (g : Gt) {x : Xt} {cs ss : Nat} {u : Nat × Nat × Nat} {h : AH} {b L z : Nat} {xs : Nat → Int32} {v : Int} {S : Nat → Int → Int} (hx : Ok g x mL_law 20 cs ss) (hA : XA g x b L xs) (hL : L ≤ 256) (hX : XR h z S) (hM : RM h (z + 367) S) (hV : invM S) (hi : 0 ≤ v ∧ v + 4 ≤ (L : Int)) (kk : ∀ (h9 : AH) (S9 : Nat → Int → Int), XR h9 z S9 → RM h9 (z + 367) S9 → invM S9 → Zj g x u h9 1098 [(0, .ref b), (1, .ref z), (2, .ref (z + 367)), (3, .int (iI v))] []) : Zj g x u h 724 [(0, .ref b), (1, .ref z), (2, .ref (z + 367)), (3, .int (iI v))] [] := by
  refine z_aload_n hx dL_law_724 rfl 1 rfl ?_
  refine z_aload_n hx dL_law_725 rfl 0 rfl ?_
  refine z_iload_n hx dL_law_726 rfl 3 rfl ?_
  refine z_iconst hx dL_law_727 ?_
  refine z_iadd hx dL_law_728 ?_
  refine z_xald hA hx dL_law_729 (by omega) hL ?_
  refine z_aload_n hx dL_law_730 rfl 0 rfl ?_
  refine z_iload_n hx dL_law_731 rfl 3 rfl ?_
  refine z_iconst hx dL_law_732 ?_
  refine z_iadd hx dL_law_733 ?_
  refine z_xald hA hx dL_law_734 (by omega) hL ?_
  refine z_aload_n hx dL_law_735 rfl 0 rfl ?_
  refine z_iload_n hx dL_law_736 rfl 3 rfl ?_
  refine z_iconst hx dL_law_737 ?_
  refine z_iadd hx dL_law_738 ?_
  refine z_xald hA hx dL_law_739 (by omega) hL ?_
  refine z_cVJ (as := [.int (iI (xv xs (v + 1))), .int (iI (xv xs (v + 2))), .int (iI (xv xs (v + 3)))]) (rest := []) hx dL_law_740 lk_L_97 wm_X8_note wv_X8_note (rcv_X hx hX) mo_X8_note (kX8_note g hX hV (xv_rg _ _) (xv_rg _ _) (xv_rg _ _)) (by decide) rfl rfl (Nat.le_of_ble_eq_true rfl) (fun h1 q1 => ?_)
  obtain ⟨hX1, hf1⟩ := q1
  have hM1 := RM.fr hM hf1 (by omega)
  refine z_aload_n hx dL_law_743 rfl 2 rfl ?_
  refine z_aload_n hx dL_law_744 rfl 0 rfl ?_
  refine z_iload_n hx dL_law_745 rfl 3 rfl ?_
  refine z_iconst hx dL_law_746 ?_
  refine z_iadd hx dL_law_747 ?_
  refine z_xald hA hx dL_law_748 (by omega) hL ?_
  refine z_aload_n hx dL_law_749 rfl 0 rfl ?_
  refine z_iload_n hx dL_law_750 rfl 3 rfl ?_
  refine z_iconst hx dL_law_751 ?_
  refine z_iadd hx dL_law_752 ?_
  refine z_xald hA hx dL_law_753 (by omega) hL ?_
  refine z_aload_n hx dL_law_754 rfl 0 rfl ?_
  refine z_iload_n hx dL_law_755 rfl 3 rfl ?_
  refine z_iconst hx dL_law_756 ?_
  refine z_iadd hx dL_law_757 ?_
  refine z_xald hA hx dL_law_758 (by omega) hL ?_
  refine z_cVJ (as := [.int (iI (xv xs (v + 1))), .int (iI (xv xs (v + 2))), .int (iI (xv xs (v + 3)))]) (rest := [.int (iI (noteA S (xv xs (v + 1)) (xv xs (v + 2)) (xv xs (v + 3))).1)]) hx dL_law_759 lk_L_100 wm_X9_note wv_X9_note (rcv_R hx hM1) mo_X9_note (kX9_note g hM1 hV (xv_rg _ _) (xv_rg _ _) (xv_rg _ _)) (by decide) rfl rfl (Nat.le_of_ble_eq_true rfl) (fun h2 q2 => ?_)
  obtain ⟨hM2, hf2⟩ := q2
  have hX2 := XR.fr hX1 hf2 (by omega)
  refine z_icmpS (tgt := 1098) hx dL_law_762 (by decide) ?_
  exact kk _ _ hX2 hM2 (iM_note hV)

theorem law_21 (g : Gt) {x : Xt} {cs ss : Nat} {u : Nat × Nat × Nat} {h : AH} {b L z : Nat} {xs : Nat → Int32} {v : Int} {S : Nat → Int → Int} (hx : Ok g x mL_law 20 cs ss) (hA : XA g x b L xs) (hL : L ≤ 256) (hX : XR h z S) (hM : RM h (z + 367) S) (hV : invM S) (hi : 0 ≤ v ∧ v + 4 ≤ (L : Int)) (kk : ∀ (h9 : AH) (S9 : Nat → Int → Int), XR h9 z S9 → RM h9 (z + 367) S9 → invM S9 → Zj g x u h9 1098 [(0, .ref b), (1, .ref z), (2, .ref (z + 367)), (3, .int (iI v))] []) : Zj g x u h 767 [(0, .ref b), (1, .ref z), (2, .ref (z + 367)), (3, .int (iI v))] [] := by
  refine z_aload_n hx dL_law_767 rfl 1 rfl ?_
  refine z_cVJ (as := []) (rest := []) hx dL_law_768 lk_L_101 wm_X8_forget wv_X8_forget (rcv_X hx hX) mo_X8_forget (kX8_forget g hX hV) (by decide) rfl rfl (Nat.le_of_ble_eq_true rfl) (fun h1 q1 => ?_)
  obtain ⟨hX1, hf1⟩ := q1
  have hM1 := RM.fr hM hf1 (by omega)
  refine z_aload_n hx dL_law_771 rfl 2 rfl ?_
  refine z_cVJ (as := []) (rest := [.int (iI (forgetA S).1)]) hx dL_law_772 lk_L_104 wm_X9_forget wv_X9_forget (rcv_R hx hM1) mo_X9_forget (kX9_forget g hM1 hV) (by decide) rfl rfl (Nat.le_of_ble_eq_true rfl) (fun h2 q2 => ?_)
  obtain ⟨hM2, hf2⟩ := q2
  have hX2 := XR.fr hX1 hf2 (by omega)
  refine z_icmpS (tgt := 1098) hx dL_law_775 (by decide) ?_
  exact kk _ _ hX2 hM2 (iM_forget hV)

theorem law_22 (g : Gt) {x : Xt} {cs ss : Nat} {u : Nat × Nat × Nat} {h : AH} {b L z : Nat} {xs : Nat → Int32} {v : Int} {S : Nat → Int → Int} (hx : Ok g x mL_law 20 cs ss) (hA : XA g x b L xs) (hL : L ≤ 256) (hX : XR h z S) (hM : RM h (z + 367) S) (hV : invM S) (hi : 0 ≤ v ∧ v + 4 ≤ (L : Int)) (kk : ∀ (h9 : AH) (S9 : Nat → Int → Int), XR h9 z S9 → RM h9 (z + 367) S9 → invM S9 → Zj g x u h9 1098 [(0, .ref b), (1, .ref z), (2, .ref (z + 367)), (3, .int (iI v))] []) : Zj g x u h 780 [(0, .ref b), (1, .ref z), (2, .ref (z + 367)), (3, .int (iI v))] [] := by
  refine z_aload_n hx dL_law_780 rfl 1 rfl ?_
  refine z_aload_n hx dL_law_781 rfl 0 rfl ?_
  refine z_iload_n hx dL_law_782 rfl 3 rfl ?_
  refine z_iconst hx dL_law_783 ?_
  refine z_iadd hx dL_law_784 ?_
  refine z_xald hA hx dL_law_785 (by omega) hL ?_
  refine z_cVJ (as := [.int (iI (xv xs (v + 1)))]) (rest := []) hx dL_law_786 lk_L_105 wm_X8_is wv_X8_is (rcv_X hx hX) mo_X8_is (kX8_is g hX hV (xv_rg _ _)) (by decide) rfl rfl (Nat.le_of_ble_eq_true rfl) (fun h1 q1 => ?_)
  obtain ⟨hX1, hf1⟩ := q1
  have hM1 := RM.fr hM hf1 (by omega)
  refine z_aload_n hx dL_law_789 rfl 2 rfl ?_
  refine z_aload_n hx dL_law_790 rfl 0 rfl ?_
  refine z_iload_n hx dL_law_791 rfl 3 rfl ?_
  refine z_iconst hx dL_law_792 ?_
  refine z_iadd hx dL_law_793 ?_
  refine z_xald hA hx dL_law_794 (by omega) hL ?_
  refine z_cVJ (as := [.int (iI (xv xs (v + 1)))]) (rest := [.int (iI (isA S (xv xs (v + 1))).1)]) hx dL_law_795 lk_L_108 wm_X9_is wv_X9_is (rcv_R hx hM1) mo_X9_is (kX9_is g hM1 hV (xv_rg _ _)) (by decide) rfl rfl (Nat.le_of_ble_eq_true rfl) (fun h2 q2 => ?_)
  obtain ⟨hM2, hf2⟩ := q2
  have hX2 := XR.fr hX1 hf2 (by omega)
  refine z_icmpS (tgt := 1098) hx dL_law_798 (by decide) ?_
  exact kk _ _ hX2 hM2 (iM_is hV)

theorem law_23 (g : Gt) {x : Xt} {cs ss : Nat} {u : Nat × Nat × Nat} {h : AH} {b L z : Nat} {xs : Nat → Int32} {v : Int} {S : Nat → Int → Int} (hx : Ok g x mL_law 20 cs ss) (hA : XA g x b L xs) (hL : L ≤ 256) (hX : XR h z S) (hM : RM h (z + 367) S) (hV : invM S) (hi : 0 ≤ v ∧ v + 4 ≤ (L : Int)) (kk : ∀ (h9 : AH) (S9 : Nat → Int → Int), XR h9 z S9 → RM h9 (z + 367) S9 → invM S9 → Zj g x u h9 1098 [(0, .ref b), (1, .ref z), (2, .ref (z + 367)), (3, .int (iI v))] []) : Zj g x u h 803 [(0, .ref b), (1, .ref z), (2, .ref (z + 367)), (3, .int (iI v))] [] := by
  refine z_aload_n hx dL_law_803 rfl 1 rfl ?_
  refine z_aload_n hx dL_law_804 rfl 0 rfl ?_
  refine z_iload_n hx dL_law_805 rfl 3 rfl ?_
  refine z_iconst hx dL_law_806 ?_
  refine z_iadd hx dL_law_807 ?_
  refine z_xald hA hx dL_law_808 (by omega) hL ?_
  refine z_cVJ (as := [.int (iI (xv xs (v + 1)))]) (rest := []) hx dL_law_809 lk_L_109 wm_X8_feel wv_X8_feel (rcv_X hx hX) mo_X8_feel (kX8_feel g hX hV (xv_rg _ _)) (by decide) rfl rfl (Nat.le_of_ble_eq_true rfl) (fun h1 q1 => ?_)
  obtain ⟨hX1, hf1⟩ := q1
  have hM1 := RM.fr hM hf1 (by omega)
  refine z_aload_n hx dL_law_812 rfl 2 rfl ?_
  refine z_aload_n hx dL_law_813 rfl 0 rfl ?_
  refine z_iload_n hx dL_law_814 rfl 3 rfl ?_
  refine z_iconst hx dL_law_815 ?_
  refine z_iadd hx dL_law_816 ?_
  refine z_xald hA hx dL_law_817 (by omega) hL ?_
  refine z_cVJ (as := [.int (iI (xv xs (v + 1)))]) (rest := [.int (iI (feelA S (xv xs (v + 1))).1)]) hx dL_law_818 lk_L_112 wm_X9_feel wv_X9_feel (rcv_R hx hM1) mo_X9_feel (kX9_feel g hM1 hV (xv_rg _ _)) (by decide) rfl rfl (Nat.le_of_ble_eq_true rfl) (fun h2 q2 => ?_)
  obtain ⟨hM2, hf2⟩ := q2
  have hX2 := XR.fr hX1 hf2 (by omega)
  refine z_icmpS (tgt := 1098) hx dL_law_821 (by decide) ?_
  exact kk _ _ hX2 hM2 (iM_feel hV)

theorem law_24 (g : Gt) {x : Xt} {cs ss : Nat} {u : Nat × Nat × Nat} {h : AH} {b L z : Nat} {xs : Nat → Int32} {v : Int} {S : Nat → Int → Int} (hx : Ok g x mL_law 20 cs ss) (hA : XA g x b L xs) (hL : L ≤ 256) (hX : XR h z S) (hM : RM h (z + 367) S) (hV : invM S) (hi : 0 ≤ v ∧ v + 4 ≤ (L : Int)) (kk : ∀ (h9 : AH) (S9 : Nat → Int → Int), XR h9 z S9 → RM h9 (z + 367) S9 → invM S9 → Zj g x u h9 1098 [(0, .ref b), (1, .ref z), (2, .ref (z + 367)), (3, .int (iI v))] []) : Zj g x u h 826 [(0, .ref b), (1, .ref z), (2, .ref (z + 367)), (3, .int (iI v))] [] := by
  refine z_aload_n hx dL_law_826 rfl 1 rfl ?_
  refine z_aload_n hx dL_law_827 rfl 0 rfl ?_
  refine z_iload_n hx dL_law_828 rfl 3 rfl ?_
  refine z_iconst hx dL_law_829 ?_
  refine z_iadd hx dL_law_830 ?_
  refine z_xald hA hx dL_law_831 (by omega) hL ?_
  refine z_aload_n hx dL_law_832 rfl 0 rfl ?_
  refine z_iload_n hx dL_law_833 rfl 3 rfl ?_
  refine z_iconst hx dL_law_834 ?_
  refine z_iadd hx dL_law_835 ?_
  refine z_xald hA hx dL_law_836 (by omega) hL ?_
  refine z_aload_n hx dL_law_837 rfl 0 rfl ?_
  refine z_iload_n hx dL_law_838 rfl 3 rfl ?_
  refine z_iconst hx dL_law_839 ?_
  refine z_iadd hx dL_law_840 ?_
  refine z_xald hA hx dL_law_841 (by omega) hL ?_
  refine z_cVJ (as := [.int (iI (xv xs (v + 1))), .int (iI (xv xs (v + 2))), .int (iI (xv xs (v + 3)))]) (rest := []) hx dL_law_842 lk_L_113 wm_X8_inside wv_X8_inside (rcv_X hx hX) mo_X8_inside (kX8_inside g hX hV (xv_rg _ _) (xv_rg _ _) (xv_rg _ _)) (by decide) rfl rfl (Nat.le_of_ble_eq_true rfl) (fun h1 q1 => ?_)
  obtain ⟨hX1, hf1⟩ := q1
  have hM1 := RM.fr hM hf1 (by omega)
  refine z_aload_n hx dL_law_845 rfl 2 rfl ?_
  refine z_aload_n hx dL_law_846 rfl 0 rfl ?_
  refine z_iload_n hx dL_law_847 rfl 3 rfl ?_
  refine z_iconst hx dL_law_848 ?_
  refine z_iadd hx dL_law_849 ?_
  refine z_xald hA hx dL_law_850 (by omega) hL ?_
  refine z_aload_n hx dL_law_851 rfl 0 rfl ?_
  refine z_iload_n hx dL_law_852 rfl 3 rfl ?_
  refine z_iconst hx dL_law_853 ?_
  refine z_iadd hx dL_law_854 ?_
  refine z_xald hA hx dL_law_855 (by omega) hL ?_
  refine z_aload_n hx dL_law_856 rfl 0 rfl ?_
  refine z_iload_n hx dL_law_857 rfl 3 rfl ?_
  refine z_iconst hx dL_law_858 ?_
  refine z_iadd hx dL_law_859 ?_
  refine z_xald hA hx dL_law_860 (by omega) hL ?_
  refine z_cVJ (as := [.int (iI (xv xs (v + 1))), .int (iI (xv xs (v + 2))), .int (iI (xv xs (v + 3)))]) (rest := [.int (iI (insideA S (xv xs (v + 1)) (xv xs (v + 2)) (xv xs (v + 3))).1)]) hx dL_law_861 lk_L_116 wm_X9_inside wv_X9_inside (rcv_R hx hM1) mo_X9_inside (kX9_inside g hM1 hV (xv_rg _ _) (xv_rg _ _) (xv_rg _ _)) (by decide) rfl rfl (Nat.le_of_ble_eq_true rfl) (fun h2 q2 => ?_)
  obtain ⟨hM2, hf2⟩ := q2
  have hX2 := XR.fr hX1 hf2 (by omega)
  refine z_icmpS (tgt := 1098) hx dL_law_864 (by decide) ?_
  exact kk _ _ hX2 hM2 (iM_inside hV)

theorem law_25 (g : Gt) {x : Xt} {cs ss : Nat} {u : Nat × Nat × Nat} {h : AH} {b L z : Nat} {xs : Nat → Int32} {v : Int} {S : Nat → Int → Int} (hx : Ok g x mL_law 20 cs ss) (hA : XA g x b L xs) (hL : L ≤ 256) (hX : XR h z S) (hM : RM h (z + 367) S) (hV : invM S) (hi : 0 ≤ v ∧ v + 4 ≤ (L : Int)) (kk : ∀ (h9 : AH) (S9 : Nat → Int → Int), XR h9 z S9 → RM h9 (z + 367) S9 → invM S9 → Zj g x u h9 1098 [(0, .ref b), (1, .ref z), (2, .ref (z + 367)), (3, .int (iI v))] []) : Zj g x u h 869 [(0, .ref b), (1, .ref z), (2, .ref (z + 367)), (3, .int (iI v))] [] := by
  refine z_aload_n hx dL_law_869 rfl 1 rfl ?_
  refine z_aload_n hx dL_law_870 rfl 0 rfl ?_
  refine z_iload_n hx dL_law_871 rfl 3 rfl ?_
  refine z_iconst hx dL_law_872 ?_
  refine z_iadd hx dL_law_873 ?_
  refine z_xald hA hx dL_law_874 (by omega) hL ?_
  refine z_aload_n hx dL_law_875 rfl 0 rfl ?_
  refine z_iload_n hx dL_law_876 rfl 3 rfl ?_
  refine z_iconst hx dL_law_877 ?_
  refine z_iadd hx dL_law_878 ?_
  refine z_xald hA hx dL_law_879 (by omega) hL ?_
  refine z_aload_n hx dL_law_880 rfl 0 rfl ?_
  refine z_iload_n hx dL_law_881 rfl 3 rfl ?_
  refine z_iconst hx dL_law_882 ?_
  refine z_iadd hx dL_law_883 ?_
  refine z_xald hA hx dL_law_884 (by omega) hL ?_
  refine z_cVJ (as := [.int (iI (xv xs (v + 1))), .int (iI (xv xs (v + 2))), .int (iI (xv xs (v + 3)))]) (rest := []) hx dL_law_885 lk_L_117 wm_X8_two wv_X8_two (rcv_X hx hX) mo_X8_two (kX8_two g hX hV (xv_rg _ _) (xv_rg _ _) (xv_rg _ _)) (by decide) rfl rfl (Nat.le_of_ble_eq_true rfl) (fun h1 q1 => ?_)
  obtain ⟨hX1, hf1⟩ := q1
  have hM1 := RM.fr hM hf1 (by omega)
  refine z_aload_n hx dL_law_888 rfl 2 rfl ?_
  refine z_aload_n hx dL_law_889 rfl 0 rfl ?_
  refine z_iload_n hx dL_law_890 rfl 3 rfl ?_
  refine z_iconst hx dL_law_891 ?_
  refine z_iadd hx dL_law_892 ?_
  refine z_xald hA hx dL_law_893 (by omega) hL ?_
  refine z_aload_n hx dL_law_894 rfl 0 rfl ?_
  refine z_iload_n hx dL_law_895 rfl 3 rfl ?_
  refine z_iconst hx dL_law_896 ?_
  refine z_iadd hx dL_law_897 ?_
  refine z_xald hA hx dL_law_898 (by omega) hL ?_
  refine z_aload_n hx dL_law_899 rfl 0 rfl ?_
  refine z_iload_n hx dL_law_900 rfl 3 rfl ?_
  refine z_iconst hx dL_law_901 ?_
  refine z_iadd hx dL_law_902 ?_
  refine z_xald hA hx dL_law_903 (by omega) hL ?_
  refine z_cVJ (as := [.int (iI (xv xs (v + 1))), .int (iI (xv xs (v + 2))), .int (iI (xv xs (v + 3)))]) (rest := [.int (iI (twoA S (xv xs (v + 1)) (xv xs (v + 2)) (xv xs (v + 3))).1)]) hx dL_law_904 lk_L_120 wm_X9_two wv_X9_two (rcv_R hx hM1) mo_X9_two (kX9_two g hM1 hV (xv_rg _ _) (xv_rg _ _) (xv_rg _ _)) (by decide) rfl rfl (Nat.le_of_ble_eq_true rfl) (fun h2 q2 => ?_)
  obtain ⟨hM2, hf2⟩ := q2
  have hX2 := XR.fr hX1 hf2 (by omega)
  refine z_icmpS (tgt := 1098) hx dL_law_907 (by decide) ?_
  exact kk _ _ hX2 hM2 (iM_two hV)

theorem law_26 (g : Gt) {x : Xt} {cs ss : Nat} {u : Nat × Nat × Nat} {h : AH} {b L z : Nat} {xs : Nat → Int32} {v : Int} {S : Nat → Int → Int} (hx : Ok g x mL_law 20 cs ss) (hA : XA g x b L xs) (hL : L ≤ 256) (hX : XR h z S) (hM : RM h (z + 367) S) (hV : invM S) (hi : 0 ≤ v ∧ v + 4 ≤ (L : Int)) (kk : ∀ (h9 : AH) (S9 : Nat → Int → Int), XR h9 z S9 → RM h9 (z + 367) S9 → invM S9 → Zj g x u h9 1098 [(0, .ref b), (1, .ref z), (2, .ref (z + 367)), (3, .int (iI v))] []) : Zj g x u h 912 [(0, .ref b), (1, .ref z), (2, .ref (z + 367)), (3, .int (iI v))] [] := by
  refine z_aload_n hx dL_law_912 rfl 1 rfl ?_
  refine z_aload_n hx dL_law_913 rfl 0 rfl ?_
  refine z_iload_n hx dL_law_914 rfl 3 rfl ?_
  refine z_iconst hx dL_law_915 ?_
  refine z_iadd hx dL_law_916 ?_
  refine z_xald hA hx dL_law_917 (by omega) hL ?_
  refine z_cVJ (as := [.int (iI (xv xs (v + 1)))]) (rest := []) hx dL_law_918 lk_L_121 wm_X8_rain wv_X8_rain (rcv_X hx hX) mo_X8_rain (kX8_rain g hX hV (xv_rg _ _)) (by decide) rfl rfl (Nat.le_of_ble_eq_true rfl) (fun h1 q1 => ?_)
  obtain ⟨hX1, hf1⟩ := q1
  have hM1 := RM.fr hM hf1 (by omega)
  refine z_aload_n hx dL_law_921 rfl 2 rfl ?_
  refine z_aload_n hx dL_law_922 rfl 0 rfl ?_
  refine z_iload_n hx dL_law_923 rfl 3 rfl ?_
  refine z_iconst hx dL_law_924 ?_
  refine z_iadd hx dL_law_925 ?_
  refine z_xald hA hx dL_law_926 (by omega) hL ?_
  refine z_cVJ (as := [.int (iI (xv xs (v + 1)))]) (rest := [.int (iI (rainA S (xv xs (v + 1))).1)]) hx dL_law_927 lk_L_124 wm_X9_rain wv_X9_rain (rcv_R hx hM1) mo_X9_rain (kX9_rain g hM1 hV (xv_rg _ _)) (by decide) rfl rfl (Nat.le_of_ble_eq_true rfl) (fun h2 q2 => ?_)
  obtain ⟨hM2, hf2⟩ := q2
  have hX2 := XR.fr hX1 hf2 (by omega)
  refine z_icmpS (tgt := 1098) hx dL_law_930 (by decide) ?_
  exact kk _ _ hX2 hM2 (iM_rain hV)

theorem law_27 (g : Gt) {x : Xt} {cs ss : Nat} {u : Nat × Nat × Nat} {h : AH} {b L z : Nat} {xs : Nat → Int32} {v : Int} {S : Nat → Int → Int} (hx : Ok g x mL_law 20 cs ss) (hA : XA g x b L xs) (hL : L ≤ 256) (hX : XR h z S) (hM : RM h (z + 367) S) (hV : invM S) (hi : 0 ≤ v ∧ v + 4 ≤ (L : Int)) (kk : ∀ (h9 : AH) (S9 : Nat → Int → Int), XR h9 z S9 → RM h9 (z + 367) S9 → invM S9 → Zj g x u h9 1098 [(0, .ref b), (1, .ref z), (2, .ref (z + 367)), (3, .int (iI v))] []) : Zj g x u h 935 [(0, .ref b), (1, .ref z), (2, .ref (z + 367)), (3, .int (iI v))] [] := by
  refine z_aload_n hx dL_law_935 rfl 1 rfl ?_
  refine z_aload_n hx dL_law_936 rfl 0 rfl ?_
  refine z_iload_n hx dL_law_937 rfl 3 rfl ?_
  refine z_iconst hx dL_law_938 ?_
  refine z_iadd hx dL_law_939 ?_
  refine z_xald hA hx dL_law_940 (by omega) hL ?_
  refine z_aload_n hx dL_law_941 rfl 0 rfl ?_
  refine z_iload_n hx dL_law_942 rfl 3 rfl ?_
  refine z_iconst hx dL_law_943 ?_
  refine z_iadd hx dL_law_944 ?_
  refine z_xald hA hx dL_law_945 (by omega) hL ?_
  refine z_cVJ (as := [.int (iI (xv xs (v + 1))), .int (iI (xv xs (v + 2)))]) (rest := []) hx dL_law_946 lk_L_125 wm_X8_years wv_X8_years (rcv_X hx hX) mo_X8_years (kX8_years g hX hV (xv_rg _ _) (xv_rg _ _)) (by decide) rfl rfl (Nat.le_of_ble_eq_true rfl) (fun h1 q1 => ?_)
  obtain ⟨hX1, hf1⟩ := q1
  have hM1 := RM.fr hM hf1 (by omega)
  refine z_aload_n hx dL_law_949 rfl 2 rfl ?_
  refine z_aload_n hx dL_law_950 rfl 0 rfl ?_
  refine z_iload_n hx dL_law_951 rfl 3 rfl ?_
  refine z_iconst hx dL_law_952 ?_
  refine z_iadd hx dL_law_953 ?_
  refine z_xald hA hx dL_law_954 (by omega) hL ?_
  refine z_aload_n hx dL_law_955 rfl 0 rfl ?_
  refine z_iload_n hx dL_law_956 rfl 3 rfl ?_
  refine z_iconst hx dL_law_957 ?_
  refine z_iadd hx dL_law_958 ?_
  refine z_xald hA hx dL_law_959 (by omega) hL ?_
  refine z_cVJ (as := [.int (iI (xv xs (v + 1))), .int (iI (xv xs (v + 2)))]) (rest := [.int (iI (yearsA S (xv xs (v + 1)) (xv xs (v + 2))).1)]) hx dL_law_960 lk_L_128 wm_X9_years wv_X9_years (rcv_R hx hM1) mo_X9_years (kX9_years g hM1 hV (xv_rg _ _) (xv_rg _ _)) (by decide) rfl rfl (Nat.le_of_ble_eq_true rfl) (fun h2 q2 => ?_)
  obtain ⟨hM2, hf2⟩ := q2
  have hX2 := XR.fr hX1 hf2 (by omega)
  refine z_icmpS (tgt := 1098) hx dL_law_963 (by decide) ?_
  exact kk _ _ hX2 hM2 (iM_years hV)

theorem law_28 (g : Gt) {x : Xt} {cs ss : Nat} {u : Nat × Nat × Nat} {h : AH} {b L z : Nat} {xs : Nat → Int32} {v : Int} {S : Nat → Int → Int} (hx : Ok g x mL_law 20 cs ss) (hA : XA g x b L xs) (hL : L ≤ 256) (hX : XR h z S) (hM : RM h (z + 367) S) (hV : invM S) (hi : 0 ≤ v ∧ v + 4 ≤ (L : Int)) (kk : ∀ (h9 : AH) (S9 : Nat → Int → Int), XR h9 z S9 → RM h9 (z + 367) S9 → invM S9 → Zj g x u h9 1098 [(0, .ref b), (1, .ref z), (2, .ref (z + 367)), (3, .int (iI v))] []) : Zj g x u h 968 [(0, .ref b), (1, .ref z), (2, .ref (z + 367)), (3, .int (iI v))] [] := by
  refine z_aload_n hx dL_law_968 rfl 1 rfl ?_
  refine z_aload_n hx dL_law_969 rfl 0 rfl ?_
  refine z_iload_n hx dL_law_970 rfl 3 rfl ?_
  refine z_iconst hx dL_law_971 ?_
  refine z_iadd hx dL_law_972 ?_
  refine z_xald hA hx dL_law_973 (by omega) hL ?_
  refine z_cVM (as := [.int (iI (xv xs (v + 1)))]) (rest := []) hx dL_law_974 lk_L_129 wm_X8_part wv_X8_part (rcv_X hx hX) mo_X8_part (kX8_part g hX hV (xv_rg _ _)) (by decide) rfl rfl (Nat.le_of_ble_eq_true rfl) (fun h1 q1 => ?_)
  obtain ⟨hX1, hf1⟩ := q1
  have hM1 := RM.fr hM hf1 (by omega)
  refine z_aload_n hx dL_law_977 rfl 2 rfl ?_
  refine z_aload_n hx dL_law_978 rfl 0 rfl ?_
  refine z_iload_n hx dL_law_979 rfl 3 rfl ?_
  refine z_iconst hx dL_law_980 ?_
  refine z_iadd hx dL_law_981 ?_
  refine z_xald hA hx dL_law_982 (by omega) hL ?_
  refine z_cVM (as := [.int (iI (xv xs (v + 1)))]) (rest := [.long (lI (partA S (xv xs (v + 1))).1)]) hx dL_law_983 lk_L_133 wm_X9_part wv_X9_part (rcv_R hx hM1) mo_X9_part (kX9_part g hM1 (xv_rg _ _)) (by decide) rfl rfl (Nat.le_of_ble_eq_true rfl) (fun h2 q2 => ?_)
  obtain ⟨hM2, hf2⟩ := q2
  have hX2 := XR.fr hX1 hf2 (by omega)
  refine z_lcmpS hx dL_law_986 ?_
  refine z_if_eq (tgt := 1098) hx dL_law_987 (by decide) (by decide) (fun _ => ?_) (fun q => absurd rfl q)
  exact kk _ _ hX2 hM2 (iM_part hV)

theorem law_29 (g : Gt) {x : Xt} {cs ss : Nat} {u : Nat × Nat × Nat} {h : AH} {b L z : Nat} {xs : Nat → Int32} {v : Int} {S : Nat → Int → Int} (hx : Ok g x mL_law 20 cs ss) (hA : XA g x b L xs) (hL : L ≤ 256) (hX : XR h z S) (hM : RM h (z + 367) S) (hV : invM S) (hi : 0 ≤ v ∧ v + 4 ≤ (L : Int)) (kk : ∀ (h9 : AH) (S9 : Nat → Int → Int), XR h9 z S9 → RM h9 (z + 367) S9 → invM S9 → Zj g x u h9 1098 [(0, .ref b), (1, .ref z), (2, .ref (z + 367)), (3, .int (iI v))] []) : Zj g x u h 992 [(0, .ref b), (1, .ref z), (2, .ref (z + 367)), (3, .int (iI v))] [] := by
  refine z_aload_n hx dL_law_992 rfl 1 rfl ?_
  refine z_aload_n hx dL_law_993 rfl 0 rfl ?_
  refine z_iload_n hx dL_law_994 rfl 3 rfl ?_
  refine z_iconst hx dL_law_995 ?_
  refine z_iadd hx dL_law_996 ?_
  refine z_xald hA hx dL_law_997 (by omega) hL ?_
  refine z_cVJ (as := [.int (iI (xv xs (v + 1)))]) (rest := []) hx dL_law_998 lk_L_134 wm_X8_image wv_X8_image (rcv_X hx hX) mo_X8_image (kX8_image g hX hV (xv_rg _ _)) (by decide) rfl rfl (Nat.le_of_ble_eq_true rfl) (fun h1 q1 => ?_)
  obtain ⟨hX1, hf1⟩ := q1
  have hM1 := RM.fr hM hf1 (by omega)
  refine z_aload_n hx dL_law_1001 rfl 2 rfl ?_
  refine z_aload_n hx dL_law_1002 rfl 0 rfl ?_
  refine z_iload_n hx dL_law_1003 rfl 3 rfl ?_
  refine z_iconst hx dL_law_1004 ?_
  refine z_iadd hx dL_law_1005 ?_
  refine z_xald hA hx dL_law_1006 (by omega) hL ?_
  refine z_cVJ (as := [.int (iI (xv xs (v + 1)))]) (rest := [.int (iI (imageA S (xv xs (v + 1))).1)]) hx dL_law_1007 lk_L_137 wm_X9_image wv_X9_image (rcv_R hx hM1) mo_X9_image (kX9_image g hM1 hV (xv_rg _ _)) (by decide) rfl rfl (Nat.le_of_ble_eq_true rfl) (fun h2 q2 => ?_)
  obtain ⟨hM2, hf2⟩ := q2
  have hX2 := XR.fr hX1 hf2 (by omega)
  refine z_icmpS (tgt := 1098) hx dL_law_1010 (by decide) ?_
  exact kk _ _ hX2 hM2 (iM_image hV)

theorem law_30 (g : Gt) {x : Xt} {cs ss : Nat} {u : Nat × Nat × Nat} {h : AH} {b L z : Nat} {xs : Nat → Int32} {v : Int} {S : Nat → Int → Int} (hx : Ok g x mL_law 20 cs ss) (hA : XA g x b L xs) (hL : L ≤ 256) (hX : XR h z S) (hM : RM h (z + 367) S) (hV : invM S) (hi : 0 ≤ v ∧ v + 4 ≤ (L : Int)) (kk : ∀ (h9 : AH) (S9 : Nat → Int → Int), XR h9 z S9 → RM h9 (z + 367) S9 → invM S9 → Zj g x u h9 1098 [(0, .ref b), (1, .ref z), (2, .ref (z + 367)), (3, .int (iI v))] []) : Zj g x u h 1015 [(0, .ref b), (1, .ref z), (2, .ref (z + 367)), (3, .int (iI v))] [] := by
  refine z_aload_n hx dL_law_1015 rfl 1 rfl ?_
  refine z_aload_n hx dL_law_1016 rfl 0 rfl ?_
  refine z_iload_n hx dL_law_1017 rfl 3 rfl ?_
  refine z_iconst hx dL_law_1018 ?_
  refine z_iadd hx dL_law_1019 ?_
  refine z_xald hA hx dL_law_1020 (by omega) hL ?_
  refine z_cVJ (as := [.int (iI (xv xs (v + 1)))]) (rest := []) hx dL_law_1021 lk_L_138 wm_X8_from wv_X8_from (rcv_X hx hX) mo_X8_from (kX8_from g hX hV (xv_rg _ _)) (by decide) rfl rfl (Nat.le_of_ble_eq_true rfl) (fun h1 q1 => ?_)
  obtain ⟨hX1, hf1⟩ := q1
  have hM1 := RM.fr hM hf1 (by omega)
  refine z_aload_n hx dL_law_1024 rfl 2 rfl ?_
  refine z_aload_n hx dL_law_1025 rfl 0 rfl ?_
  refine z_iload_n hx dL_law_1026 rfl 3 rfl ?_
  refine z_iconst hx dL_law_1027 ?_
  refine z_iadd hx dL_law_1028 ?_
  refine z_xald hA hx dL_law_1029 (by omega) hL ?_
  refine z_cVJ (as := [.int (iI (xv xs (v + 1)))]) (rest := [.int (iI (fromA S (xv xs (v + 1))).1)]) hx dL_law_1030 lk_L_141 wm_X9_from wv_X9_from (rcv_R hx hM1) mo_X9_from (kX9_from g hM1 hV (xv_rg _ _)) (by decide) rfl rfl (Nat.le_of_ble_eq_true rfl) (fun h2 q2 => ?_)
  obtain ⟨hM2, hf2⟩ := q2
  have hX2 := XR.fr hX1 hf2 (by omega)
  refine z_icmpS (tgt := 1098) hx dL_law_1033 (by decide) ?_
  exact kk _ _ hX2 hM2 (iM_from hV)

theorem law_31 (g : Gt) {x : Xt} {cs ss : Nat} {u : Nat × Nat × Nat} {h : AH} {b L z : Nat} {xs : Nat → Int32} {v : Int} {S : Nat → Int → Int} (hx : Ok g x mL_law 20 cs ss) (hA : XA g x b L xs) (hL : L ≤ 256) (hX : XR h z S) (hM : RM h (z + 367) S) (hV : invM S) (hi : 0 ≤ v ∧ v + 4 ≤ (L : Int)) (kk : ∀ (h9 : AH) (S9 : Nat → Int → Int), XR h9 z S9 → RM h9 (z + 367) S9 → invM S9 → Zj g x u h9 1098 [(0, .ref b), (1, .ref z), (2, .ref (z + 367)), (3, .int (iI v))] []) : Zj g x u h 1038 [(0, .ref b), (1, .ref z), (2, .ref (z + 367)), (3, .int (iI v))] [] := by
  refine z_aload_n hx dL_law_1038 rfl 1 rfl ?_
  refine z_aload_n hx dL_law_1039 rfl 0 rfl ?_
  refine z_iload_n hx dL_law_1040 rfl 3 rfl ?_
  refine z_iconst hx dL_law_1041 ?_
  refine z_iadd hx dL_law_1042 ?_
  refine z_xald hA hx dL_law_1043 (by omega) hL ?_
  refine z_cVJ (as := [.int (iI (xv xs (v + 1)))]) (rest := []) hx dL_law_1044 lk_L_142 wm_X8_status wv_X8_status (rcv_X hx hX) mo_X8_status (kX8_status g hX hV (xv_rg _ _)) (by decide) rfl rfl (Nat.le_of_ble_eq_true rfl) (fun h1 q1 => ?_)
  obtain ⟨hX1, hf1⟩ := q1
  have hM1 := RM.fr hM hf1 (by omega)
  refine z_aload_n hx dL_law_1047 rfl 2 rfl ?_
  refine z_aload_n hx dL_law_1048 rfl 0 rfl ?_
  refine z_iload_n hx dL_law_1049 rfl 3 rfl ?_
  refine z_iconst hx dL_law_1050 ?_
  refine z_iadd hx dL_law_1051 ?_
  refine z_xald hA hx dL_law_1052 (by omega) hL ?_
  refine z_cVJ (as := [.int (iI (xv xs (v + 1)))]) (rest := [.int (iI (statusA S (xv xs (v + 1))).1)]) hx dL_law_1053 lk_L_145 wm_X9_status wv_X9_status (rcv_R hx hM1) mo_X9_status (kX9_status g hM1 hV (xv_rg _ _)) (by decide) rfl rfl (Nat.le_of_ble_eq_true rfl) (fun h2 q2 => ?_)
  obtain ⟨hM2, hf2⟩ := q2
  have hX2 := XR.fr hX1 hf2 (by omega)
  refine z_icmpS (tgt := 1098) hx dL_law_1056 (by decide) ?_
  exact kk _ _ hX2 hM2 (iM_status hV)

theorem law_32 (g : Gt) {x : Xt} {cs ss : Nat} {u : Nat × Nat × Nat} {h : AH} {b L z : Nat} {xs : Nat → Int32} {v : Int} {S : Nat → Int → Int} (hx : Ok g x mL_law 20 cs ss) (hA : XA g x b L xs) (hL : L ≤ 256) (hX : XR h z S) (hM : RM h (z + 367) S) (hV : invM S) (hi : 0 ≤ v ∧ v + 4 ≤ (L : Int)) (kk : ∀ (h9 : AH) (S9 : Nat → Int → Int), XR h9 z S9 → RM h9 (z + 367) S9 → invM S9 → Zj g x u h9 1098 [(0, .ref b), (1, .ref z), (2, .ref (z + 367)), (3, .int (iI v))] []) : Zj g x u h 1061 [(0, .ref b), (1, .ref z), (2, .ref (z + 367)), (3, .int (iI v))] [] := by
  refine z_aload_n hx dL_law_1061 rfl 1 rfl ?_
  refine z_aload_n hx dL_law_1062 rfl 0 rfl ?_
  refine z_iload_n hx dL_law_1063 rfl 3 rfl ?_
  refine z_iconst hx dL_law_1064 ?_
  refine z_iadd hx dL_law_1065 ?_
  refine z_xald hA hx dL_law_1066 (by omega) hL ?_
  refine z_cVJ (as := [.int (iI (xv xs (v + 1)))]) (rest := []) hx dL_law_1067 lk_L_146 wm_X8_count wv_X8_count (rcv_X hx hX) mo_X8_count (kX8_count g hX hV (xv_rg _ _)) (by decide) rfl rfl (Nat.le_of_ble_eq_true rfl) (fun h1 q1 => ?_)
  obtain ⟨hX1, hf1⟩ := q1
  have hM1 := RM.fr hM hf1 (by omega)
  refine z_aload_n hx dL_law_1070 rfl 2 rfl ?_
  refine z_aload_n hx dL_law_1071 rfl 0 rfl ?_
  refine z_iload_n hx dL_law_1072 rfl 3 rfl ?_
  refine z_iconst hx dL_law_1073 ?_
  refine z_iadd hx dL_law_1074 ?_
  refine z_xald hA hx dL_law_1075 (by omega) hL ?_
  refine z_cVJ (as := [.int (iI (xv xs (v + 1)))]) (rest := [.int (iI (countA S (xv xs (v + 1))).1)]) hx dL_law_1076 lk_L_149 wm_X9_count wv_X9_count (rcv_R hx hM1) mo_X9_count (kX9_count g hM1 hV (xv_rg _ _)) (by decide) rfl rfl (Nat.le_of_ble_eq_true rfl) (fun h2 q2 => ?_)
  obtain ⟨hM2, hf2⟩ := q2
  have hX2 := XR.fr hX1 hf2 (by omega)
  refine z_icmpS (tgt := 1098) hx dL_law_1079 (by decide) ?_
  exact kk _ _ hX2 hM2 (iM_count hV)

theorem law_33 (g : Gt) {x : Xt} {cs ss : Nat} {u : Nat × Nat × Nat} {h : AH} {b L z : Nat} {xs : Nat → Int32} {v : Int} {S : Nat → Int → Int} (hx : Ok g x mL_law 20 cs ss) (hA : XA g x b L xs) (hL : L ≤ 256) (hX : XR h z S) (hM : RM h (z + 367) S) (hV : invM S) (hi : 0 ≤ v ∧ v + 4 ≤ (L : Int)) (kk : ∀ (h9 : AH) (S9 : Nat → Int → Int), XR h9 z S9 → RM h9 (z + 367) S9 → invM S9 → Zj g x u h9 1098 [(0, .ref b), (1, .ref z), (2, .ref (z + 367)), (3, .int (iI v))] []) : Zj g x u h 1084 [(0, .ref b), (1, .ref z), (2, .ref (z + 367)), (3, .int (iI v))] [] := by
  refine z_aload_n hx dL_law_1084 rfl 1 rfl ?_
  refine z_cVM (as := []) (rest := []) hx dL_law_1085 lk_L_150 wm_X8_digest wv_X8_digest (rcv_X hx hX) mo_X8_digest ((show CnM g mX8_digest 6 [.ref z] h (digV S) (QX h z S) from kX8_digest g hX hV)) (by decide) rfl rfl (Nat.le_of_ble_eq_true rfl) (fun h1 q1 => ?_)
  obtain ⟨hX1, hf1⟩ := q1
  have hM1 := RM.fr hM hf1 (by omega)
  refine z_aload_n hx dL_law_1088 rfl 2 rfl ?_
  refine z_cVM (as := []) (rest := [.long (lI (digV S))]) hx dL_law_1089 lk_L_154 wm_X9_digest wv_X9_digest (rcv_R hx hM1) mo_X9_digest (kX9_digest g hM1 hV) (by decide) rfl rfl (Nat.le_of_ble_eq_true rfl) (fun h2 q2 => ?_)
  obtain ⟨hM2, hf2⟩ := q2
  have hX2 := XR.fr hX1 hf2 (by omega)
  refine z_lcmpS hx dL_law_1092 ?_
  refine z_if_eq (tgt := 1098) hx dL_law_1093 (by decide) (by decide) (fun _ => ?_) (fun q => absurd rfl q)
  exact kk _ _ hX2 hM2 (hV)

set_option maxHeartbeats 4000000 in
set_option maxRecDepth 20000 in
theorem law_loop (g : Gt) {x : Xt} {cs ss : Nat} {u : Nat × Nat × Nat} {b L z : Nat} {xs : Nat → Int32} (hx : Ok g x mL_law 20 cs ss) (hA : XA g x b L xs) (hL : L ≤ 256) (hend : ∀ h9 : AH, ∀ v : Int, Zj g x u h9 1105 [(0, .ref b), (1, .ref z), (2, .ref (z + 367)), (3, .int (iI v))] [.int (iI 1)]) : ∀ (mm : Nat) (v : Int) (h : AH) (S : Nat → Int → Int), 0 ≤ v → v ≤ 260 → (L : Int) - v < (mm : Int) → XR h z S → RM h (z + 367) S → invM S → Zj g x u h 18 [(0, .ref b), (1, .ref z), (2, .ref (z + 367)), (3, .int (iI v))] [] := by
  have end9 : ∀ (h9 : AH) (v : Int), Zj g x u h9 1104 [(0, .ref b), (1, .ref z), (2, .ref (z + 367)), (3, .int (iI v))] [] := fun h9 v => by
    refine z_iconst hx dL_law_1104 ?_
    exact hend h9 v
  intro mm
  induction mm with
  | zero =>
    intro v h S h0 h260 hm hX hM hV
    refine z_iload_n hx dL_law_18 rfl 3 rfl ?_
    refine z_aload_n hx dL_law_19 rfl 0 rfl ?_
    refine z_xlen hA hx dL_law_20 ?_
    refine z_iconst hx dL_law_21 ?_
    refine z_isub hx dL_law_22 ?_
    refine z_icmp_gt (tgt := 1104) hx dL_law_23 (by decide) (by omega) (by omega) (fun c1 => end9 _ _) (fun c1 => by exfalso; omega)
  | succ mm ih =>
    intro v h S h0 h260 hm hX hM hV
    refine z_iload_n hx dL_law_18 rfl 3 rfl ?_
    refine z_aload_n hx dL_law_19 rfl 0 rfl ?_
    refine z_xlen hA hx dL_law_20 ?_
    refine z_iconst hx dL_law_21 ?_
    refine z_isub hx dL_law_22 ?_
    refine z_icmp_gt (tgt := 1104) hx dL_law_23 (by decide) (by omega) (by omega) (fun c1 => end9 _ _) (fun c1 => ?_)
    have hi : 0 ≤ v ∧ v + 4 ≤ (L : Int) := by omega
    have kk : ∀ (h9 : AH) (S9 : Nat → Int → Int), XR h9 z S9 → RM h9 (z + 367) S9 → invM S9 → Zj g x u h9 1098 [(0, .ref b), (1, .ref z), (2, .ref (z + 367)), (3, .int (iI v))] [] := fun h9 S9 a1 a2 a3 => by
      refine z_iinc hx dL_law_1098 (by decide) 3 rfl [1, 2, 3, 0] (lv' := [(0, .ref b), (1, .ref z), (2, .ref (z + 367)), (3, .int (iI (v + 4)))]) rfl ?_
      refine z_goto (tgt := 18) hx dL_law_1101 (by decide) ?_
      exact ih (v + 4) h9 S9 (by omega) (by omega) (by omega) a1 a2 a3
    refine z_aload_n hx dL_law_26 rfl 0 rfl ?_
    refine z_iload_n hx dL_law_27 rfl 3 rfl ?_
    refine z_xald hA hx dL_law_28 (by omega) hL ?_
    refine z_bipush hx dL_law_29 (by decide) ?_
    refine z_iand hx dL_law_31 ?_
    have hrg := andI_rg (xv xs v) 63
    obtain ⟨w, ew⟩ : ∃ w : Int, w = andI (xv xs v) 63 := ⟨_, rfl⟩
    rw [← ew] at hrg ⊢
    by_cases c10 : w = 0
    · refine z_tblIn (off := 152) (tgt := 184) hx dL_law_32 hrg 0 c10 (by decide) rfl (by decide) ?_
      exact law_0 g hx hA hL hX hM hV hi kk
    by_cases c11 : w = 1
    · refine z_tblIn (off := 165) (tgt := 197) hx dL_law_32 hrg 1 c11 (by decide) rfl (by decide) ?_
      exact law_1 g hx hA hL hX hM hV hi kk
    by_cases c12 : w = 2
    · refine z_tblIn (off := 208) (tgt := 240) hx dL_law_32 hrg 2 c12 (by decide) rfl (by decide) ?_
      exact law_2 g hx hA hL hX hM hV hi kk
    by_cases c13 : w = 3
    · refine z_tblIn (off := 231) (tgt := 263) hx dL_law_32 hrg 3 c13 (by decide) rfl (by decide) ?_
      exact law_3 g hx hA hL hX hM hV hi kk
    by_cases c14 : w = 4
    · refine z_tblIn (off := 254) (tgt := 286) hx dL_law_32 hrg 4 c14 (by decide) rfl (by decide) ?_
      exact law_4 g hx hA hL hX hM hV hi kk
    by_cases c15 : w = 5
    · refine z_tblIn (off := 277) (tgt := 309) hx dL_law_32 hrg 5 c15 (by decide) rfl (by decide) ?_
      exact law_5 g hx hA hL hX hM hV hi kk
    by_cases c16 : w = 6
    · refine z_tblIn (off := 290) (tgt := 322) hx dL_law_32 hrg 6 c16 (by decide) rfl (by decide) ?_
      exact law_6 g hx hA hL hX hM hV hi kk
    by_cases c17 : w = 7
    · refine z_tblIn (off := 303) (tgt := 335) hx dL_law_32 hrg 7 c17 (by decide) rfl (by decide) ?_
      exact law_7 g hx hA hL hX hM hV hi kk
    by_cases c18 : w = 8
    · refine z_tblIn (off := 326) (tgt := 358) hx dL_law_32 hrg 8 c18 (by decide) rfl (by decide) ?_
      exact law_8 g hx hA hL hX hM hV hi kk
    by_cases c19 : w = 9
    · refine z_tblIn (off := 359) (tgt := 391) hx dL_law_32 hrg 9 c19 (by decide) rfl (by decide) ?_
      exact law_9 g hx hA hL hX hM hV hi kk
    by_cases c20 : w = 10
    · refine z_tblIn (off := 392) (tgt := 424) hx dL_law_32 hrg 10 c20 (by decide) rfl (by decide) ?_
      exact law_10 g hx hA hL hX hM hV hi kk
    by_cases c21 : w = 11
    · refine z_tblIn (off := 405) (tgt := 437) hx dL_law_32 hrg 11 c21 (by decide) rfl (by decide) ?_
      exact law_11 g hx hA hL hX hM hV hi kk
    by_cases c22 : w = 12
    · refine z_tblIn (off := 438) (tgt := 470) hx dL_law_32 hrg 12 c22 (by decide) rfl (by decide) ?_
      exact law_12 g hx hA hL hX hM hV hi kk
    by_cases c23 : w = 13
    · refine z_tblIn (off := 471) (tgt := 503) hx dL_law_32 hrg 13 c23 (by decide) rfl (by decide) ?_
      exact law_13 g hx hA hL hX hM hV hi kk
    by_cases c24 : w = 14
    · refine z_tblIn (off := 494) (tgt := 526) hx dL_law_32 hrg 14 c24 (by decide) rfl (by decide) ?_
      exact law_14 g hx hA hL hX hM hV hi kk
    by_cases c25 : w = 15
    · refine z_tblIn (off := 537) (tgt := 569) hx dL_law_32 hrg 15 c25 (by decide) rfl (by decide) ?_
      exact law_15 g hx hA hL hX hM hV hi kk
    by_cases c26 : w = 16
    · refine z_tblIn (off := 570) (tgt := 602) hx dL_law_32 hrg 16 c26 (by decide) rfl (by decide) ?_
      exact law_16 g hx hA hL hX hM hV hi kk
    by_cases c27 : w = 17
    · refine z_tblIn (off := 593) (tgt := 625) hx dL_law_32 hrg 17 c27 (by decide) rfl (by decide) ?_
      exact law_17 g hx hA hL hX hM hV hi kk
    by_cases c28 : w = 18
    · refine z_tblIn (off := 626) (tgt := 658) hx dL_law_32 hrg 18 c28 (by decide) rfl (by decide) ?_
      exact law_18 g hx hA hL hX hM hV hi kk
    by_cases c29 : w = 19
    · refine z_tblIn (off := 659) (tgt := 691) hx dL_law_32 hrg 19 c29 (by decide) rfl (by decide) ?_
      exact law_19 g hx hA hL hX hM hV hi kk
    by_cases c30 : w = 20
    · refine z_tblIn (off := 692) (tgt := 724) hx dL_law_32 hrg 20 c30 (by decide) rfl (by decide) ?_
      exact law_20 g hx hA hL hX hM hV hi kk
    by_cases c31 : w = 21
    · refine z_tblIn (off := 735) (tgt := 767) hx dL_law_32 hrg 21 c31 (by decide) rfl (by decide) ?_
      exact law_21 g hx hA hL hX hM hV hi kk
    by_cases c32 : w = 22
    · refine z_tblIn (off := 748) (tgt := 780) hx dL_law_32 hrg 22 c32 (by decide) rfl (by decide) ?_
      exact law_22 g hx hA hL hX hM hV hi kk
    by_cases c33 : w = 23
    · refine z_tblIn (off := 771) (tgt := 803) hx dL_law_32 hrg 23 c33 (by decide) rfl (by decide) ?_
      exact law_23 g hx hA hL hX hM hV hi kk
    by_cases c34 : w = 24
    · refine z_tblIn (off := 794) (tgt := 826) hx dL_law_32 hrg 24 c34 (by decide) rfl (by decide) ?_
      exact law_24 g hx hA hL hX hM hV hi kk
    by_cases c35 : w = 25
    · refine z_tblIn (off := 837) (tgt := 869) hx dL_law_32 hrg 25 c35 (by decide) rfl (by decide) ?_
      exact law_25 g hx hA hL hX hM hV hi kk
    by_cases c36 : w = 26
    · refine z_tblIn (off := 880) (tgt := 912) hx dL_law_32 hrg 26 c36 (by decide) rfl (by decide) ?_
      exact law_26 g hx hA hL hX hM hV hi kk
    by_cases c37 : w = 27
    · refine z_tblIn (off := 903) (tgt := 935) hx dL_law_32 hrg 27 c37 (by decide) rfl (by decide) ?_
      exact law_27 g hx hA hL hX hM hV hi kk
    by_cases c38 : w = 28
    · refine z_tblIn (off := 936) (tgt := 968) hx dL_law_32 hrg 28 c38 (by decide) rfl (by decide) ?_
      exact law_28 g hx hA hL hX hM hV hi kk
    by_cases c39 : w = 29
    · refine z_tblIn (off := 960) (tgt := 992) hx dL_law_32 hrg 29 c39 (by decide) rfl (by decide) ?_
      exact law_29 g hx hA hL hX hM hV hi kk
    by_cases c40 : w = 30
    · refine z_tblIn (off := 983) (tgt := 1015) hx dL_law_32 hrg 30 c40 (by decide) rfl (by decide) ?_
      exact law_30 g hx hA hL hX hM hV hi kk
    by_cases c41 : w = 31
    · refine z_tblIn (off := 1006) (tgt := 1038) hx dL_law_32 hrg 31 c41 (by decide) rfl (by decide) ?_
      exact law_31 g hx hA hL hX hM hV hi kk
    by_cases c42 : w = 32
    · refine z_tblIn (off := 1029) (tgt := 1061) hx dL_law_32 hrg 32 c42 (by decide) rfl (by decide) ?_
      exact law_32 g hx hA hL hX hM hV hi kk
    by_cases c43 : w = 33
    · refine z_tblIn (off := 1052) (tgt := 1084) hx dL_law_32 hrg 33 c43 (by decide) rfl (by decide) ?_
      exact law_33 g hx hA hL hX hM hV hi kk
    refine z_tblOut (tgt := 1098) hx dL_law_32 hrg (by omega) (by decide) ?_
    exact kk h S hX hM hV

