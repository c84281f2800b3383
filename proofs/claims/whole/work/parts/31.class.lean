/-! the class: all its cells, and what they have to do with the reference's state -/
abbrev XO (h : AH) (b : Nat) (la lb c0 c1 c2 : Int) : Prop := h b = some (.inr (.inr (0, [.ref (b + 1), .ref (b + 97), .ref (b + 193), .ref (b + 289), .ref (b + 291), .ref (b + 301), .ref (b + 313), .ref (b + 366), .long (lI la), .long (lI lb), .int (iI c0), .int (iI c1), .int (iI c2)])))
def TM (h : AH) (t : Nat) (T : Int → Int) (L a1 a2 a3 a4 : Int) : Prop := h t = some (.inr (.inr (6, [.ref (t + 1), .int (iI L), .int (iI a1), .int (iI a2), .int (iI a3), .int (iI a4)]))) ∧ h (t + 1) = some (.inl (1, 150, T))
def DM (h : AH) (r : Nat) (F : Nat → Int → Int) (nb : Int → Int) (a1 a2 a3 : Int) : Prop := h r = some (.inr (.inr (5, [.ref (r + 1), .ref (r + 11), .int (iI a1), .int (iI a2), .int (iI a3)]))) ∧ CM h (r + 1) F ∧ h (r + 11) = some (.inl (0, 3, nb))
def EM (h : AH) (e : Nat) (C : Int → Int) (Es : Int → Nat → Int → Int) : Prop := h e = some (.inr (.inr (2, [.ref (e + 1), .ref (e + 2)]))) ∧ (∃ r : Int → Option Nat, h (e + 1) = some (.inr (.inl (5, r))) ∧ ∀ i, 0 ≤ i → i < 5 → r i = some (e + 3 + 10 * i.toNat)) ∧ h (e + 2) = some (.inl (0, 4, C)) ∧ ∀ i : Int, 0 ≤ i → i < 5 → CM h (e + 3 + 10 * i.toNat) (Es i)
def IRl (F : Nat → Int → Int) (Fs : Int → Nat → Int → Int) (m n : Int) (N : Nat → Int → Int) (g : Int → Int) : Prop := RLC F g ∧ m = g 58 ∧ PRl Fs g ∧ n = g 39 ∧ NRl N g
def TB (h : AH) (t : Nat) (T : Int → Int) (L : Int) : Prop := ∃ a1 a2 a3 a4 : Int, TM h t T L a1 a2 a3 a4
def CB (h : AH) (c : Nat) : Prop := ∃ F : Nat → Int → Int, CM h c F
def RB (h : AH) (r : Nat) : Prop := ∃ (F : Nat → Int → Int) (nb : Int → Int) (a1 a2 a3 : Int), DM h r F nb a1 a2 a3
def EB (h : AH) (e : Nat) : Prop := ∃ (C : Int → Int) (Es : Int → Nat → Int → Int), EM h e C Es
def HB (h : AH) (a : Nat) : Prop := ∃ f : Int → Int, h a = some (.inl (0, 6, f))
def IB (h : AH) (k : Nat) (kp : Int) (g : Int → Int) : Prop := ∃ (F : Nat → Int → Int) (pi : Int → Int) (Fs : Int → Nat → Int → Int) (m n : Int) (N : Nat → Int → Int), KM h k F pi Fs m n kp N ∧ (kp = 1 → IRl F Fs m n N g)
theorem TM.fr {h h' : AH} {t b n : Nat} {T : Int → Int} {L a1 a2 a3 a4 : Int} (m : TM h t T L a1 a2 a3 a4) (a : Fr h h' b n) (hd : t + 2 ≤ b ∨ b + n ≤ t) : TM h' t T L a1 a2 a3 a4 := ⟨a.at (by omega) m.1, a.at (by omega) m.2⟩
theorem TB.fr {h h' : AH} {t b n : Nat} {T : Int → Int} {L : Int} (m : TB h t T L) (a : Fr h h' b n) (hd : t + 2 ≤ b ∨ b + n ≤ t) : TB h' t T L := by obtain ⟨a1, a2, a3, a4, m⟩ := m; exact ⟨a1, a2, a3, a4, m.fr a hd⟩
theorem CB.fr {h h' : AH} {c b n : Nat} (m : CB h c) (a : Fr h h' b n) (hd : c + 10 ≤ b ∨ b + n ≤ c) : CB h' c := by obtain ⟨F, m⟩ := m; exact ⟨F, m.fr a hd⟩
theorem DM.fr {h h' : AH} {r b n : Nat} {F : Nat → Int → Int} {nb : Int → Int} {a1 a2 a3 : Int} (m : DM h r F nb a1 a2 a3) (a : Fr h h' b n) (hd : r + 12 ≤ b ∨ b + n ≤ r) : DM h' r F nb a1 a2 a3 := ⟨a.at (by omega) m.1, m.2.1.fr a (by omega), a.at (by omega) m.2.2⟩
theorem RB.fr {h h' : AH} {r b n : Nat} (m : RB h r) (a : Fr h h' b n) (hd : r + 12 ≤ b ∨ b + n ≤ r) : RB h' r := by obtain ⟨F, nb, a1, a2, a3, m⟩ := m; exact ⟨F, nb, a1, a2, a3, m.fr a hd⟩
theorem EM.fr {h h' : AH} {e b n : Nat} {C : Int → Int} {Es : Int → Nat → Int → Int} (m : EM h e C Es) (a : Fr h h' b n) (hd : e + 53 ≤ b ∨ b + n ≤ e) : EM h' e C Es := by
  obtain ⟨m0, ⟨r, m1, m2⟩, m3, m4⟩ := m
  exact ⟨a.at (by omega) m0, ⟨r, a.at (by omega) m1, m2⟩, a.at (by omega) m3, fun i x y => (m4 i x y).fr a (by omega)⟩
theorem EB.fr {h h' : AH} {e b n : Nat} (m : EB h e) (a : Fr h h' b n) (hd : e + 53 ≤ b ∨ b + n ≤ e) : EB h' e := by obtain ⟨C, Es, m⟩ := m; exact ⟨C, Es, m.fr a hd⟩
theorem HB.fr {h h' : AH} {q b n : Nat} (m : HB h q) (a : Fr h h' b n) (hd : q + 1 ≤ b ∨ b + n ≤ q) : HB h' q := by obtain ⟨f, m⟩ := m; exact ⟨f, a.at (by omega) m⟩
theorem IB.fr {h h' : AH} {k b n : Nat} {kp : Int} {g : Int → Int} (m : IB h k kp g) (a : Fr h h' b n) (hd : k + 96 ≤ b ∨ b + n ≤ k) : IB h' k kp g := by obtain ⟨F, pi, Fs, m9, n9, N, m, r⟩ := m; exact ⟨F, pi, Fs, m9, n9, N, m.fr a hd, r⟩
theorem KM.eq {h : AH} {k : Nat} {F : Nat → Int → Int} {pi : Int → Int} {Fs : Int → Nat → Int → Int} {m n kp m' n' : Int} {N : Nat → Int → Int} (K : KM h k F pi Fs m n kp N) (hm : m' = m) (hn : n' = n) : KM h k F pi Fs m' n' kp N := by subst hm; subst hn; exact K
def img (im : Int → Int) (i : Int) : Int → Int := fun j => im (267 * i + j)
def XC (h : AH) (b : Nat) (Z f im kp rf t : Int → Int) : Prop := ∃ (F : Nat → Int → Int) (pi : Int → Int) (Fs : Int → Nat → Int → Int) (kq : Int) (N : Nat → Int → Int) (T : Int → Int),
  XO h b (Z 6) (Z 7) (rf 0) (rf 1) (rf 2) ∧ KM h (b + 1) F pi Fs (f 58) (f 39) kq N ∧ IB h (b + 97) (kp 0) (img im 0) ∧ IB h (b + 193) (kp 1) (img im 1) ∧ TB h (b + 289) T (Z 8) ∧ CB h (b + 291) ∧ RB h (b + 301) ∧ EB h (b + 313) ∧ HB h (b + 366) ∧
  (RLC F f ∧ PRl Fs f ∧ NRl N f) ∧ ∀ j, 0 ≤ j → j < Z 8 → T j = t j
def XR (h : AH) (b : Nat) (S : Nat → Int → Int) : Prop := XC h b (S 0) (S 1) (S 4) (S 5) (S 6) (S 7)
def QX (h : AH) (b : Nat) (S : Nat → Int → Int) : AH → Prop := fun h' => XR h' b S ∧ Fr h h' b 367
theorem PRl_cfx {Fs : Int → Nat → Int → Int} {f g : Int → Int} (h : PRl Fs f) (hm : ∀ i, 0 ≤ i → i < f 58 → inv (mixF f i)) (h58 : f 58 ≤ 8) (e : cfx f g) : PRl Fs g := PRl_ext h hm h58 (fun j a => e j (by omega))
theorem NRl_ext {N : Nat → Int → Int} {f g : Int → Int} (h : NRl N f) (h39 : f 39 ≤ 6) (e : ∀ j, 39 ≤ j → j < 58 → g j = f j) : NRl N g := by
  intro i a b
  rw [e 39 (by decide) (by decide)] at b
  rw [e _ (by omega) (by omega), e _ (by omega) (by omega), e _ (by omega) (by omega)]
  exact h i a b
theorem NRl_cfx {N : Nat → Int → Int} {f g : Int → Int} (h : NRl N f) (h39 : f 39 ≤ 6) (e : cfx f g) : NRl N g := NRl_ext h h39 (fun j a b => e j (by omega))
/-- the images hold a whole row -/
theorem IRl_ext {F : Nat → Int → Int} {Fs : Int → Nat → Int → Int} {m n : Int} {N : Nat → Int → Int} {f g : Int → Int} (h : IRl F Fs m n N f) (hV : invN f) (e : ∀ j, 0 ≤ j → j < 267 → g j = f j) : IRl F Fs m n N g := by
  obtain ⟨a, b, c, d, q⟩ := h
  have hI := hV.1
  have h58 : 0 ≤ f 58 ∧ f 58 ≤ 8 := ⟨(hI.rg 58 (by decide)).1, hV.2.2.2.1⟩
  exact ⟨RLC_ext a hI.n (fun j x y => e j x (by omega)), by rw [e 58 (by decide) (by decide)]; exact b, PRl_ext c (fun i x y => (hV.2.2.2.2.1 i x y).1) h58.2 (fun j x => e j (by omega) (by omega)), by rw [e 39 (by decide) (by decide)]; exact d, NRl_ext q hV.2.2.1 (fun j x y => e j (by omega) (by omega))⟩
