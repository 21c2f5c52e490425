theorem i3_le {x y : Int32} : x ≤ y ↔ x.toInt ≤ y.toInt := Int32.le_iff_toInt_le
theorem i3_lt {x y : Int32} : x < y ↔ x.toInt < y.toInt := Int32.lt_iff_toInt_lt
theorem i3_eq {x y : Int32} : x = y ↔ x.toInt = y.toInt := Int32.toInt_inj.symm
theorem i6_le {x y : Int64} : x ≤ y ↔ x.toInt ≤ y.toInt := Int64.le_iff_toInt_le
theorem i6_lt {x y : Int64} : x < y ↔ x.toInt < y.toInt := Int64.lt_iff_toInt_lt
theorem i6_eq {x y : Int64} : x = y ↔ x.toInt = y.toInt := Int64.toInt_inj.symm
theorem i3_bd (x : Int32) : -2147483648 ≤ x.toInt ∧ x.toInt ≤ 2147483647 := ⟨Int32.le_toInt x, by have := Int32.toInt_lt x; omega⟩
theorem i3_add {x y : Int32} (h : -2147483648 ≤ x.toInt + y.toInt) (h2 : x.toInt + y.toInt ≤ 2147483647) : (x + y).toInt = x.toInt + y.toInt := by
  rw [Int32.toInt_add, Int.bmod_eq_of_le (by omega) (by omega)]
theorem i3_sub {x y : Int32} (h : -2147483648 ≤ x.toInt - y.toInt) (h2 : x.toInt - y.toInt ≤ 2147483647) : (x - y).toInt = x.toInt - y.toInt := by
  rw [Int32.toInt_sub, Int.bmod_eq_of_le (by omega) (by omega)]
theorem i3_mul {x y : Int32} (h : -2147483648 ≤ x.toInt * y.toInt) (h2 : x.toInt * y.toInt ≤ 2147483647) : (x * y).toInt = x.toInt * y.toInt := by
  rw [Int32.toInt_mul, Int.bmod_eq_of_le (by omega) (by omega)]
theorem i6_add {x y : Int64} (h : -9223372036854775808 ≤ x.toInt + y.toInt) (h2 : x.toInt + y.toInt ≤ 9223372036854775807) : (x + y).toInt = x.toInt + y.toInt := by
  rw [Int64.toInt_add, Int.bmod_eq_of_le (by omega) (by omega)]
theorem i6_sub {x y : Int64} (h : -9223372036854775808 ≤ x.toInt - y.toInt) (h2 : x.toInt - y.toInt ≤ 9223372036854775807) : (x - y).toInt = x.toInt - y.toInt := by
  rw [Int64.toInt_sub, Int.bmod_eq_of_le (by omega) (by omega)]
theorem i6_mul {x y : Int64} (h : -9223372036854775808 ≤ x.toInt * y.toInt) (h2 : x.toInt * y.toInt ≤ 9223372036854775807) : (x * y).toInt = x.toInt * y.toInt := by
  rw [Int64.toInt_mul, Int.bmod_eq_of_le (by omega) (by omega)]
theorem i3_N : (2147483647 : Int32).toInt = 2147483647 := by decide
theorem i6_N : (9223372036854775807 : Int64).toInt = 9223372036854775807 := by decide
/-- a leg: of a line's run, entered before it is left -/
def qLg (nl : Nat) (n : Nat → Nat) (R : Nat → Nat → Prop) (P : Nat → Nat → Nat) (A B : Nat → Nat → Nat → Int) (q p : Nat) (b a : Int) : Prop := ∃ i r e l, i < nl ∧ r < 13 ∧ R i r ∧ e < l ∧ l < n i ∧ P i e = q ∧ P i l = p ∧ B i r e = b ∧ A i r l = a ∧ b ≤ a
theorem q_ce {w c l : Int32} {lb : Nat} (hw : w = 2147483647 ∨ w.toInt ≤ 2000000000) (hc : 0 ≤ c.toInt ∧ c.toInt ≤ 100000) : nt_ce w lb c l = true ↔ w.toInt < 2147483647 ∧ (lb = 0 ∧ w.toInt ≤ l.toInt ∨ lb ≠ 0 ∧ w.toInt + c.toInt ≤ l.toInt) := by
  unfold nt_ce
  have hb := i3_bd w
  rcases hw with rfl | hw
  · rw [if_pos rfl, i3_N]; constructor
    · intro h; cases h
    · intro h; omega
  · rw [if_neg (fun h => by rw [h, i3_N] at hw; omega), decide_eq_true_iff]
    by_cases h0 : lb = 0
    · rw [if_pos h0, i3_le]; constructor
      · intro h; exact ⟨by omega, Or.inl ⟨h0, h⟩⟩
      · rintro ⟨_, ⟨_, h⟩ | ⟨h, _⟩⟩
        · exact h
        · exact absurd h0 h
    · rw [if_neg h0, i3_le, i3_add (by omega) (by omega)]; constructor
      · intro h; exact ⟨by omega, Or.inr ⟨h0, h⟩⟩
      · rintro ⟨_, ⟨h, _⟩ | ⟨_, h⟩⟩
        · exact absurd h h0
        · exact h
/-- the round's state, of which the start was s0: what was reached anew was reached by a leg -/
def qJ (Lg : Nat → Nat → Int → Int → Prop) (Us : Nat → Int → Prop) (s0 so wl : Nat → Int32) : Prop := ∀ p, p < 100 → (so p = s0 p ∧ wl p = 2147483647) ∨ ((so p).toInt < (s0 p).toInt ∧ wl p = so p ∧ ∃ q b, Lg q p b (so p).toInt ∧ Us q b)
theorem q_rd1 {Lg : Nat → Nat → Int → Int → Prop} {Us : Nat → Int → Prop} {f1 A B : Nat → Int32} {to lb n : Nat} {w C s0 so wl : Nat → Int32} (hto : to < 100) (hf : ∀ k, k < n → ∃ p, p < 100 ∧ f1 k = nI p) (hUs : ∀ k, k < n → (nt_ce (w (f1 k).toNatClampNeg) lb (C (f1 k).toNatClampNeg) (B k) = true ↔ Us (f1 k).toNatClampNeg (B k).toInt)) (hB : ∀ k, k < n → (B k).toInt < 2147483647 ∧ (A k).toInt < 2147483647) (hLg : ∀ e l, e < l → l < n → (B e).toInt ≤ (A l).toInt → Lg (f1 e).toNatClampNeg (f1 l).toNatClampNeg (B e).toInt (A l).toInt) (hJ : qJ Lg Us s0 so wl) : ∀ k, k ≤ n → ∀ so' wl' e' fe', rd_k f1 A B to lb w C (so, wl, 0, 2147483647) k = (so', wl', e', fe') →
    qJ Lg Us s0 so' wl' ∧ (∀ p, p < 100 → (so' p).toInt ≤ (so p).toInt) ∧ (∀ e l, e < l → l < k → (B e).toInt ≤ (A l).toInt → Us (f1 e).toNatClampNeg (B e).toInt → (so' (f1 l).toNatClampNeg).toInt ≤ (A l).toInt ∨ (so' to).toInt ≤ (A l).toInt) ∧ (∀ e, e < k → Us (f1 e).toNatClampNeg (B e).toInt → fe'.toInt ≤ (B e).toInt) ∧ (fe' = 2147483647 ∨ ∃ e, e < k ∧ Us (f1 e).toNatClampNeg (B e).toInt ∧ fe' = B e) ∧ (e' = 0 → so' = so ∧ wl' = wl)
  | 0, _, so', wl', e', fe', he => by
    cases he
    exact ⟨hJ, fun p _ => by omega, fun e l _ h => by omega, fun e h => by omega, Or.inl rfl, fun _ => ⟨rfl, rfl⟩⟩
  | k + 1, hk, so', wl', e', fe', he => by
    rcases hk0 : rd_k f1 A B to lb w C (so, wl, 0, 2147483647) k with ⟨so2, wl2, e2, fe2⟩
    obtain ⟨h1, h2, h3, h4, h5, h6⟩ := q_rd1 hto hf hUs hB hLg hJ k (by omega) so2 wl2 e2 fe2 hk0
    obtain ⟨p, hp, hfp⟩ := hf k (by omega)
    have hc : (f1 k).toNatClampNeg = p := by rw [hfp]; exact ni_cl (by omega)
    have hu := hUs k (by omega)
    have hb := hB k (by omega)
    unfold rd_k at he
    rw [hk0] at he
    unfold rd_1 at he
    simp only at he
    have hfe : ∀ fe', rd_e (f1 k).toNatClampNeg (B k) lb w C fe2 = fe' → (∀ e, e < k + 1 → Us (f1 e).toNatClampNeg (B e).toInt → fe'.toInt ≤ (B e).toInt) ∧ (fe' = 2147483647 ∨ ∃ e, e < k + 1 ∧ Us (f1 e).toNatClampNeg (B e).toInt ∧ fe' = B e) := by
      rintro fe' rfl
      unfold rd_e
      by_cases hq : B k < fe2 ∧ nt_ce (w (f1 k).toNatClampNeg) lb (C (f1 k).toNatClampNeg) (B k) = true
      · rw [if_pos hq]
        have hlt := i3_lt.mp hq.1
        refine ⟨fun e hek hue => ?_, Or.inr ⟨k, by omega, hu.mp hq.2, rfl⟩⟩
        by_cases hekk : e = k
        · subst hekk; omega
        · have := h4 e (by omega) hue; omega
      · rw [if_neg hq]
        refine ⟨fun e hek hue => ?_, ?_⟩
        · by_cases hekk : e = k
          · subst hekk
            refine Int.not_lt.mp fun hx => hq ⟨i3_lt.mpr hx, hu.mpr hue⟩
          · exact h4 e (by omega) hue
        · rcases h5 with h | ⟨e, hek, hue, h⟩
          · exact Or.inl h
          · exact Or.inr ⟨e, by omega, hue, h⟩
    by_cases hq : fe2 ≤ A k ∧ A k < so2 (f1 k).toNatClampNeg ∧ A k < so2 to
    · rw [if_pos hq] at he
      simp only [Prod.mk.injEq] at he
      obtain ⟨rfl, rfl, rfl, he4⟩ := he
      obtain ⟨hq1, hq2, hq3⟩ := hq
      rw [i3_le] at hq1
      rw [i3_lt] at hq2 hq3
      have hmono : ∀ x, x < 100 → (upd so2 (f1 k).toNatClampNeg (A k) x).toInt ≤ (so2 x).toInt := fun x hx => by
        by_cases hxp : x = (f1 k).toNatClampNeg
        · subst hxp; rw [pk_us]; omega
        · rw [pk_un hxp]; omega
      refine ⟨fun x hx => ?_, fun x hx => ?_, fun e l hel hl hba hue => ?_, (hfe _ he4).1, (hfe _ he4).2, fun h => absurd h (by decide)⟩
      · by_cases hxp : x = (f1 k).toNatClampNeg
        · subst hxp
          rw [pk_us, pk_us]
          refine Or.inr ⟨?_, rfl, ?_⟩
          · rcases h1 _ hx with ⟨h, _⟩ | ⟨h, _⟩
            · rw [← h]; exact hq2
            · omega
          · rcases h5 with h | ⟨e, hek, hue, h⟩
            · rw [h, i3_N] at hq1; omega
            · rw [h] at hq1
              exact ⟨_, _, hLg e k hek (by omega) hq1, hue⟩
        · rw [pk_un hxp, pk_un hxp]
          exact h1 x hx
      · have := hmono x hx
        have := h2 x hx
        omega
      · by_cases hlk : l = k
        · subst hlk
          left; rw [pk_us]; omega
        · obtain ⟨p2, hp2, hfp2⟩ := hf l (by omega)
          have hc2 : (f1 l).toNatClampNeg = p2 := by rw [hfp2]; exact ni_cl (by omega)
          have m1 := hmono (f1 l).toNatClampNeg (by omega)
          have m2 := hmono to hto
          rcases h3 e l hel (by omega) hba hue with h | h
          · left; omega
          · right; omega
    · rw [if_neg hq] at he
      simp only [Prod.mk.injEq] at he
      obtain ⟨rfl, rfl, rfl, he4⟩ := he
      refine ⟨h1, h2, fun e l hel hl hba hue => ?_, (hfe _ he4).1, (hfe _ he4).2, h6⟩
      by_cases hlk : l = k
      · subst hlk
        have hfl := h4 e hel hue
        refine Classical.byContradiction fun hx => hq ⟨i3_le.mpr (by omega), i3_lt.mpr ?_, i3_lt.mpr ?_⟩
        · exact Int.not_le.mp fun h => hx (Or.inl h)
        · exact Int.not_le.mp fun h => hx (Or.inr h)
      · exact h3 e l hel (by omega) hba hue
/-- the class's legs -/
def qL (L : Nat → lr_T) (nl : Nat) (fd : Int32) (Z : Nat → List (Int32 × Int32)) : Nat → Nat → Int → Int → Prop := qLg nl (fun i => lr_n (L i)) (fun i r => lr_run (L i) fd r = 1) (fun i k => (lr_f1 (L i) k).toNatClampNeg) (fun i r k => (lr_A (L i) fd Z r k).toInt) (fun i r k => (lr_B (L i) fd Z r k).toInt)
/-- the class's lines are as the search wants them -/
def qX (L : Nat → lr_T) (nl : Nat) (fd : Int32) (Z : Nat → List (Int32 × Int32)) : Prop := ∀ i, i < nl → (∀ k, k < lr_n (L i) → ∃ p, p < 100 ∧ lr_f1 (L i) k = nI p) ∧ ∀ r, r < 13 → lr_run (L i) fd r = 1 → ∀ k, k < lr_n (L i) → (lr_B (L i) fd Z r k).toInt ≤ 2000000000 ∧ (lr_A (L i) fd Z r k).toInt ≤ 2000000000
section
variable {L : Nat → lr_T} {nl : Nat} {fd : Int32} {Z : Nat → List (Int32 × Int32)} {to lb : Nat} {w C s0 : Nat → Int32}
theorem q_spr (hto : to < 100) (hX : qX L nl fd Z) (hw : ∀ p, p < 100 → w p = 2147483647 ∨ (w p).toInt ≤ 2000000000) (hC : ∀ p, p < 100 → 0 ≤ (C p).toInt ∧ (C p).toInt ≤ 100000) {i r : Nat} (hi : i < nl) (hr : r < 13) {so wl : Nat → Int32} {f : Int32} (hJ : qJ (qL L nl fd Z) (qUs (fun p => (C p).toInt) lb (fun p => (w p).toInt)) s0 so wl) {so' wl' : Nat → Int32} {f' : Int32} (he : sp_r (L i) fd Z to lb w C r (so, wl, f) = (so', wl', f')) : qJ (qL L nl fd Z) (qUs (fun p => (C p).toInt) lb (fun p => (w p).toInt)) s0 so' wl' ∧ (∀ p, p < 100 → (so' p).toInt ≤ (so p).toInt) ∧ (lr_run (L i) fd r = 1 → ∀ e l, e < l → l < lr_n (L i) → (lr_B (L i) fd Z r e).toInt ≤ (lr_A (L i) fd Z r l).toInt → qUs (fun p => (C p).toInt) lb (fun p => (w p).toInt) (lr_f1 (L i) e).toNatClampNeg (lr_B (L i) fd Z r e).toInt → (so' (lr_f1 (L i) l).toNatClampNeg).toInt ≤ (lr_A (L i) fd Z r l).toInt ∨ (so' to).toInt ≤ (lr_A (L i) fd Z r l).toInt) ∧ (f' = 0 → f = 0 ∧ so' = so ∧ wl' = wl) := by
  unfold sp_r at he
  simp only at he
  by_cases hq : lr_run (L i) fd r = 1
  · rw [if_pos hq] at he
    obtain ⟨hf, hB⟩ := hX i hi
    have hB := hB r hr hq
    rcases hk : rd_k (lr_f1 (L i)) (lr_A (L i) fd Z r) (lr_B (L i) fd Z r) to lb w C (so, wl, 0, 2147483647) (lr_n (L i)) with ⟨so2, wl2, e2, fe2⟩
    rw [hk] at he
    simp only [Prod.mk.injEq] at he
    obtain ⟨rfl, rfl, he3⟩ := he
    have := q_rd1 (Lg := qL L nl fd Z) (Us := qUs (fun p => (C p).toInt) lb (fun p => (w p).toInt)) hto hf (fun k hk => by
      obtain ⟨p, hp, hfp⟩ := hf k hk
      have hc : (lr_f1 (L i) k).toNatClampNeg = p := by rw [hfp]; exact ni_cl (by omega)
      exact q_ce (hw _ (by omega)) (hC _ (by omega))) (fun k hk => by have := hB k hk; omega) (fun e l hel hl hba => ⟨i, r, e, l, hi, hr, hq, hel, hl, rfl, rfl, rfl, rfl, hba⟩) hJ (lr_n (L i)) (Nat.le_refl _) so2 wl2 e2 fe2 hk
    obtain ⟨h1, h2, h3, h4, h5, h6⟩ := this
    refine ⟨h1, h2, fun _ => h3, fun hf0 => ?_⟩
    by_cases he2 : e2 = 0
    · rw [if_pos he2] at he3
      obtain ⟨rfl, rfl⟩ := h6 he2
      exact ⟨by rw [he3]; exact hf0, rfl, rfl⟩
    · rw [if_neg he2] at he3
      rw [← he3] at hf0
      exact absurd hf0 (by decide)
  · rw [if_neg hq] at he
    simp only [Prod.mk.injEq] at he
    obtain ⟨rfl, rfl, rfl⟩ := he
    exact ⟨hJ, fun p _ => by omega, fun h => absurd h hq, fun h => ⟨h, rfl, rfl⟩⟩
/-- the legs of the runs before row r of line i and of the lines before it were taken -/
def qD (L : Nat → lr_T) (fd : Int32) (Z : Nat → List (Int32 × Int32)) (to : Nat) (Us : Nat → Int → Prop) (so : Nat → Int32) (i r : Nat) : Prop := ∀ i' r', (i' < i ∨ (i' = i ∧ r' < r)) → r' < 13 → lr_run (L i') fd r' = 1 → ∀ e l, e < l → l < lr_n (L i') → (lr_B (L i') fd Z r' e).toInt ≤ (lr_A (L i') fd Z r' l).toInt → Us (lr_f1 (L i') e).toNatClampNeg (lr_B (L i') fd Z r' e).toInt → (so (lr_f1 (L i') l).toNatClampNeg).toInt ≤ (lr_A (L i') fd Z r' l).toInt ∨ (so to).toInt ≤ (lr_A (L i') fd Z r' l).toInt
theorem q_spl (hto : to < 100) (hX : qX L nl fd Z) (hw : ∀ p, p < 100 → w p = 2147483647 ∨ (w p).toInt ≤ 2000000000) (hC : ∀ p, p < 100 → 0 ≤ (C p).toInt ∧ (C p).toInt ≤ 100000) {i : Nat} (hi : i < nl) {so wl : Nat → Int32} {f : Int32} (hJ : qJ (qL L nl fd Z) (qUs (fun p => (C p).toInt) lb (fun p => (w p).toInt)) s0 so wl) (hD : qD L fd Z to (qUs (fun p => (C p).toInt) lb (fun p => (w p).toInt)) so i 0) : ∀ r, r ≤ 13 → ∀ {so' wl' : Nat → Int32} {f' : Int32}, sp_l (L i) fd Z to lb w C (so, wl, f) r = (so', wl', f') → qJ (qL L nl fd Z) (qUs (fun p => (C p).toInt) lb (fun p => (w p).toInt)) s0 so' wl' ∧ qD L fd Z to (qUs (fun p => (C p).toInt) lb (fun p => (w p).toInt)) so' i r ∧ (f' = 0 → f = 0 ∧ so' = so ∧ wl' = wl)
  | 0, _, so', wl', f', he => by
    cases he
    exact ⟨hJ, hD, fun h => ⟨h, rfl, rfl⟩⟩
  | r + 1, hr, so', wl', f', he => by
    rcases hk : sp_l (L i) fd Z to lb w C (so, wl, f) r with ⟨so2, wl2, f2⟩
    obtain ⟨g1, g2, g3⟩ := q_spl hto hX hw hC hi hJ hD r (by omega) hk
    unfold sp_l at he
    rw [hk] at he
    obtain ⟨h1, h2, h3, h4⟩ := q_spr hto hX hw hC hi (by omega) g1 he
    refine ⟨h1, fun i' r' hir hr' hrun e l hel hl hba hue => ?_, fun h => ?_⟩
    · by_cases hc : i' = i ∧ r' = r
      · obtain ⟨rfl, rfl⟩ := hc
        exact h3 hrun e l hel hl hba hue
      · have hi' : i' < nl := by omega
        obtain ⟨p2, hp2, hfp2⟩ := (hX i' hi').1 l hl
        have hc2 : (lr_f1 (L i') l).toNatClampNeg = p2 := by rw [hfp2]; exact ni_cl (by omega)
        have m1 := h2 (lr_f1 (L i') l).toNatClampNeg (by omega)
        have m2 := h2 to hto
        rcases g2 i' r' (by omega) hr' hrun e l hel hl hba hue with h | h
        · left; omega
        · right; omega
    · obtain ⟨h5, h6, h7⟩ := h4 h
      obtain ⟨h8, h9, h10⟩ := g3 h5
      exact ⟨h8, h6.trans h9, h7.trans h10⟩
theorem q_spn (hto : to < 100) (hX : qX L nl fd Z) (hw : ∀ p, p < 100 → w p = 2147483647 ∨ (w p).toInt ≤ 2000000000) (hC : ∀ p, p < 100 → 0 ≤ (C p).toInt ∧ (C p).toInt ≤ 100000) {w0 : Nat → Int32} (hw0 : ∀ p, p < 100 → w0 p = 2147483647) : ∀ i, i ≤ nl → ∀ {so' wl' : Nat → Int32} {f' : Int32}, sp_n L fd Z to lb w C (s0, w0, 0) i = (so', wl', f') → qJ (qL L nl fd Z) (qUs (fun p => (C p).toInt) lb (fun p => (w p).toInt)) s0 so' wl' ∧ qD L fd Z to (qUs (fun p => (C p).toInt) lb (fun p => (w p).toInt)) so' i 0 ∧ (f' = 0 → so' = s0 ∧ wl' = w0)
  | 0, _, so', wl', f', he => by
    cases he
    exact ⟨fun p hp => Or.inl ⟨rfl, hw0 p hp⟩, fun i' r' h => by omega, fun _ => ⟨rfl, rfl⟩⟩
  | i + 1, hi, so', wl', f', he => by
    rcases hk : sp_n L fd Z to lb w C (s0, w0, 0) i with ⟨so2, wl2, f2⟩
    obtain ⟨g1, g2, g3⟩ := q_spn hto hX hw hC hw0 i (by omega) hk
    unfold sp_n at he
    rw [hk] at he
    obtain ⟨h1, h2, h3⟩ := q_spl hto hX hw hC (show i < nl by omega) g1 g2 13 (Nat.le_refl _) he
    refine ⟨h1, fun i' r' hir hr' => h2 i' r' (by omega) hr', fun h => ?_⟩
    obtain ⟨h4, h5, h6⟩ := h3 h
    obtain ⟨h7, h8⟩ := g3 h4
    exact ⟨h5.trans h7, h6.trans h8⟩
end
/-- the class's rounds are the search's: K rounds made, and as many more as one likes when the last one spread nothing -/
theorem q_fb {L : Nat → lr_T} {nl : Nat} {fd : Int32} {Z : Nat → List (Int32 × Int32)} {C : Nat → Int32} {from' to : Nat} {t : Int32} {K : Nat} {so W : Nat → Nat → Int32} {fl : Nat → Int32} (hto : to < 100) (ht : t.toInt ≤ 2000000000) (hX : qX L nl fd Z) (hC : ∀ p, p < 100 → 0 ≤ (C p).toInt ∧ (C p).toInt ≤ 100000) (hR : fb_R L nl fd Z C from' to t K so W fl) (hK : K = 6 ∨ fl K = 0) (hK6 : K ≤ 6) : ∃ S' W' : Nat → Nat → Int, qS (qL L nl fd Z) (fun p => (C p).toInt) from' to t.toInt 6 S' W' ∧ (∀ n p, n ≤ K → S' n p = (so n p).toInt ∧ W' n p = (W n p).toInt) ∧ ∀ n p, K < n → W' n p = 2147483647 := by
  obtain ⟨h1, h2, h3, h4⟩ := hR
  have hJn : ∀ k, k < K → (∀ p, p < 100 → W k p = 2147483647 ∨ (W k p).toInt ≤ 2000000000) → qJ (qL L nl fd Z) (qUs (fun p => (C p).toInt) k (fun p => (W k p).toInt)) (so k) (so (k + 1)) (W (k + 1)) ∧ qD L fd Z to (qUs (fun p => (C p).toInt) k (fun p => (W k p).toInt)) (so (k + 1)) nl 0 ∧ (fl (k + 1) = 0 → so (k + 1) = so k ∧ ∀ p, p < 100 → W (k + 1) p = 2147483647) := fun k hk hw => by
    obtain ⟨-, w0, hw0, he⟩ := h4 k hk
    obtain ⟨g1, g2, g3⟩ := q_spn hto hX hw hC hw0 nl (Nat.le_refl _) he.symm
    exact ⟨g1, g2, fun h => ⟨(g3 h).1, fun p hp => by rw [(g3 h).2]; exact hw0 p hp⟩⟩
  have hWb : ∀ k, k ≤ K → ∀ p, p < 100 → W k p = 2147483647 ∨ (W k p).toInt ≤ 2000000000 := by
    intro k
    induction k with
    | zero =>
      intro _ p hp
      rw [h2 p hp]
      split
      · exact Or.inr ht
      · exact Or.inl rfl
    | succ k ih =>
      intro hk p hp
      rcases (hJn k (by omega) (ih (by omega))).1 p hp with ⟨_, h⟩ | ⟨_, h, q, b, ⟨i, r, e, l, hi, hr, hrun, _, hl, _, _, _, ha, _⟩, _⟩
      · exact Or.inl h
      · right
        rw [h, ← ha]
        exact ((hX i hi).2 r hr hrun l hl).2
  have hJ := fun k hk => hJn k hk (hWb k (by omega))
  have hcl : ∀ i, i < nl → ∀ k, k < lr_n (L i) → (lr_f1 (L i) k).toNatClampNeg < 100 := fun i hi k hk => by
    obtain ⟨p2, hp2, hfp2⟩ := (hX i hi).1 k hk
    rw [hfp2, ni_cl (by omega)]; exact hp2
  obtain ⟨S', hS'⟩ : ∃ S' : Nat → Nat → Int, ∀ n p, S' n p = if n ≤ K then (so n p).toInt else (so K p).toInt := ⟨_, fun _ _ => rfl⟩
  obtain ⟨W', hW'⟩ : ∃ W' : Nat → Nat → Int, ∀ n p, W' n p = if n ≤ K then (W n p).toInt else 2147483647 := ⟨_, fun _ _ => rfl⟩
  refine ⟨S', W', ⟨fun p hp => ?_, fun p hp => ?_, fun n hn => ?_⟩, fun n p hn => ⟨(hS' n p).trans (if_pos hn), (hW' n p).trans (if_pos hn)⟩, fun n p hn => (hW' n p).trans (if_neg (by omega))⟩
  · rw [hS', if_pos (Nat.zero_le _), h1 p hp]; split
    · rfl
    · rfl
  · rw [hW', if_pos (Nat.zero_le _), h2 p hp]; split
    · rfl
    · rfl
  · by_cases hnK : n < K
    · obtain ⟨j1, j2, j3⟩ := hJ n hnK
      have hus : ∀ q b, qUs (fun p => (C p).toInt) n (W' n) q b ↔ qUs (fun p => (C p).toInt) n (fun p => (W n p).toInt) q b := fun q b => by
        unfold qUs
        rw [hW', if_pos (show n ≤ K by omega)]
      refine ⟨fun q p b a hlg hu => ?_, fun p hp => ?_⟩
      · obtain ⟨i, r, e, l, hi, hr, hrun, hel, hl, rfl, rfl, rfl, rfl, hba⟩ := hlg
        rw [hS', hS', if_pos (show n + 1 ≤ K by omega), if_pos (show n + 1 ≤ K by omega)]
        exact j2 i r (Or.inl hi) hr hrun e l hel hl hba ((hus _ _).mp hu)
      · rw [hS', hS', hW', if_pos (show n + 1 ≤ K by omega), if_pos (show n ≤ K by omega), if_pos (show n + 1 ≤ K by omega)]
        rcases j1 p hp with ⟨x1, x2⟩ | ⟨x1, x2, q, b, x3, x4⟩
        · left; rw [x1, x2]; exact ⟨rfl, i3_N⟩
        · exact Or.inr ⟨x1, by rw [x2], q, b, x3, (hus _ _).mpr x4⟩
    · have hfl : fl K = 0 := by
        rcases hK with h | h
        · omega
        · exact h
      have hK0 : 0 < K := by
        refine Nat.pos_of_ne_zero fun h => ?_
        rw [h, h3] at hfl
        exact absurd hfl (by decide)
      have hWK : ∀ p, p < 100 → W' n p = 2147483647 := fun p hp => by
        rw [hW']
        by_cases hx : n ≤ K
        · obtain rfl : n = K := by omega
          obtain ⟨m, rfl⟩ : ∃ m, n = m + 1 := ⟨n - 1, by omega⟩
          rw [if_pos hx, ((hJ m (by omega)).2.2 hfl).2 p hp]
          exact i3_N
        · exact if_neg hx
      refine ⟨fun q p b a hlg hu => ?_, fun p hp => Or.inl ⟨?_, ?_⟩⟩
      · obtain ⟨i, r, e, l, hi, hr, hrun, hel, hl, rfl, rfl, rfl, rfl, hba⟩ := hlg
        have := hu.1
        rw [hWK _ (hcl i hi e (Nat.lt_trans hel hl))] at this
        omega
      · rw [hS', hS', if_neg (show ¬ n + 1 ≤ K by omega)]
        by_cases hx : n ≤ K
        · obtain rfl : n = K := by omega
          rw [if_pos hx]
        · rw [if_neg hx]
      · rw [hW']; exact if_neg (by omega)
