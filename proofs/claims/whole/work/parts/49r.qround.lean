/-! the reference's rounds are the search's -/
def mpl (Ai : Nat → Nat → Int32) (l k : Nat) : Nat := (Ai 4 (12 * l + k)).toNatClampNeg
/-- a piece of a round: from X to Y; D the legs it takes, as (place left, arrival) -/
def qP (lb : Nat) (D : Nat → Int → Prop) (X Y : Nat → Int64) : Prop := (∀ k, (k < 100 * (lb + 1) ∨ 100 * (lb + 1) + 100 ≤ k) → Y k = X k) ∧ (∀ p, p < 100 → (Y (100 * (lb + 1) + p)).toInt ≤ (X (100 * (lb + 1) + p)).toInt) ∧ (∀ p a, p < 100 → D p a → (Y (100 * (lb + 1) + p)).toInt ≤ a) ∧ ∀ p, p < 100 → Y (100 * (lb + 1) + p) = X (100 * (lb + 1) + p) ∨ D p (Y (100 * (lb + 1) + p)).toInt
theorem qP_rf {lb : Nat} {D : Nat → Int → Prop} {X : Nat → Int64} (h : ∀ p a, ¬ D p a) : qP lb D X X := ⟨fun _ _ => rfl, fun _ _ => Int.le_refl _, fun p a _ q => absurd q (h p a), fun _ _ => Or.inl rfl⟩
theorem qP_tr {lb : Nat} {D D' D2 : Nat → Int → Prop} {X Y V : Nat → Int64} (h1 : qP lb D X Y) (h2 : qP lb D' Y V) (hD : ∀ p a, D2 p a ↔ D p a ∨ D' p a) : qP lb D2 X V := by
  obtain ⟨a1, a2, a3, a4⟩ := h1
  obtain ⟨b1, b2, b3, b4⟩ := h2
  refine ⟨fun k hk => (b1 k hk).trans (a1 k hk), fun p hp => ?_, fun p a hp hd => ?_, fun p hp => ?_⟩
  · have := a2 p hp; have := b2 p hp; omega
  · rcases (hD p a).mp hd with h | h
    · have := a3 p a hp h; have := b2 p hp; omega
    · exact b3 p a hp h
  · rcases b4 p hp with h | h
    · rcases a4 p hp with h' | h'
      · exact Or.inl (h.trans h')
      · right; rw [h]; exact (hD _ _).mpr (Or.inl h')
    · exact Or.inr ((hD _ _).mpr (Or.inr h))
theorem qP_iff {lb : Nat} {D D2 : Nat → Int → Prop} {X V : Nat → Int64} (h1 : qP lb D X V) (hD : ∀ p a, D2 p a ↔ D p a) : qP lb D2 X V := by
  obtain rfl : D2 = D := funext fun p => funext fun a => propext (hD p a)
  exact h1
section
variable {Ai : Nat → Nat → Int32} {Aj : Nat → Nat → Int64} {ne nz nw : Nat} {cn : Nat → Nat} {lb from' T : Nat}
theorem q_mj {l i : Nat} {fi fo : Nat → Int64} {cnt : Nat} (hp : ∀ k, k < cnt → mpl Ai l k < 100) : ∀ (m j : Nat) (X : Nat → Int64), j + m ≤ cnt → qP lb (fun p a => ∃ k, j ≤ k ∧ k < j + m ∧ mpl Ai l k = p ∧ (fi k).toInt = a ∧ (fo i).toInt ≤ (fi k).toInt) X (me_j Ai lb l i fi fo j m X)
  | 0, j, X, _ => qP_rf (fun p a ⟨k, h1, h2, _⟩ => by omega)
  | m + 1, j, X, hj => by
    unfold me_j
    refine qP_tr (D := fun p a => mpl Ai l j = p ∧ (fi j).toInt = a ∧ (fo i).toInt ≤ (fi j).toInt) ?_ (q_mj hp m (j + 1) _ (by omega)) (fun p a => ?_)
    · have hpj := hp j (by omega)
      have ha : me_a Ai lb l j = 100 * (lb + 1) + mpl Ai l j := rfl
      rw [ha]
      by_cases hq : fo i ≤ fi j ∧ fi j < X (100 * (lb + 1) + mpl Ai l j)
      · rw [if_pos hq]
        have q1 := i6_le.mp hq.1
        have q2 := i6_lt.mp hq.2
        refine ⟨fun k hk => pk_uLn (by omega), fun p hp => ?_, fun p a hp ⟨h1, h2, h3⟩ => ?_, fun p hp => ?_⟩
        · by_cases hpe : p = mpl Ai l j
          · rw [hpe, pk_uLs]; omega
          · rw [pk_uLn (by omega)]; omega
        · rw [← h1, pk_uLs]; omega
        · by_cases hpe : p = mpl Ai l j
          · right; rw [hpe, pk_uLs]; exact ⟨rfl, rfl, q1⟩
          · left; rw [pk_uLn (by omega)]
      · rw [if_neg hq]
        refine ⟨fun _ _ => rfl, fun _ _ => Int.le_refl _, fun p a hp ⟨h1, h2, h3⟩ => ?_, fun _ _ => Or.inl rfl⟩
        subst h1
        refine Int.not_lt.mp fun hx => hq ⟨i6_le.mpr h3, i6_lt.mpr (by omega)⟩
    · constructor
      · rintro ⟨k, h1, h2, h3⟩
        by_cases hk : k = j
        · subst hk; exact Or.inl h3
        · exact Or.inr ⟨k, by omega, by omega, h3⟩
      · rintro (h | ⟨k, h1, h2, h3⟩)
        · exact ⟨j, by omega, by omega, h⟩
        · exact ⟨k, by omega, by omega, h3⟩
/-- the row below is not touched -/
theorem qP_low {D : Nat → Int → Prop} {X Y : Nat → Int64} (h : qP lb D X Y) {p : Nat} (hp : p < 100) : Y (100 * lb + p) = X (100 * lb + p) := h.1 _ (by omega)
theorem mqe_low {C : Nat → Int32} {X Y : Nat → Int64} {p : Nat} {t : Int64} (h : Y (100 * lb + p) = X (100 * lb + p)) : mqe C Y lb p from' t = mqe C X lb p from' t := by unfold mqe; rw [h]
theorem q_mi {l : Nat} {fi fo : Nat → Int64} {cnt : Nat} {X0 : Nat → Int64} (hp : ∀ k, k < cnt → mpl Ai l k < 100) : ∀ (m i : Nat) (X : Nat → Int64), i + m = cnt → (∀ p, p < 100 → X (100 * lb + p) = X0 (100 * lb + p)) → qP lb (fun p a => ∃ e k, i ≤ e ∧ e < k ∧ k < cnt ∧ mpl Ai l k = p ∧ (fi k).toInt = a ∧ (fo e).toInt ≤ (fi k).toInt ∧ mqe (Ai 20) X0 lb (mpl Ai l e) from' (lN T) ≤ fo e) X (me_i Ai lb from' T l cnt fi fo i m X)
  | 0, i, X, hi, _ => qP_rf (fun p a ⟨e, k, h1, h2, h3, _⟩ => by omega)
  | m + 1, i, X, hi, hX => by
    unfold me_i
    have hA : qP lb (fun p a => ∃ k, i < k ∧ k < cnt ∧ mpl Ai l k = p ∧ (fi k).toInt = a ∧ (fo i).toInt ≤ (fi k).toInt ∧ mqe (Ai 20) X0 lb (mpl Ai l i) from' (lN T) ≤ fo i) X (if mqe (Ai 20) X lb (Ai 4 (12 * l + i)).toNatClampNeg from' (lN T) ≤ fo i then me_j Ai lb l i fi fo (i + 1) (cnt - (i + 1)) X else X) := by
      rw [show mqe (Ai 20) X lb (Ai 4 (12 * l + i)).toNatClampNeg from' (lN T) = mqe (Ai 20) X0 lb (mpl Ai l i) from' (lN T) from mqe_low (hX _ (hp i (by omega)))]
      by_cases hq : mqe (Ai 20) X0 lb (mpl Ai l i) from' (lN T) ≤ fo i
      · rw [if_pos hq]
        refine qP_iff (q_mj hp (cnt - (i + 1)) (i + 1) X (by omega)) (fun p a => ?_)
        constructor
        · rintro ⟨k, h1, h2, h3, h4, h5, _⟩; exact ⟨k, by omega, by omega, h3, h4, h5⟩
        · rintro ⟨k, h1, h2, h3, h4, h5⟩; exact ⟨k, by omega, by omega, h3, h4, h5, hq⟩
      · rw [if_neg hq]
        exact qP_rf (fun p a ⟨k, _, _, _, _, _, h⟩ => hq h)
    refine qP_tr hA (q_mi hp m (i + 1) _ (by omega) (fun p hp => (qP_low hA hp).trans (hX p hp))) (fun p a => ?_)
    constructor
    · rintro ⟨e, k, h1, h2⟩
      by_cases he : e = i
      · subst he; exact Or.inl ⟨k, h2⟩
      · exact Or.inr ⟨e, k, by omega, h2⟩
    · rintro (⟨k, h2⟩ | ⟨e, k, h1, h2⟩)
      · exact ⟨i, k, by omega, h2⟩
      · exact ⟨e, k, by omega, h2⟩
def mA (Ai : Nat → Nat → Int32) (Aj : Nat → Nat → Int64) (nz nw T l r k : Nat) : Int64 := mt_t Ai Aj nz nw l (dy T r) k false
def mB (Ai : Nat → Nat → Int32) (Aj : Nat → Nat → Int64) (nz nw T l r k : Nat) : Int64 := mt_t Ai Aj nz nw l (dy T r) k true
theorem q_md {l : Nat} {X0 : Nat → Int64} (hp : ∀ k, k < cn l → mpl Ai l k < 100) {X : Nat → Int64} (hX : ∀ p, p < 100 → X (100 * lb + p) = X0 (100 * lb + p)) : ∀ r, qP lb (fun p a => ∃ r' e k, r' < r ∧ mr_run Ai Aj ne l (dy T r') = 1 ∧ e < k ∧ k < cn l ∧ mpl Ai l k = p ∧ (mA Ai Aj nz nw T l r' k).toInt = a ∧ (mB Ai Aj nz nw T l r' e).toInt ≤ (mA Ai Aj nz nw T l r' k).toInt ∧ mqe (Ai 20) X0 lb (mpl Ai l e) from' (lN T) ≤ mB Ai Aj nz nw T l r' e) X (me_d Ai Aj ne nz nw cn lb from' T l r X)
  | 0 => qP_rf (fun p a ⟨r', e, k, h1, _⟩ => by omega)
  | r + 1 => by
    have ih := q_md hp hX r
    unfold me_d
    by_cases hq : mr_run Ai Aj ne l (dy T r) = 1
    · rw [if_pos hq]
      refine qP_tr ih (q_mi hp (cn l) 0 _ (by omega) (fun p hp => (qP_low ih hp).trans (hX p hp))) (fun p a => ?_)
      constructor
      · rintro ⟨r', e, k, h1, h2, h3⟩
        by_cases he : r' = r
        · subst he; exact Or.inr ⟨e, k, by omega, h3⟩
        · exact Or.inl ⟨r', e, k, by omega, h2, h3⟩
      · rintro (⟨r', e, k, h1, h2⟩ | ⟨e, k, h1, h2⟩)
        · exact ⟨r', e, k, by omega, h2⟩
        · exact ⟨r, e, k, by omega, hq, h2⟩
    · rw [if_neg hq]
      refine qP_iff ih (fun p a => ?_)
      constructor
      · rintro ⟨r', e, k, h1, h2, h3⟩
        by_cases he : r' = r
        · subst he; exact absurd h2 hq
        · exact ⟨r', e, k, by omega, h2, h3⟩
      · rintro ⟨r', e, k, h1, h2⟩
        exact ⟨r', e, k, by omega, h2⟩
theorem q_ml {nl : Nat} {X0 : Nat → Int64} (hp : ∀ l, l < nl → ∀ k, k < cn l → mpl Ai l k < 100) {X : Nat → Int64} (hX : ∀ p, p < 100 → X (100 * lb + p) = X0 (100 * lb + p)) : ∀ l, l ≤ nl → qP lb (fun p a => ∃ l' r' e k, l' < l ∧ r' < 13 ∧ mr_run Ai Aj ne l' (dy T r') = 1 ∧ e < k ∧ k < cn l' ∧ mpl Ai l' k = p ∧ (mA Ai Aj nz nw T l' r' k).toInt = a ∧ (mB Ai Aj nz nw T l' r' e).toInt ≤ (mA Ai Aj nz nw T l' r' k).toInt ∧ mqe (Ai 20) X0 lb (mpl Ai l' e) from' (lN T) ≤ mB Ai Aj nz nw T l' r' e) X (me_l Ai Aj ne nz nw cn lb from' T l X)
  | 0, _ => qP_rf (fun p a ⟨l', r', e, k, h1, _⟩ => by omega)
  | l + 1, hl => by
    have ih := q_ml hp hX l (by omega)
    unfold me_l
    refine qP_tr ih (q_md (hp l (by omega)) (fun p hp => (qP_low ih hp).trans (hX p hp)) 13) (fun p a => ?_)
    constructor
    · rintro ⟨l', r', e, k, h1, h2, h3⟩
      by_cases he : l' = l
      · subst he; exact Or.inr ⟨r', e, k, h2, h3⟩
      · exact Or.inl ⟨l', r', e, k, by omega, h2, h3⟩
    · rintro (⟨l', r', e, k, h1, h2⟩ | ⟨r', e, k, h1, h2⟩)
      · exact ⟨l', r', e, k, by omega, h2⟩
      · exact ⟨l, r', e, k, by omega, h1, h2⟩
end
/-- the reference's legs -/
def qM (Ai : Nat → Nat → Int32) (Aj : Nat → Nat → Int64) (ne nz nw : Nat) (cn : Nat → Nat) (T nl : Nat) : Nat → Nat → Int → Int → Prop := qLg nl cn (fun l r => mr_run Ai Aj ne l (dy T r) = 1) (mpl Ai) (fun l r k => (mA Ai Aj nz nw T l r k).toInt) (fun l r k => (mB Ai Aj nz nw T l r k).toInt)
def qph (x : Int64) : Int := if x = 9223372036854775807 then 2147483647 else x.toInt
def qmX (Ai : Nat → Nat → Int32) (Aj : Nat → Nat → Int64) (ne nz nw : Nat) (cn : Nat → Nat) (T nl : Nat) : Prop := ∀ l, l < nl → (∀ k, k < cn l → mpl Ai l k < 100) ∧ ∀ r, r < 13 → mr_run Ai Aj ne l (dy T r) = 1 → ∀ k, k < cn l → (mA Ai Aj nz nw T l r k).toInt ≤ 2000000000 ∧ (mB Ai Aj nz nw T l r k).toInt ≤ 2000000000
section
variable {Ai : Nat → Nat → Int32} {Aj : Nat → Nat → Int64} {ne nz nw : Nat} {cn : Nat → Nat} {from' T nl : Nat}
theorem q_mc {lb p : Nat} {E : Nat → Int64} (hp : p < 100) : me_c lb 100 E (100 * (lb + 1) + p) = E (100 * lb + p) := by
  unfold me_c
  rw [if_pos (by omega)]
  exact congrArg E (by omega)
theorem q_mc' {lb k : Nat} {E : Nat → Int64} (h : k < 100 * (lb + 1) ∨ 100 * (lb + 1) + 100 ≤ k) : me_c lb 100 E k = E k := by
  unfold me_c
  rw [if_neg (by omega)]
/-- a round of the reference -/
def qr_D (Ai : Nat → Nat → Int32) (Aj : Nat → Nat → Int64) (ne nz nw : Nat) (cn : Nat → Nat) (from' T nl : Nat) (n p : Nat) (a : Int) : Prop := ∃ l r e k, l < nl ∧ r < 13 ∧ mr_run Ai Aj ne l (dy T r) = 1 ∧ e < k ∧ k < cn l ∧ mpl Ai l k = p ∧ (mA Ai Aj nz nw T l r k).toInt = a ∧ (mB Ai Aj nz nw T l r e).toInt ≤ (mA Ai Aj nz nw T l r k).toInt ∧ mqe (Ai 20) (ee Ai Aj ne nz nw cn from' T nl n) n (mpl Ai l e) from' (lN T) ≤ mB Ai Aj nz nw T l r e
theorem q_ee (hX : qmX Ai Aj ne nz nw cn T nl) (n : Nat) : qP n (qr_D Ai Aj ne nz nw cn from' T nl n) (me_c n 100 (ee Ai Aj ne nz nw cn from' T nl n)) (ee Ai Aj ne nz nw cn from' T nl (n + 1)) :=
  q_ml (fun l hl => (hX l hl).1) (fun p hp => q_mc' (by omega)) nl (Nat.le_refl _)
/-- the rows that are done stay -/
theorem q_est (hX : qmX Ai Aj ne nz nw cn T nl) : ∀ (m n p : Nat), p < 100 → ee Ai Aj ne nz nw cn from' T nl (n + m) (100 * n + p) = ee Ai Aj ne nz nw cn from' T nl n (100 * n + p)
  | 0, n, p, _ => rfl
  | m + 1, n, p, hp => by
    have h := (q_ee (from' := from') hX (n + m)).1 (100 * n + p) (by omega)
    rw [q_mc' (by omega), q_est hX m n p hp] at h
    exact h
theorem q_mE0 {p : Nat} (hp : p < 100) : ee Ai Aj ne nz nw cn from' T nl 0 (100 * 0 + p) = if p = from' then lN T else 9223372036854775807 := by
  rw [show 100 * 0 + p = p by omega]
  exact if_pos hp
theorem qph_fin {x : Int64} (h : x.toInt ≤ 2147483646) : qph x = x.toInt := if_neg (fun e => by rw [e, i6_N] at h; omega)
theorem qph_lt {x : Int64} (hb : x = 9223372036854775807 ∨ x.toInt ≤ 2000000000) : (qph x < 2147483647 ↔ x.toInt ≤ 2000000000) ∧ (qph x = x.toInt ∨ x = 9223372036854775807 ∧ qph x = 2147483647) := by
  rcases hb with rfl | h
  · rw [i6_N]
    exact ⟨⟨fun h => absurd h (by decide), fun h => absurd h (by decide)⟩, Or.inr ⟨rfl, rfl⟩⟩
  · rw [qph_fin (by omega)]
    exact ⟨⟨fun _ => h, fun _ => by omega⟩, Or.inl rfl⟩
theorem qph_inj {x y : Int64} (hx : x = 9223372036854775807 ∨ x.toInt ≤ 2000000000) (hy : y = 9223372036854775807 ∨ y.toInt ≤ 2000000000) : qph x = qph y ↔ x = y := by
  constructor
  · intro h
    rcases hx with rfl | hx <;> rcases hy with rfl | hy
    · rfl
    · rw [qph_fin (x := y) (by omega), show qph 9223372036854775807 = 2147483647 from rfl] at h; omega
    · rw [qph_fin (x := x) (by omega), show qph 9223372036854775807 = 2147483647 from rfl] at h; omega
    · rw [qph_fin (by omega), qph_fin (by omega)] at h; exact i6_eq.mpr h
  · rintro rfl; rfl
theorem q_mbd (hX : qmX Ai Aj ne nz nw cn T nl) (hT : T ≤ 1700000000) : ∀ (n p : Nat), p < 100 → ee Ai Aj ne nz nw cn from' T nl n (100 * n + p) = 9223372036854775807 ∨ (ee Ai Aj ne nz nw cn from' T nl n (100 * n + p)).toInt ≤ 2000000000
  | 0, p, hp => by
    rw [q_mE0 hp]
    split
    · right; rw [lN_toInt (by omega)]; omega
    · exact Or.inl rfl
  | n + 1, p, hp => by
    rcases (q_ee (from' := from') hX n).2.2.2 p hp with h | ⟨l, r, e, k, hl, hr, hrun, _, hk, _, h, _⟩
    · rw [h, q_mc hp]; exact q_mbd hX hT n p hp
    · right; rw [← h]; exact ((hX l hl).2 r hr hrun k hk).1
theorem q_mqe {E : Nat → Int64} {C : Nat → Int32} {n p : Nat} {b : Int64} (hT : T ≤ 1700000000) (hb : b.toInt ≤ 2000000000) (hE : E (100 * n + p) = 9223372036854775807 ∨ (E (100 * n + p)).toInt ≤ 2000000000) (hlo : -1000000000 ≤ (E (100 * n + p)).toInt) (hC : 0 ≤ (C p).toInt ∧ (C p).toInt ≤ 100000) : mqe C E n p from' (lN T) ≤ b ↔ qRd (fun p => (C p).toInt) from' (T : Int) (fun p => qph (E (100 * n + p))) p b.toInt := by
  unfold mqe qRd
  dsimp only
  by_cases hpf : p = from'
  · rw [if_pos hpf, i6_le, lN_toInt (by omega)]
    constructor
    · intro h; exact Or.inl ⟨hpf, h⟩
    · rintro (⟨_, h⟩ | ⟨h, _⟩)
      · exact h
      · exact absurd hpf h
  · rw [if_neg hpf]
    by_cases hN : E (100 * n + p) = 9223372036854775807
    · rw [if_pos hN, i6_le, i6_N]
      constructor
      · intro h; omega
      · rintro (⟨h, _⟩ | ⟨_, h, _⟩)
        · exact absurd h hpf
        · rw [hN] at h; exact absurd h (by decide)
    · have hf : (E (100 * n + p)).toInt ≤ 2000000000 := by
        rcases hE with h | h
        · exact absurd h hN
        · exact h
      rw [if_neg hN, i6_le, i6_add (by rw [Int32.toInt_toInt64]; omega) (by rw [Int32.toInt_toInt64]; omega), Int32.toInt_toInt64]
      constructor
      · intro h; refine Or.inr ⟨hpf, ?_, ?_⟩
        · rw [qph_fin (by omega)]; omega
        · rw [qph_fin (by omega)]; exact h
      · rintro (⟨h, _⟩ | ⟨_, _, h⟩)
        · exact absurd h hpf
        · rw [qph_fin (by omega)] at h; exact h
/-- no time of the reference lies before the start -/
theorem q_mlo (hX : qmX Ai Aj ne nz nw cn T nl) (hT : T ≤ 1700000000) (hC : ∀ p, p < 100 → 0 ≤ (Ai 20 p).toInt ∧ (Ai 20 p).toInt ≤ 100000) : ∀ (n p : Nat), p < 100 → (T : Int) ≤ (ee Ai Aj ne nz nw cn from' T nl n (100 * n + p)).toInt
  | 0, p, hp => by
    rw [q_mE0 hp]
    split
    · rw [lN_toInt (by omega)]; omega
    · rw [i6_N]; omega
  | n + 1, p, hp => by
    rcases (q_ee (from' := from') hX n).2.2.2 p hp with h | ⟨l, r, e, k, hl, hr, hrun, hek, hk, _, h, hba, hq⟩
    · rw [h, q_mc hp]; exact q_mlo hX hT hC n p hp
    · rw [← h]
      have he := (hX l hl).1 e (by omega)
      have ih := q_mlo hX hT hC n _ he
      rw [q_mqe hT ((hX l hl).2 r hr hrun e (by omega)).2 (q_mbd hX hT n _ he) (by omega) (hC _ he)] at hq
      have hc := hC _ he
      unfold qRd at hq
      dsimp only at hq
      rcases hq with ⟨_, hq⟩ | ⟨_, hq1, hq2⟩
      · omega
      · rcases q_mbd (from' := from') hX hT n _ he with h0 | h0
        · rw [h0] at hq1; exact absurd hq1 (by decide)
        · rw [qph_fin (by omega)] at hq2; omega
theorem q_mE (hX : qmX Ai Aj ne nz nw cn T nl) (hT : T ≤ 1700000000) (hC : ∀ p, p < 100 → 0 ≤ (Ai 20 p).toInt ∧ (Ai 20 p).toInt ≤ 100000) (K : Nat) : qE (qM Ai Aj ne nz nw cn T nl) (fun p => (Ai 20 p).toInt) from' T K (fun n p => qph (ee Ai Aj ne nz nw cn from' T nl n (100 * n + p))) := by
  refine ⟨fun p hp => ?_, fun n _ => ?_⟩
  · show qph (ee Ai Aj ne nz nw cn from' T nl 0 (100 * 0 + p)) = _
    rw [q_mE0 hp]
    split
    · rw [qph_fin (by rw [lN_toInt (by omega)]; omega), lN_toInt (by omega)]
    · rfl
  · obtain ⟨h1, h2, h3, h4⟩ := q_ee (from' := from') hX n
    have hrd : ∀ l r e, l < nl → r < 13 → mr_run Ai Aj ne l (dy T r) = 1 → e < cn l → (mqe (Ai 20) (ee Ai Aj ne nz nw cn from' T nl n) n (mpl Ai l e) from' (lN T) ≤ mB Ai Aj nz nw T l r e ↔ qRd (fun p => (Ai 20 p).toInt) from' (T : Int) (fun p => qph (ee Ai Aj ne nz nw cn from' T nl n (100 * n + p))) (mpl Ai l e) (mB Ai Aj nz nw T l r e).toInt) := fun l r e hl hr hrun he => by
      have hp := (hX l hl).1 e he
      have := q_mlo (from' := from') hX hT hC n _ hp
      exact q_mqe hT ((hX l hl).2 r hr hrun e he).2 (q_mbd hX hT n _ hp) (by omega) (hC _ hp)
    refine ⟨fun p hp => ?_, fun q p b a hlg hrdy => ?_, fun p hp => ?_⟩
    · have := h2 p hp
      rw [q_mc hp] at this
      show qph _ ≤ qph _
      rcases q_mbd (from' := from') hX hT (n + 1) p hp with g | g
      · rw [g, i6_N] at this
        have h5 := i6_lt (x := 9223372036854775807) (y := ee Ai Aj ne nz nw cn from' T nl n (100 * n + p))
        have h6 := Int64.toInt_lt (ee Ai Aj ne nz nw cn from' T nl n (100 * n + p))
        have h7 : ee Ai Aj ne nz nw cn from' T nl n (100 * n + p) = 9223372036854775807 := i6_eq.mpr (by rw [i6_N]; omega)
        rw [g, h7]; exact Int.le_refl _
      · rcases q_mbd (from' := from') hX hT n p hp with g' | g'
        · rw [g', qph_fin (by omega), show qph 9223372036854775807 = 2147483647 from rfl]; omega
        · rw [qph_fin (by omega), qph_fin (by omega)]; exact this
    · obtain ⟨l, r, e, k, hl, hr, hrun, hek, hk, rfl, rfl, rfl, rfl, hba⟩ := hlg
      have hp := (hX l hl).1 k hk
      have := h3 (mpl Ai l k) (mA Ai Aj nz nw T l r k).toInt hp ⟨l, r, e, k, hl, hr, hrun, hek, hk, rfl, rfl, hba, (hrd l r e hl hr hrun (by omega)).mpr hrdy⟩
      have hb := ((hX l hl).2 r hr hrun k hk).1
      show qph _ ≤ _
      rw [qph_fin (by omega)]; exact this
    · rcases h4 p hp with h | ⟨l, r, e, k, hl, hr, hrun, hek, hk, h5, h6, hba, hq⟩
      · left
        show qph _ = qph _
        rw [h, q_mc hp]
      · right
        have hb := ((hX l hl).2 r hr hrun k hk).1
        have hE : qph (ee Ai Aj ne nz nw cn from' T nl (n + 1) (100 * (n + 1) + p)) = (mA Ai Aj nz nw T l r k).toInt := by rw [qph_fin (by omega), h6]
        refine ⟨_, _, ⟨l, r, e, k, hl, hr, hrun, hek, hk, rfl, h5, rfl, hE.symm, ?_⟩, (hrd l r e hl hr hrun (by omega)).mp hq⟩
        show _ ≤ qph _
        rw [hE]; exact hba
end
