/-! read: the class's parse, as a function; its lines that came by their data -/
abbrev cl_D : Type := Int32 × Nat × (Nat → Int32) × (Nat → Int32) × (Nat → Int32)
abbrev tp_T : Type := (Nat × Int32) × Nat × (Nat → cl_D)
def cl_ll (D : cl_D) : Int32 := if D.2.1 = 0 then 0 else D.2.2.2.2 (D.2.1 - 1)
def cl_st (p a b : Int32) : cl_D → cl_D := fun (wd, n, f1, f2, f3) => (wd, n + 1, upd f1 n p, upd f2 n a, upd f3 n b)
def cl_0 (wd : Int32) : cl_D := (wd, 0, fun _ => 0, fun _ => 0, fun _ => 0)
def clU (D : Nat → cl_D) (i : Nat) (x : cl_D) : Nat → cl_D := fun j => if j = i then x else D j
section TP
variable (len : Nat) (cf : Nat → Int32)
def tp_L : tp_T → tp_T := fun (s, m, D) => ((tx_nu len cf 0 127 s).1, if (tx_nu len cf 0 127 s).1.2 = -1 then (m + 1, clU D m (cl_0 (tx_nu len cf 0 127 s).2)) else (m, D))
def tp_1 (s : Nat × Int32) : (Nat × Int32) × Int32 := tx_nu len cf 0 99 s
def tp_3 (lo : Int32) (s : Nat × Int32) : (Nat × Int32) × Int32 := tx_nu len cf lo 259200 (tx_sg len cf 32 (tp_1 len cf s).1)
def tp_5 (lo : Int32) (s : Nat × Int32) : (Nat × Int32) × Int32 := tx_nu len cf (tp_3 len cf lo s).2 259200 (tx_sg len cf 32 (tp_3 len cf lo s).1)
def tp_S : tp_T → tp_T := fun (s, m, D) => ((tp_5 len cf (cl_ll (D (m - 1))) s).1, m, if (tp_5 len cf (cl_ll (D (m - 1))) s).1.2 = -1 then clU D (m - 1) (cl_st (tp_1 len cf s).2 (tp_3 len cf (cl_ll (D (m - 1))) s).2 (tp_5 len cf (cl_ll (D (m - 1))) s).2 (D (m - 1))) else D)
def tp_i (room : Nat) : tp_T → tp_T := fun ((a, f), m, D) => if f = -1 then (if tx_st len cf a 76 = true ∧ m < room then tp_L len cf ((a + 1, f), m, D) else if tx_st len cf a 83 = true ∧ m ≠ 0 ∧ (D (m - 1)).2.1 < 12 then tp_S len cf ((a + 1, f), m, D) else ((a, nI a), m, D)) else ((a, f), m, D)
def tp_n (room : Nat) : Nat → tp_T → tp_T
  | 0, s => s
  | k + 1, s => if s.1.2 = -1 ∧ s.1.1 < len then tp_n room k (tp_i len cf room (tx_sg len cf 59 s.1, s.2)) else s
def tp_0 (room : Nat) (D : Nat → cl_D) : tp_T := if len = 0 then ((0, -1), 0, D) else tp_n len cf room (len - 1) (tp_i len cf room ((0, -1), 0, D))
end TP
/-- where both stand -/
def tQ (s s' : Nat × Int32) : Prop := (s.2 = -1 ∧ s'.2 = -1 ∧ s.1 = s'.1) ∨ (s.2 ≠ -1 ∧ ¬ s'.2 < 0 ∧ s'.2 = s.2)
section
variable {n : Nat} {f : Nat → Int32}
theorem nI_nm {a : Nat} (h : a ≤ 1000000) : nI a ≠ -1 := fun e => by
  have := nI_toInt (n := a) (by omega)
  rw [e] at this
  have h2 : (-1 : Int32).toInt = -1 := by decide
  omega
theorem m1_neg : (-1 : Int32) < 0 := by decide
theorem p10 : ∀ m : Nat, (1 : Int) ≤ 10 ^ m
  | 0 => by decide
  | m + 1 => by rw [Int.pow_succ]; have := p10 m; omega
theorem dg_rng : ∀ (k a : Nat) (x : Int32) (B : Int), 0 ≤ x.toInt → x.toInt < B → B * 10 ^ k ≤ 1000000 → 0 ≤ (tx_dg n f k a x).2.toInt ∧ (tx_dg n f k a x).2.toInt < 1000000
  | 0, a, x, B, h1, h2, h3 => by
    unfold tx_dg
    rw [Int.pow_zero, Int.mul_one] at h3
    exact ⟨h1, by dsimp only; omega⟩
  | k + 1, a, x, B, h1, h2, h3 => by
    have hB : B ≤ 1000000 := by
      have h4 : (1 : Int) ≤ 10 ^ (k + 1) := p10 (k + 1)
      have := Int.mul_le_mul_of_nonneg_left h4 (show 0 ≤ B by omega)
      omega
    unfold tx_dg
    by_cases hq : a < n ∧ 48 ≤ f a ∧ f a ≤ 57
    · rw [if_pos hq]
      have q1 := i3_le.mp hq.2.1
      have q2 := i3_le.mp hq.2.2
      have e48 : (48 : Int32).toInt = 48 := rfl
      have e57 : (57 : Int32).toInt = 57 := rfl
      have e10 : (10 : Int32).toInt = 10 := rfl
      have m1 : ((10 : Int32) * x).toInt = 10 * x.toInt := by rw [i3_mul (by rw [e10]; omega) (by rw [e10]; omega), e10]
      have m2 : (f a - 48).toInt = (f a).toInt - 48 := by rw [i3_sub (by omega) (by omega), e48]
      have m3 : (10 * x + (f a - 48)).toInt = 10 * x.toInt + ((f a).toInt - 48) := by rw [i3_add (by omega) (by omega), m1, m2]
      refine dg_rng k (a + 1) _ (10 * B) (by omega) (by omega) ?_
      rw [Int.pow_succ] at h3
      have : 10 * B * 10 ^ k = B * (10 ^ k * 10) := by rw [Int.mul_comm 10 B, Int.mul_assoc, Int.mul_comm 10]
      omega
    · rw [if_neg hq]
      exact ⟨h1, by dsimp only; omega⟩
theorem dg6 {a : Nat} : 0 ≤ (tx_dg n f 6 a 0).2.toInt ∧ (tx_dg n f 6 a 0).2.toInt < 1000000 := dg_rng 6 a 0 1 (by decide) (by decide) (by decide)
theorem lk_st {a : Nat} {x : Int32} (hx : x ≠ -1) : p_lk n f a = x ↔ tx_st n f a x = true := by
  unfold p_lk tx_st
  by_cases h : a < n
  · rw [if_pos h, decide_eq_true h, Bool.true_and, decide_eq_true_iff]
  · rw [if_neg h, decide_eq_false h, Bool.false_and]
    exact ⟨fun e => absurd e.symm hx, fun e => absurd e Bool.noConfusion⟩
theorem tQ_bl {s s' : Nat × Int32} (ha : s'.1 ≤ 1000000) (h : tQ s s') : tQ (tx_sg n f 32 s) (p_bl n f s') := by
  obtain ⟨a, b⟩ := s
  obtain ⟨a', b'⟩ := s'
  unfold tx_sg p_bl
  dsimp only at ha ⊢
  rcases h with ⟨h1, h2, h3⟩ | ⟨h1, h2, h3⟩
  · dsimp only at h1 h2 h3
    subst h1 h2 h3
    rw [if_pos rfl]
    by_cases hq : tx_st n f a 32 = true
    · rw [if_pos hq, if_pos ((lk_st (by decide)).mpr hq)]
      exact Or.inl ⟨rfl, rfl, rfl⟩
    · rw [if_neg hq, if_neg (fun e => hq ((lk_st (by decide)).mp e))]
      refine Or.inr ⟨nI_nm ha, ?_, ?_⟩
      · show ¬ p_fl (-1) (nI a) < 0
        unfold p_fl; rw [if_pos m1_neg]; exact nI_pos (by omega)
      · show p_fl (-1) (nI a) = nI a
        unfold p_fl; rw [if_pos m1_neg]
  · dsimp only at h1 h2 h3
    rw [if_neg h1]
    have : ∀ w, p_fl b' w = b' := fun w => if_neg h2
    rw [this]
    right
    split
    · exact ⟨h1, h2, h3⟩
    · exact ⟨h1, h2, h3⟩
/-- a number, with a lower bound of the reference's own -/
theorem tQ_nu {s s' : Nat × Int32} {lo hi : Int32} {P : Prop} [Decidable P] (ha : s'.1 ≤ 1000000) (h : tQ s s') (hP : s.2 = -1 → (P ↔ (tx_dg n f 6 s.1 0).2 < lo)) : tQ (tx_nu n f lo hi s).1 ((p_nu n f hi s').1.1, if P then p_fl (p_nu n f hi s').1.2 (nI s'.1) else (p_nu n f hi s').1.2) ∧ ((tx_nu n f lo hi s).1.2 = -1 → s.2 = -1 ∧ (tx_nu n f lo hi s).2 = (tx_dg n f 6 s.1 0).2 ∧ (p_nu n f hi s').2 = (tx_dg n f 6 s.1 0).2 ∧ lo ≤ (tx_dg n f 6 s.1 0).2 ∧ (tx_dg n f 6 s.1 0).2 ≤ hi ∧ ¬ P) := by
  obtain ⟨a, b⟩ := s
  obtain ⟨a', b'⟩ := s'
  unfold tx_nu p_nu
  dsimp only at ha hP ⊢
  rcases h with ⟨h1, h2, h3⟩ | ⟨h1, h2, h3⟩
  · dsimp only at h1 h2 h3
    subst h1 h2 h3
    have hP := hP rfl
    rw [if_pos rfl]
    obtain ⟨d1, d2⟩ : ∃ d : Nat × Int32, tx_dg n f 6 a 0 = d := ⟨_, rfl⟩
    rw [d2] at hP ⊢
    have hfl : ∀ w, p_fl (-1) w = w := fun w => if_pos m1_neg
    have hfn : ∀ w, p_fl (nI a) w = nI a := fun w => if_neg (nI_pos (by omega))
    have hn := nI_nm ha
    rw [hfl]
    dsimp only
    by_cases c1 : d1.1 = a
    · rw [if_pos (Or.inl c1), if_pos c1, hfn]
      refine ⟨Or.inr ⟨hn, ?_, ?_⟩, fun e => absurd e hn⟩
      · dsimp only; split <;> exact nI_pos (by omega)
      · dsimp only; split <;> rfl
    · rw [if_neg c1]
      by_cases c2 : hi < d1.2
      · rw [if_pos (Or.inr (Or.inr c2)), if_pos c2, hfn]
        refine ⟨Or.inr ⟨hn, ?_, ?_⟩, fun e => absurd e hn⟩
        · dsimp only; split <;> exact nI_pos (by omega)
        · dsimp only; split <;> rfl
      · rw [if_neg c2, hfl]
        by_cases c3 : d1.2 < lo
        · rw [if_pos (Or.inr (Or.inl c3)), if_pos (hP.mpr c3)]
          exact ⟨Or.inr ⟨hn, nI_pos (by omega), rfl⟩, fun e => absurd e hn⟩
        · rw [if_neg (fun e => by rcases e with e | e | e; exact c1 e; exact c3 e; exact c2 e), if_neg (fun e => c3 (hP.mp e))]
          refine ⟨Or.inl ⟨rfl, rfl, rfl⟩, fun _ => ⟨rfl, rfl, rfl, ?_, ?_, fun e => c3 (hP.mp e)⟩⟩
          · rw [i3_le]; rw [i3_lt] at c3; omega
          · rw [i3_le]; rw [i3_lt] at c2; omega
  · dsimp only at h1 h2 h3
    rw [if_neg h1]
    have hfl : ∀ w, p_fl b' w = b' := fun w => if_neg h2
    rw [hfl]
    have e0 : (if (tx_dg n f 6 a' 0).1 = a' then b' else if hi < (tx_dg n f 6 a' 0).2 then b' else b') = b' := by
      split
      · rfl
      · split <;> rfl
    rw [e0, hfl]
    have e1 : (if P then b' else b') = b' := by split <;> rfl
    rw [e1]
    exact ⟨Or.inr ⟨h1, h2, h3⟩, fun e => absurd e h1⟩
end
/-- a line that came, and the reference's -/
def tD (Ai : Nat → Nat → Int32) (Aj : Nat → Nat → Int64) (l : Nat) : cl_D → Prop := fun (wd, n, f1, f2, f3) => wd = Ai 2 l ∧ n ≤ 12 ∧ Ai 3 l = nI n ∧ ∀ j, j < n → (∃ p, p < 100 ∧ f1 j = nI p) ∧ f1 j = Ai 4 (12 * l + j) ∧ ((f2 j).toInt = (Aj 5 (12 * l + j)).toInt ∧ 0 ≤ (f2 j).toInt ∧ (f2 j).toInt ≤ 259200) ∧ (f3 j).toInt = (Aj 6 (12 * l + j)).toInt ∧ 0 ≤ (f3 j).toInt ∧ (f3 j).toInt ≤ 259200
/-- the lines before k0 are as they were -/
def tAg (k0 : Nat) (A0 : Nat → Nat → Int32) (J0 : Nat → Nat → Int64) (Ai : Nat → Nat → Int32) (Aj : Nat → Nat → Int64) : Prop := agI [2, 3, 4] A0 Ai ∧ agJ [5, 6] J0 Aj ∧ ∀ l, l < k0 → Ai 2 l = A0 2 l ∧ Ai 3 l = A0 3 l ∧ ∀ j, j < 12 → Ai 4 (12 * l + j) = A0 4 (12 * l + j) ∧ Aj 5 (12 * l + j) = J0 5 (12 * l + j) ∧ Aj 6 (12 * l + j) = J0 6 (12 * l + j)
def tR (k0 : Nat) (A0 : Nat → Nat → Int32) (J0 : Nat → Nat → Int64) : tp_T → mrd_T → Prop := fun ((a, f), m, D) ((a', phi), (k, ln), Ai, Aj) => tAg k0 A0 J0 Ai Aj ∧ ((f = -1 ∧ phi = -1 ∧ a = a' ∧ k = k0 + m ∧ k ≤ 40 ∧ ln = (if m = 0 then none else some (k - 1)) ∧ ∀ i, i < m → tD Ai Aj (k0 + i) (D i)) ∨ (f ≠ -1 ∧ ¬ phi < 0 ∧ phi = f))
section
variable {n k0 : Nat} {f : Nat → Int32} {A0 : Nat → Nat → Int32} {J0 : Nat → Nat → Int64}
theorem tx_ne {a : Nat} {x y : Int32} (h : tx_st n f a x = true) (hxy : x ≠ y) : ¬ tx_st n f a y = true := fun h2 => by
  unfold tx_st at h h2
  simp only [Bool.and_eq_true, decide_eq_true_eq] at h h2
  exact hxy (h.2.symm.trans h2.2)
theorem tR_L {a m k : Nat} {D : Nat → cl_D} {ln : Option Nat} {Ai : Nat → Nat → Int32} {Aj : Nat → Nat → Int64} (ha : a ≤ 1000) (hk0 : k0 ≤ 40) (h28 : Ai 28 = f) (h : tR k0 A0 J0 ((a, -1), m, D) ((a, -1), (k, ln), Ai, Aj)) (hL : tx_st n f a 76 = true) : tR k0 A0 J0 (tp_i n f (40 - k0) ((a, -1), m, D)) (mrd_L n ((a, -1), (k, ln), Ai, Aj)) := by
  obtain ⟨hag, ⟨-, -, -, h1, h2, h3, h4⟩ | ⟨hx, _⟩⟩ := h
  case inr => exact absurd rfl hx
  have hfl : ∀ w, p_fl (-1) w = w := fun w => if_pos m1_neg
  unfold tp_i mrd_L
  dsimp only
  rw [if_pos rfl, h28]
  by_cases hk : k = 40
  · rw [if_pos hk, if_neg (fun e => by omega), if_neg (fun e => tx_ne hL (by decide) e.1), hfl]
    have e0 : (p_nu n f 127 (a + 1, nI a)).1.2 = nI a := by
      unfold p_nu
      dsimp only
      rw [show p_fl (nI a) (nI (a + 1)) = nI a from if_neg (nI_pos (by omega))]
      split
      · rfl
      · split <;> rfl
    rw [if_neg (by rw [e0]; exact nI_pos (by omega))]
    refine ⟨hag, Or.inr ⟨nI_nm (by omega), ?_, e0⟩⟩
    rw [show (p_nu n f 127 (a + 1, nI a)).1.2 = nI a from e0]; exact nI_pos (by omega)
  · rw [if_neg hk, if_pos ⟨hL, by omega⟩]
    obtain ⟨q1, q2⟩ := tQ_nu (n := n) (f := f) (s := (a + 1, -1)) (s' := (a + 1, -1)) (lo := 0) (hi := 127) (P := False) (by dsimp only; omega) (Or.inl ⟨rfl, rfl, rfl⟩) (fun _ => ⟨False.elim, fun e => by
      have := (dg6 (n := n) (f := f) (a := a + 1)).1
      rw [i3_lt, show (0 : Int32).toInt = 0 from rfl] at e; dsimp only at e; omega⟩)
    rw [if_neg (fun e => e)] at q1
    unfold tp_L
    dsimp only
    rcases q1 with ⟨r1, r2, r3⟩ | ⟨r1, r2, r3⟩
    · have r2' : (p_nu n f 127 (a + 1, -1)).1.2 = -1 := r2
      rw [if_pos r1, if_pos (by rw [r2']; exact m1_neg)]
      obtain ⟨-, t1, t2, -, -, -⟩ := q2 r1
      refine ⟨?_, Or.inl ⟨r1, r2', r3, ?_, ?_, ?_, fun i hi => ?_⟩⟩
      · obtain ⟨g1, g2, g3⟩ := hag
        refine ⟨fun x hx => (seqU_ne (fun e => hx (by rw [e]; decide))).trans ((seqU_ne (fun e => hx (by rw [e]; decide))).trans (g1 x hx)), g2, fun l hl => ?_⟩
        obtain ⟨u1, u2, u3⟩ := g3 l hl
        rw [seqU_ne (by decide), seqU_at, seqU_at, seqU_ne (by decide), seqU_ne (by decide), pk_un (by omega), pk_un (by omega)]
        exact ⟨u1, u2, u3⟩
      · omega
      · omega
      · rw [if_neg (by omega)]; rfl
      · unfold clU
        by_cases him : i = m
        · subst him
          rw [if_pos rfl, ← h1]
          unfold tD cl_0
          dsimp only
          rw [seqU_ne (by decide), seqU_at, seqU_at, pk_us, pk_us, t1, t2]
          exact ⟨rfl, by omega, rfl, fun j hj => by omega⟩
        · rw [if_neg him]
          have hd := h4 i (by omega)
          unfold tD at hd ⊢
          rw [seqU_ne (by decide), seqU_at, seqU_at, seqU_ne (by decide), seqU_ne (by decide), pk_un (by omega), pk_un (by omega)]
          exact hd
    · rw [if_neg r1, if_neg r2]
      exact ⟨hag, Or.inr ⟨r1, r2, r3⟩⟩
end
section
variable {n k0 : Nat} {f : Nat → Int32} {A0 : Nat → Nat → Int32} {J0 : Nat → Nat → Int64}
theorem sg_ok {x : Int32} {s : Nat × Int32} (h : (tx_sg n f x s).2 = -1) : s.2 = -1 := by
  refine Classical.byContradiction fun hx => ?_
  have : tx_sg n f x s = s := if_neg hx
  rw [this] at h
  exact hx h
theorem tS_a {s : Nat × Int32} {u : (Nat × Int32) × Int32} {t : (Nat × Int32) × Int32} (ha : s.1 ≤ 1000000) (h : tQ s s) (hu : u = p_nu n f 99 s) (ht : t = tx_nu n f 0 99 s) : tQ t.1 u.1 ∧ (t.1.2 = -1 → t.2 = u.2 ∧ ∃ p, p < 100 ∧ u.2 = nI p) := by
  obtain ⟨p1, p2⟩ := tQ_nu (n := n) (f := f) (s := s) (s' := s) (lo := 0) (hi := 99) (P := False) ha h (fun _ => ⟨False.elim, fun e => by
    have := (dg6 (n := n) (f := f) (a := s.1)).1
    rw [i3_lt, show (0 : Int32).toInt = 0 from rfl] at e; omega⟩)
  rw [if_neg (fun e => e), ← hu, ← ht] at p1
  rw [← hu, ← ht] at p2
  refine ⟨p1, fun e => ?_⟩
  obtain ⟨-, v1, v2, v3, v4, -⟩ := p2 e
  refine ⟨v1.trans v2.symm, ?_⟩
  rw [v2]
  obtain ⟨j, hj, ej⟩ := nI_of (x := (tx_dg n f 6 s.1 0).2) (by rw [i3_lt]; rw [i3_le] at v3; omega)
  refine ⟨j, ?_, ej⟩
  rw [ej, i3_le, nI_toInt hj, show (99 : Int32).toInt = 99 from rfl] at v4
  omega
/-- a blank and a number from lo on -/
theorem tS_b {s s' : Nat × Int32} {lo : Int32} {P : Int32 → Prop} [DecidablePred P] {t u : (Nat × Int32) × Int32} {F : Int32} (ha : s'.1 ≤ 100000) (h : tQ s s') (hlo0 : s.2 = -1 → 0 ≤ lo.toInt) (hP : s.2 = -1 → ∀ x : Int32, 0 ≤ x.toInt → (P x ↔ x < lo)) (ht : t = tx_nu n f lo 259200 (tx_sg n f 32 s)) (hu : u = p_nu n f 259200 (p_bl n f s')) (hF : F = if P u.2 then p_fl u.1.2 (nI (p_bl n f s').1) else u.1.2) : tQ t.1 (u.1.1, F) ∧ (t.1.2 = -1 → s.2 = -1 ∧ t.2 = u.2 ∧ 0 ≤ u.2.toInt ∧ u.2.toInt ≤ 259200) := by
  have b1 := tQ_bl (n := n) (f := f) (by omega) h
  have hbd := bl_bd (n := n) (f := f) (s := s')
  have hok : (tx_sg n f 32 s).2 = -1 → s.2 = -1 := sg_ok
  rw [← hu.symm] at *
  generalize tx_sg n f 32 s = T at *
  generalize p_bl n f s' = U at *
  obtain ⟨q1, q2⟩ := tQ_nu (n := n) (f := f) (s := T) (s' := U) (lo := lo) (hi := 259200) (P := P (p_nu n f 259200 U).2) (by omega) b1 (fun ho => by
    rcases b1 with ⟨_, z2, z3⟩ | ⟨z, _⟩
    · have e3 : (p_nu n f 259200 U).2 = (tx_dg n f 6 T.1 0).2 := by rw [z3]; rfl
      rw [e3]
      exact hP (hok ho) _ dg6.1
    · exact absurd ho z)
  rw [← ht, ← hF] at q1
  rw [← ht] at q2
  refine ⟨q1, fun e => ?_⟩
  obtain ⟨z0, z1, z2, z3, z4, -⟩ := q2 e
  refine ⟨hok z0, z1.trans z2.symm, ?_⟩
  have := hlo0 (hok z0)
  rw [z2]
  rw [i3_le] at z3 z4
  rw [show (259200 : Int32).toInt = 259200 from rfl] at z4
  omega
theorem tS_1 {a c : Nat} {lo e0 : Int32} {LV : Int64} {T1 T3 T5 U1 U3 U5 : (Nat × Int32) × Int32} {F3 F5 : Int32} (he0 : e0 = -1) (ha : a ≤ 1000) (hlo0 : 0 ≤ lo.toInt) (hlv : ∀ x : Int32, 0 ≤ x.toInt → ((0 < c ∧ x.toInt64 < LV) ↔ x < lo)) (hT1 : T1 = tx_nu n f 0 99 (a + 1, e0)) (hU1 : U1 = p_nu n f 99 (a + 1, e0)) (hT3 : T3 = tx_nu n f lo 259200 (tx_sg n f 32 T1.1)) (hU3 : U3 = p_nu n f 259200 (p_bl n f U1.1)) (hF3 : F3 = if 0 < c ∧ U3.2.toInt64 < LV then p_fl U3.1.2 (nI (p_bl n f U1.1).1) else U3.1.2) (hT5 : T5 = tx_nu n f T3.2 259200 (tx_sg n f 32 T3.1)) (hU5 : U5 = p_nu n f 259200 (p_bl n f (U3.1.1, F3))) (hF5 : F5 = if U5.2 < U3.2 then p_fl U5.1.2 (nI (p_bl n f (U3.1.1, F3)).1) else U5.1.2) : (T5.1.2 = -1 ∧ F5 = -1 ∧ T5.1.1 = U5.1.1 ∧ T1.2 = U1.2 ∧ T3.2 = U3.2 ∧ T5.2 = U5.2 ∧ (∃ p, p < 100 ∧ U1.2 = nI p) ∧ (0 ≤ U3.2.toInt ∧ U3.2.toInt ≤ 259200) ∧ 0 ≤ U5.2.toInt ∧ U5.2.toInt ≤ 259200) ∨ (T5.1.2 ≠ -1 ∧ ¬ F5 < 0 ∧ F5 = T5.1.2) := by
  have n1 := nu_bd (n := n) (f := f) (most := 99) (s := (a + 1, e0))
  rw [← hU1] at n1
  dsimp only at n1
  have n2 := bl_bd (n := n) (f := f) (s := U1.1)
  have n3 := nu_bd (n := n) (f := f) (most := 259200) (s := p_bl n f U1.1)
  rw [← hU3] at n3
  have i0 : tQ (a + 1, e0) (a + 1, e0) := Or.inl ⟨he0, he0, rfl⟩
  obtain ⟨p1, p2⟩ := tS_a (n := n) (f := f) (s := (a + 1, e0)) (by dsimp only; omega) i0 hU1 hT1
  obtain ⟨q1, q2⟩ := tS_b (n := n) (f := f) (lo := lo) (P := fun x => 0 < c ∧ x.toInt64 < LV) (by omega) p1 (fun _ => hlo0) (fun _ => hlv) hT3 hU3 hF3
  obtain ⟨r1, r2⟩ := tS_b (n := n) (f := f) (lo := T3.2) (P := fun x => x < U3.2) (by dsimp only; omega) q1 (fun e => by rw [(q2 e).2.1]; exact (q2 e).2.2.1) (fun e x _ => by rw [(q2 e).2.1]) hT5 hU5 hF5
  rcases r1 with ⟨x1, x2, x3⟩ | ⟨x1, x2, x3⟩
  · left
    obtain ⟨y0, y1, y2⟩ := r2 x1
    obtain ⟨z0, z1, z2⟩ := q2 y0
    obtain ⟨w1, w2⟩ := p2 z0
    exact ⟨x1, x2, x3, w1, z1, y1, w2, z2, y2⟩
  · exact Or.inr ⟨x1, x2, x3⟩
/-- a stop that is read, in the line that came last -/
theorem tR_S2 {m k c : Nat} {D : Nat → cl_D} {Ai : Nat → Nat → Int32} {Aj : Nat → Nat → Int64} {wd : Int32} {f1 f2 f3 : Nat → Int32} {T1 T3 T5 U1 U3 U5 : (Nat × Int32) × Int32} {F5 : Int32} (hag : tAg k0 A0 J0 Ai Aj) (h1 : k = k0 + (m + 1)) (h2 : k ≤ 40) (h4 : ∀ i, i < m + 1 → tD Ai Aj (k0 + i) (D i)) (hDm : D m = (wd, c, f1, f2, f3)) (hc : c < 12) (hx : (T5.1.2 = -1 ∧ F5 = -1 ∧ T5.1.1 = U5.1.1 ∧ T1.2 = U1.2 ∧ T3.2 = U3.2 ∧ T5.2 = U5.2 ∧ (∃ p, p < 100 ∧ U1.2 = nI p) ∧ (0 ≤ U3.2.toInt ∧ U3.2.toInt ≤ 259200) ∧ 0 ≤ U5.2.toInt ∧ U5.2.toInt ≤ 259200) ∨ (T5.1.2 ≠ -1 ∧ ¬ F5 < 0 ∧ F5 = T5.1.2)) : tR k0 A0 J0 (T5.1, m + 1, if T5.1.2 = -1 then clU D m (cl_st T1.2 T3.2 T5.2 (wd, c, f1, f2, f3)) else D) ((if F5 < 0 then (((U5.1.1, F5), mo_as Ai (k0 + m) c U1.2, mo_aj Aj (k0 + m) c U3.2.toInt64 U5.2.toInt64) : mrd_S) else (((U5.1.1, F5), Ai, Aj) : mrd_S)).1, (k, some (k0 + m)), (if F5 < 0 then (((U5.1.1, F5), mo_as Ai (k0 + m) c U1.2, mo_aj Aj (k0 + m) c U3.2.toInt64 U5.2.toInt64) : mrd_S) else (((U5.1.1, F5), Ai, Aj) : mrd_S)).2.1, (if F5 < 0 then (((U5.1.1, F5), mo_as Ai (k0 + m) c U1.2, mo_aj Aj (k0 + m) c U3.2.toInt64 U5.2.toInt64) : mrd_S) else (((U5.1.1, F5), Ai, Aj) : mrd_S)).2.2) := by
  obtain ⟨⟨ta, tf⟩, tv⟩ := T5
  have hd := h4 m (by omega)
  rw [hDm] at hd
  obtain ⟨d1, d2, d3, d4⟩ := hd
  rcases hx with ⟨x1, x2, x3, eP, eA, eB, rP, rA, rB⟩ | ⟨x1, x2, x3⟩
  · rw [if_pos x1, if_pos (by rw [x2]; exact m1_neg), eP, eA, eB]
    obtain ⟨g1, g2, g3⟩ := hag
    refine ⟨⟨fun x hx => ?_, fun x hx => ?_, fun l hl => ?_⟩, Or.inl ⟨x1, x2, x3, h1, h2, ?_, fun i hi => ?_⟩⟩
    · unfold mo_as
      exact (seqU_ne (fun e => hx (by rw [e]; decide))).trans ((seqU_ne (fun e => hx (by rw [e]; decide))).trans (g1 x hx))
    · unfold mo_aj
      exact (seqJ_ne (fun e => hx (by rw [e]; decide))).trans ((seqJ_ne (fun e => hx (by rw [e]; decide))).trans (g2 x hx))
    · obtain ⟨u1, u2, u3⟩ := g3 l hl
      unfold mo_as mo_aj
      dsimp only
      rw [seqU_ne (by decide), seqU_ne (by decide), seqU_at, seqU_ne (by decide), seqU_at, seqJ_ne (by decide), seqJ_at, seqJ_at, pk_un (by omega)]
      refine ⟨u1, u2, fun j hj => ?_⟩
      rw [pk_un (by omega), pk_uLn (by omega), pk_uLn (by omega)]
      exact u3 j hj
    · rw [if_neg (by omega)]
      exact congrArg some (by omega)
    · unfold clU
      by_cases him : i = m
      · subst him
        rw [if_pos rfl]
        unfold tD cl_st mo_as mo_aj
        dsimp only
        rw [seqU_ne (by decide), seqU_ne (by decide), seqU_at, seqU_ne (by decide), seqU_at, seqJ_ne (by decide), seqJ_at, seqJ_at, pk_us]
        refine ⟨d1, by omega, rfl, fun j hj => ?_⟩
        by_cases hjc : j = c
        · subst hjc
          rw [pk_us, pk_us, pk_us, pk_us, pk_uLs, pk_uLs, Int32.toInt_toInt64, Int32.toInt_toInt64]
          exact ⟨rP, rfl, ⟨rfl, rA⟩, rfl, rB⟩
        · rw [pk_un hjc, pk_un hjc, pk_un hjc, pk_un (by omega), pk_uLn (by omega), pk_uLn (by omega)]
          exact d4 j (by omega)
      · rw [if_neg him]
        have hd := h4 i hi
        rcases hDi : D i with ⟨wd', c', f1', f2', f3'⟩
        rw [hDi] at hd
        obtain ⟨d1', d2', d3', d4'⟩ := hd
        unfold tD mo_as mo_aj
        dsimp only
        rw [seqU_ne (by decide), seqU_ne (by decide), seqU_at, seqU_ne (by decide), seqU_at, seqJ_ne (by decide), seqJ_at, seqJ_at, pk_un (by omega)]
        refine ⟨d1', d2', d3', fun j hj => ?_⟩
        rw [pk_un (by omega), pk_uLn (by omega), pk_uLn (by omega)]
        exact d4' j hj
  · rw [if_neg x1, if_neg x2]
    exact ⟨hag, Or.inr ⟨x1, x2, x3⟩⟩
theorem tR_S {a m k : Nat} {D : Nat → cl_D} {ln : Option Nat} {Ai : Nat → Nat → Int32} {Aj : Nat → Nat → Int64} {e0 : Int32} (he0 : e0 = -1) (ha : a ≤ 1000) (h28 : Ai 28 = f) (h : tR k0 A0 J0 ((a, e0), m, D) ((a, e0), (k, ln), Ai, Aj)) (hS : tx_st n f a 83 = true) : tR k0 A0 J0 (tp_i n f (40 - k0) ((a, e0), m, D)) ((mrd_s n ln (mrd_c Ai ln) a e0 Ai Aj).1, (k, ln), (mrd_s n ln (mrd_c Ai ln) a e0 Ai Aj).2.1, (mrd_s n ln (mrd_c Ai ln) a e0 Ai Aj).2.2) := by
  obtain ⟨hag, ⟨-, -, -, h1, h2, h3, h4⟩ | ⟨hx, _⟩⟩ := h
  case inr => exact absurd he0 hx
  have hfl : ∀ w, p_fl e0 w = w := fun w => if_pos (by rw [he0]; exact m1_neg)
  have bad : tR k0 A0 J0 ((a, nI a), m, D) ((a + 1, p_fl e0 (nI a)), (k, ln), Ai, Aj) := ⟨hag, Or.inr ⟨nI_nm (by omega), by rw [hfl]; exact nI_pos (by omega), hfl _⟩⟩
  by_cases hm : m = 0
  · rw [if_pos hm] at h3
    subst h3
    unfold tp_i
    dsimp only
    rw [if_pos he0, if_neg (fun e => tx_ne hS (by decide) e.1), if_neg (fun e => e.2.1 hm)]
    exact bad
  · rw [if_neg hm] at h3
    subst h3
    obtain ⟨m, rfl⟩ : ∃ m', m = m' + 1 := ⟨m - 1, by omega⟩
    have hk1 : k - 1 = k0 + m := by omega
    rw [hk1] at bad ⊢
    have hd := h4 m (by omega)
    rcases hDm : D m with ⟨wd, c, f1, f2, f3⟩
    rw [hDm] at hd
    obtain ⟨d1, d2, d3, d4⟩ := hd
    have hc : mrd_c Ai (some (k0 + m)) = c := by
      show (Ai 3 (k0 + m)).toNatClampNeg = c
      rw [d3]; exact ni_cl (by omega)
    rw [hc]
    obtain ⟨lo, hlo⟩ : ∃ lo, lo = cl_ll (wd, c, f1, f2, f3) := ⟨_, rfl⟩
    obtain ⟨LV, hLV⟩ : ∃ LV, Aj 6 (12 * (k0 + m) + c - 1) = LV := ⟨_, rfl⟩
    have hlo0 : 0 ≤ lo.toInt := by
      by_cases h0 : c = 0
      · have e0 : lo = 0 := by rw [hlo]; unfold cl_ll; exact if_pos h0
        rw [e0]; decide
      · have e0 : lo = f3 (c - 1) := by rw [hlo]; unfold cl_ll; exact if_neg h0
        rw [e0]
        exact (d4 (c - 1) (by omega)).2.2.2.2.1
    have hlv : ∀ x : Int32, 0 ≤ x.toInt → ((0 < c ∧ x.toInt64 < LV) ↔ x < lo) := fun x hx0 => by
      by_cases h0 : c = 0
      · have e0 : lo = 0 := by rw [hlo]; unfold cl_ll; exact if_pos h0
        constructor
        · rintro ⟨h5, _⟩; omega
        · intro h5; rw [e0, i3_lt, show (0 : Int32).toInt = 0 from rfl] at h5; omega
      · have e0 : lo = f3 (c - 1) := by rw [hlo]; unfold cl_ll; exact if_neg h0
        have e1 := (d4 (c - 1) (by omega)).2.2.2.1
        rw [i6_lt, i3_lt, Int32.toInt_toInt64, ← hLV, show 12 * (k0 + m) + c - 1 = 12 * (k0 + m) + (c - 1) by omega, ← e1, e0]
        exact ⟨fun h => h.2, fun h => ⟨by omega, h⟩⟩
    by_cases hc12 : c = 12
    · unfold tp_i mrd_s
      dsimp only
      rw [if_pos he0, if_neg (fun e => tx_ne hS (by decide) e.1), if_pos hc12, if_neg (fun e => by have := e.2.2; rw [show m + 1 - 1 = m from rfl, hDm] at this; dsimp only at this; omega)]
      exact bad
    · have hcl : c < 12 := by omega
      have ei : tp_i n f (40 - k0) ((a, e0), m + 1, D) = tp_S n f ((a + 1, e0), m + 1, D) := by
        unfold tp_i
        dsimp only
        rw [if_pos he0, if_neg (fun e => tx_ne hS (by decide) e.1), if_pos ⟨hS, by omega, by rw [show m + 1 - 1 = m from rfl, hDm]; exact hcl⟩]
      have es : tp_S n f ((a + 1, e0), m + 1, D) = ((tp_5 n f lo (a + 1, e0)).1, m + 1, if (tp_5 n f lo (a + 1, e0)).1.2 = -1 then clU D m (cl_st (tp_1 n f (a + 1, e0)).2 (tp_3 n f lo (a + 1, e0)).2 (tp_5 n f lo (a + 1, e0)).2 (wd, c, f1, f2, f3)) else D) := by
        unfold tp_S
        dsimp only
        rw [show m + 1 - 1 = m from rfl, hDm, ← hlo]
      have em : mrd_s n (some (k0 + m)) c a e0 Ai Aj = if s_5f n f c LV a e0 < 0 then (((s_5 n f c LV a e0).1.1, s_5f n f c LV a e0), mo_as Ai (k0 + m) c (s_1 n f a e0).2, mo_aj Aj (k0 + m) c (s_3 n f a e0).2.toInt64 (s_5 n f c LV a e0).2.toInt64) else (((s_5 n f c LV a e0).1.1, s_5f n f c LV a e0), Ai, Aj) := by
        unfold mrd_s
        dsimp only
        rw [if_neg hc12]
        unfold mrd_t
        rw [h28, hLV]
      rw [ei, es, em]
      have hT1 : tp_1 n f (a + 1, e0) = tx_nu n f 0 99 (a + 1, e0) := by unfold tp_1; rfl
      have hU1 : s_1 n f a e0 = p_nu n f 99 (a + 1, e0) := by unfold s_1; rfl
      have hT3 : tp_3 n f lo (a + 1, e0) = tx_nu n f lo 259200 (tx_sg n f 32 (tp_1 n f (a + 1, e0)).1) := by unfold tp_3; rfl
      have hU3 : s_3 n f a e0 = p_nu n f 259200 (p_bl n f (s_1 n f a e0).1) := by unfold s_3 s_2; rfl
      have hF3 : s_3f n f c LV a e0 = if 0 < c ∧ (s_3 n f a e0).2.toInt64 < LV then p_fl (s_3 n f a e0).1.2 (nI (p_bl n f (s_1 n f a e0).1).1) else (s_3 n f a e0).1.2 := by unfold s_3f s_2; rfl
      have hT5 : tp_5 n f lo (a + 1, e0) = tx_nu n f (tp_3 n f lo (a + 1, e0)).2 259200 (tx_sg n f 32 (tp_3 n f lo (a + 1, e0)).1) := by unfold tp_5; rfl
      have hU5 : s_5 n f c LV a e0 = p_nu n f 259200 (p_bl n f ((s_3 n f a e0).1.1, s_3f n f c LV a e0)) := by unfold s_5 s_4; rfl
      have hF5 : s_5f n f c LV a e0 = if (s_5 n f c LV a e0).2 < (s_3 n f a e0).2 then p_fl (s_5 n f c LV a e0).1.2 (nI (p_bl n f ((s_3 n f a e0).1.1, s_3f n f c LV a e0)).1) else (s_5 n f c LV a e0).1.2 := by unfold s_5f s_4; rfl
      generalize tp_5 n f lo (a + 1, e0) = T5 at *
      generalize tp_3 n f lo (a + 1, e0) = T3 at *
      generalize tp_1 n f (a + 1, e0) = T1 at *
      generalize s_5f n f c LV a e0 = F5 at *
      generalize s_5 n f c LV a e0 = U5 at *
      generalize s_3f n f c LV a e0 = F3 at *
      generalize s_3 n f a e0 = U3 at *
      generalize s_1 n f a e0 = U1 at *
      exact tR_S2 hag h1 h2 h4 hDm hcl (tS_1 he0 ha hlo0 hlv hT1 hU1 hT3 hU3 hF3 hT5 hU5 hF5)
end
section
variable {n k0 : Nat} {f : Nat → Int32} {A0 : Nat → Nat → Int32} {J0 : Nat → Nat → Int64}
theorem nu_mv {lo hi : Int32} {s : Nat × Int32} (h : s.1 ≤ n) : s.1 ≤ (tx_nu n f lo hi s).1.1 ∧ (tx_nu n f lo hi s).1.1 ≤ n := by
  obtain ⟨a, b⟩ := s
  unfold tx_nu
  dsimp only at h ⊢
  by_cases hb : b = -1
  · rw [if_pos hb]; exact tx_dg_le 6 a 0 h
  · rw [if_neg hb]; exact ⟨Nat.le_refl _, h⟩
theorem sg_mv {x : Int32} {s : Nat × Int32} (h : s.1 ≤ n) : s.1 ≤ (tx_sg n f x s).1 ∧ (tx_sg n f x s).1 ≤ n := by
  refine ⟨?_, tx_sg_le h⟩
  obtain ⟨a, b⟩ := s
  unfold tx_sg
  dsimp only
  by_cases hb : b = -1
  · rw [if_pos hb]
    by_cases hs : tx_st n f a x = true
    · rw [if_pos hs]; exact Nat.le_succ _
    · rw [if_neg hs]; exact Nat.le_refl _
  · rw [if_neg hb]; exact Nat.le_refl _
theorem tp5_mv {lo : Int32} {s : Nat × Int32} (h : s.1 ≤ n) : s.1 ≤ (tp_5 n f lo s).1.1 ∧ (tp_5 n f lo s).1.1 ≤ n := by
  unfold tp_5 tp_3 tp_1
  have h1 := nu_mv (f := f) (lo := 0) (hi := 99) h
  generalize tx_nu n f 0 99 s = t1 at *
  have h2 := sg_mv (f := f) (x := 32) h1.2
  generalize tx_sg n f 32 t1.1 = t2 at *
  have h3 := nu_mv (f := f) (lo := lo) (hi := 259200) h2.2
  generalize tx_nu n f lo 259200 t2 = t3 at *
  have h4 := sg_mv (f := f) (x := 32) h3.2
  generalize tx_sg n f 32 t3.1 = t4 at *
  have h5 := nu_mv (f := f) (lo := t3.2) (hi := 259200) h4.2
  generalize tx_nu n f t3.2 259200 t4 = t5 at *
  omega
/-- an item goes on, and not behind the end -/
theorem tpi_mv {room a m : Nat} {e0 : Int32} {D : Nat → cl_D} (h : a ≤ n) : (tp_i n f room ((a, e0), m, D)).1.1 ≤ n ∧ (e0 = -1 → a ≤ 1000 → (tp_i n f room ((a, e0), m, D)).1.2 = -1 → a + 1 ≤ (tp_i n f room ((a, e0), m, D)).1.1) := by
  unfold tp_i
  dsimp only
  by_cases hb : e0 = -1
  · rw [if_pos hb]
    by_cases h1 : tx_st n f a 76 = true ∧ m < room
    · rw [if_pos h1]
      have ha := tx_st_lt h1.1
      have := nu_mv (f := f) (lo := 0) (hi := 127) (s := (a + 1, e0)) (n := n) ha
      unfold tp_L
      dsimp only at this ⊢
      exact ⟨this.2, fun _ _ _ => this.1⟩
    · rw [if_neg h1]
      by_cases h2 : tx_st n f a 83 = true ∧ m ≠ 0 ∧ (D (m - 1)).2.1 < 12
      · rw [if_pos h2]
        have ha := tx_st_lt h2.1
        have := tp5_mv (f := f) (lo := cl_ll (D (m - 1))) (s := (a + 1, e0)) (n := n) ha
        unfold tp_S
        dsimp only at this ⊢
        exact ⟨this.2, fun _ _ _ => this.1⟩
      · rw [if_neg h2]
        exact ⟨h, fun _ ha e => absurd e (nI_nm (by omega))⟩
  · rw [if_neg hb]
    exact ⟨h, fun e => absurd e hb⟩
theorem tR_i {a m k : Nat} {D : Nat → cl_D} {ln : Option Nat} {Ai : Nat → Nat → Int32} {Aj : Nat → Nat → Int64} {e0 : Int32} (he0 : e0 = -1) (ha : a ≤ 1000) (hk0 : k0 ≤ 40) (h28 : Ai 28 = f) (h : tR k0 A0 J0 ((a, e0), m, D) ((a, e0), (k, ln), Ai, Aj)) : tR k0 A0 J0 (tp_i n f (40 - k0) ((a, e0), m, D)) (mrd_i n ((a, e0), (k, ln), Ai, Aj)) := by
  by_cases hL : tx_st n f a 76 = true
  · have e1 : mrd_i n ((a, e0), (k, ln), Ai, Aj) = mrd_L n ((a, e0), (k, ln), Ai, Aj) := by
      unfold mrd_i
      dsimp only
      rw [h28, if_pos ((lk_st (by decide)).mpr hL)]
    rw [e1]
    subst he0
    exact tR_L ha hk0 h28 h hL
  · by_cases hS : tx_st n f a 83 = true
    · have e1 : mrd_i n ((a, e0), (k, ln), Ai, Aj) = ((mrd_s n ln (mrd_c Ai ln) a e0 Ai Aj).1, (k, ln), (mrd_s n ln (mrd_c Ai ln) a e0 Ai Aj).2.1, (mrd_s n ln (mrd_c Ai ln) a e0 Ai Aj).2.2) := by
        unfold mrd_i
        dsimp only
        rw [h28, if_neg (fun e => hL ((lk_st (by decide)).mp e)), if_pos ((lk_st (by decide)).mpr hS)]
      rw [e1]
      exact tR_S he0 ha h28 h hS
    · have e1 : mrd_i n ((a, e0), (k, ln), Ai, Aj) = ((a, nI a), (k, ln), Ai, Aj) := by
        unfold mrd_i
        dsimp only
        rw [h28, if_neg (fun e => hL ((lk_st (by decide)).mp e)), if_neg (fun e => hS ((lk_st (by decide)).mp e)), show p_fl e0 (nI a) = nI a from if_pos (by rw [he0]; exact m1_neg)]
      have e2 : tp_i n f (40 - k0) ((a, e0), m, D) = ((a, nI a), m, D) := by
        unfold tp_i
        dsimp only
        rw [if_pos he0, if_neg (fun e => hL e.1), if_neg (fun e => hS e.1)]
      rw [e1, e2]
      exact ⟨h.1, Or.inr ⟨nI_nm (by omega), nI_pos (by omega), rfl⟩⟩
/-- a fault ends the class's loop -/
theorem tp_nf {room : Nat} : ∀ (k : Nat) (s : tp_T), s.1.2 ≠ -1 → tp_n n f room k s = s
  | 0, s, _ => rfl
  | k + 1, s, h => by unfold tp_n; rw [if_neg (fun e => h e.1)]
theorem tp_if {room : Nat} {s : tp_T} (h : s.1.2 ≠ -1) : tp_i n f room s = s := by
  obtain ⟨⟨a, e⟩, m, D⟩ := s
  unfold tp_i
  exact if_neg h
theorem tR_n (hn : n ≤ 500) (hk0 : k0 ≤ 40) (h28 : A0 28 = f) : ∀ (M a m k : Nat) (kf : Nat) (D : Nat → cl_D) (ln : Option Nat) (Ai : Nat → Nat → Int32) (Aj : Nat → Nat → Int64) (e0 : Int32), e0 = -1 → a ≤ n → n - a + 1 ≤ M → (∀ a1, a + 1 ≤ a1 → n - a1 ≤ kf) → tR k0 A0 J0 ((a, e0), m, D) ((a, e0), (k, ln), Ai, Aj) → tR k0 A0 J0 (tp_n n f (40 - k0) kf (tp_i n f (40 - k0) ((a, e0), m, D))) (mrd_n n f M ((a, e0), (k, ln), Ai, Aj))
  | 0, a, m, k, kf, D, ln, Ai, Aj, e0, _, _, hM, _, _ => by omega
  | M + 1, a, m, k, kf, D, ln, Ai, Aj, e0, he0, han, hM, hkf, h => by
    have h28' : Ai 28 = f := (h.1.1 28 (by decide)).trans h28
    have hi := tR_i (n := n) he0 (by omega) hk0 h28' h
    have hmv := tpi_mv (f := f) (room := 40 - k0) (m := m) (e0 := e0) (D := D) han
    unfold mrd_n
    generalize mrd_i n ((a, e0), (k, ln), Ai, Aj) = s1' at *
    generalize tp_i n f (40 - k0) ((a, e0), m, D) = s1 at *
    obtain ⟨⟨a1, e1⟩, m1, D1⟩ := s1
    obtain ⟨⟨a1', phi1⟩, ⟨k1, ln1⟩, Ai1, Aj1⟩ := s1'
    obtain ⟨hag, hc | hc⟩ := hi
    · obtain ⟨c1, c2, c3, c4, c5, c6, c7⟩ := hc
      subst c3
      have ha1 : a1 ≤ n := hmv.1
      have hpr : a + 1 ≤ a1 := hmv.2 he0 (by omega) c1
      dsimp only
      by_cases hlt : a1 < n
      · rw [if_pos ⟨by rw [c2]; exact m1_neg, hlt⟩]
        have hk := hkf a1 hpr
        obtain ⟨kf, rfl⟩ : ∃ kf', kf = kf' + 1 := ⟨kf - 1, by omega⟩
        unfold tp_n
        rw [if_pos ⟨c1, hlt⟩]
        dsimp only
        by_cases hs : tx_st n f a1 59 = true
        · rw [if_pos ((lk_st (by decide)).mpr hs)]
          have e59 : tx_sg n f 59 (a1, e1) = (a1 + 1, e1) := by
            unfold tx_sg
            dsimp only
            rw [if_pos c1, if_pos hs]
          rw [e59]
          obtain rfl : phi1 = e1 := c2.trans c1.symm
          exact tR_n hn hk0 h28 M (a1 + 1) m1 k1 kf D1 ln1 Ai1 Aj1 phi1 c1 (by omega) (by omega) (fun x hx => by omega) ⟨hag, Or.inl ⟨c1, c2, rfl, c4, c5, c6, c7⟩⟩
        · rw [if_neg (fun e => hs ((lk_st (by decide)).mp e))]
          have e59 : tx_sg n f 59 (a1, e1) = (a1, nI a1) := by
            unfold tx_sg
            dsimp only
            rw [if_pos c1, if_neg hs]
          rw [e59, tp_if (nI_nm (by omega)), tp_nf _ _ (nI_nm (by omega)), show p_fl phi1 (nI a1) = nI a1 from if_pos (by rw [c2]; exact m1_neg)]
          exact ⟨hag, Or.inr ⟨nI_nm (by omega), nI_pos (by omega), rfl⟩⟩
      · rw [if_neg (fun e => hlt e.2)]
        have e0' : ∀ kf, tp_n n f (40 - k0) kf ((a1, e1), m1, D1) = ((a1, e1), m1, D1) := fun kf => by
          cases kf with
          | zero => rfl
          | succ kf => unfold tp_n; rw [if_neg (fun e => hlt e.2)]
        rw [e0']
        exact ⟨hag, Or.inl ⟨c1, c2, rfl, c4, c5, c6, c7⟩⟩
    · obtain ⟨c1, c2, c3⟩ := hc
      rw [tp_nf _ _ c1]
      dsimp only
      rw [if_neg (fun e => c2 e.1)]
      exact ⟨hag, Or.inr ⟨c1, c2, c3⟩⟩
/-- the text read by both -/
theorem tR_0 (hn : n ≤ 500) (hk0 : k0 ≤ 40) (h28 : A0 28 = f) (D : Nat → cl_D) : tR k0 A0 J0 (tp_0 n f (40 - k0) D) (mrd_0 n k0 A0 J0) := by
  have h0 : ∀ e0 : Int32, e0 = -1 → tR k0 A0 J0 ((0, e0), 0, D) ((0, e0), (k0, none), A0, J0) := fun e0 he0 => ⟨⟨fun _ _ => rfl, fun _ _ => rfl, fun l _ => ⟨rfl, rfl, fun j _ => ⟨rfl, rfl, rfl⟩⟩⟩, Or.inl ⟨he0, he0, rfl, rfl, hk0, rfl, fun i hi => by omega⟩⟩
  unfold tp_0 mrd_0
  by_cases hz : n = 0
  · rw [if_pos hz, if_neg (by omega)]
    exact h0 (-1) rfl
  · rw [if_neg hz, if_pos (by omega), h28]
    generalize he0 : (-1 : Int32) = e0
    exact tR_n hn hk0 h28 (n + 1) 0 0 k0 (n - 1) D none A0 J0 e0 he0.symm (Nat.zero_le _) (by omega) (fun x hx => by omega) (h0 e0 he0.symm)
end
