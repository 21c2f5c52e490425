/-! the class's times and the reference's -/
def wlE (d : Int32) (j : Nat) : List (Int32 × Int32 × Int32) → Int
  | [] => 0
  | (st, b, d2) :: l => (if d2 = d ∧ st = nI j then b.toInt else 0) + wlE d j l
def wlI (d : Int32) (s : Nat) : List (Int32 × Int32 × Int32) → Int
  | [] => 0
  | (st, b, d2) :: l => (if d2 = d ∧ st ≤ nI s then b.toInt else 0) + wlI d s l
def wlB (l : List (Int32 × Int32 × Int32)) : Prop := ∀ q ∈ l, (∃ k, k < 12 ∧ q.1 = nI k) ∧ 0 ≤ q.2.1.toInt ∧ q.2.1.toInt ≤ 100000
theorem wlB_t {q : Int32 × Int32 × Int32} {l : List (Int32 × Int32 × Int32)} (h : wlB (q :: l)) : wlB l := fun x hx => h x (List.mem_cons_of_mem _ hx)
theorem wlE_bd {d : Int32} {j : Nat} : ∀ l, wlB l → 0 ≤ wlE d j l ∧ wlE d j l ≤ 100000 * l.length
  | [], _ => ⟨Int.le_refl _, Int.le_refl _⟩
  | (st, b, d2) :: l, h => by
    have ih := wlE_bd (d := d) (j := j) l (wlB_t h)
    have hb : 0 ≤ b.toInt ∧ b.toInt ≤ 100000 := (h (st, b, d2) List.mem_cons_self).2
    unfold wlE
    rw [List.length_cons]
    split <;> omega
theorem wlI_bd {d : Int32} {j : Nat} : ∀ l, wlB l → 0 ≤ wlI d j l ∧ wlI d j l ≤ 100000 * l.length
  | [], _ => ⟨Int.le_refl _, Int.le_refl _⟩
  | (st, b, d2) :: l, h => by
    have ih := wlI_bd (d := d) (j := j) l (wlB_t h)
    have hb : 0 ≤ b.toInt ∧ b.toInt ≤ 100000 := (h (st, b, d2) List.mem_cons_self).2
    unfold wlI
    rw [List.length_cons]
    split <;> omega
theorem wlI_s {d : Int32} {s : Nat} (hs : s < 12) : ∀ l, wlB l → wlI d (s + 1) l = wlI d s l + wlE d (s + 1) l
  | [], _ => rfl
  | (st, b, d2) :: l, h => by
    obtain ⟨k, hk, hst⟩ := (h (st, b, d2) List.mem_cons_self).1
    dsimp only at hst
    subst hst
    unfold wlI wlE
    rw [wlI_s hs l (wlB_t h)]
    have e1 : nI k ≤ nI (s + 1) ↔ k ≤ s + 1 := ni_le (by omega) (by omega)
    have e2 : nI k ≤ nI s ↔ k ≤ s := ni_le (by omega) (by omega)
    by_cases hd : d2 = d
    · by_cases h1 : k ≤ s
      · rw [if_pos ⟨hd, e1.mpr (by omega)⟩, if_pos ⟨hd, e2.mpr h1⟩, if_neg (fun e => by have := ni_inj (by omega) (by omega) e.2; omega)]; omega
      · by_cases h2 : k = s + 1
        · rw [if_pos ⟨hd, e1.mpr (by omega)⟩, if_neg (fun e => h1 (e2.mp e.2)), if_pos ⟨hd, by rw [h2]⟩]; omega
        · rw [if_neg (fun e => by have := e1.mp e.2; omega), if_neg (fun e => h1 (e2.mp e.2)), if_neg (fun e => by have := ni_inj (by omega) (by omega) e.2; omega)]; omega
    · rw [if_neg (fun e => hd e.1), if_neg (fun e => hd e.1), if_neg (fun e => hd e.1)]; omega
theorem wlI_0 {d : Int32} : ∀ l, wlB l → wlI d 0 l = wlE d 0 l
  | [], _ => rfl
  | (st, b, d2) :: l, h => by
    obtain ⟨k, hk, hst⟩ := (h (st, b, d2) List.mem_cons_self).1
    dsimp only at hst
    subst hst
    unfold wlI wlE
    rw [wlI_0 l (wlB_t h)]
    have e1 : nI k ≤ nI 0 ↔ k ≤ 0 := ni_le (by omega) (by omega)
    have : (d2 = d ∧ nI k ≤ nI 0) ↔ (d2 = d ∧ nI k = nI 0) := by
      constructor
      · rintro ⟨h1, h2⟩; exact ⟨h1, by rw [show k = 0 by have := e1.mp h2; omega]⟩
      · rintro ⟨h1, h2⟩; exact ⟨h1, by rw [h2]; exact Int32.le_refl _⟩
    by_cases hq : d2 = d ∧ nI k ≤ nI 0
    · rw [if_pos hq, if_pos (this.mp hq)]
    · rw [if_neg hq, if_neg (fun e => hq (this.mpr e))]
theorem lt_accI {d : Int32} {j : Nat} : ∀ (l : List (Int32 × Int32 × Int32)) (x : Int32), wlB l → 0 ≤ x.toInt → x.toInt + 100000 * l.length ≤ 2000000000 → (lt_acc d j l x).toInt = x.toInt + wlE d j l
  | [], x, _, _, _ => (Int.add_zero _).symm
  | (st, b, d2) :: l, x, h, h0, hx => by
    have hb : 0 ≤ b.toInt ∧ b.toInt ≤ 100000 := (h (st, b, d2) List.mem_cons_self).2
    rw [List.length_cons] at hx
    have hxb : (x + b).toInt = x.toInt + b.toInt := i3_add (by omega) (by omega)
    unfold lt_acc wlE
    by_cases hq : d2 = d ∧ st = nI j
    · rw [if_pos hq, if_pos hq, lt_accI l _ (wlB_t h) (by omega) (by omega), hxb]; omega
    · rw [if_neg hq, if_neg hq, lt_accI l _ (wlB_t h) h0 (by omega)]; omega
theorem wt_lI {d : Int32} {l : List (Int32 × Int32 × Int32)} (h : wlB l) (hl : l.length ≤ 100) : ∀ s, s < 12 → (wt_l d l (s + 1)).toInt = wlI d s l
  | 0, _ => by
    unfold wt_l
    rw [show wt_l d l 0 = 0 from rfl, show (0 : Int32) + lt_acc d 0 l 0 = lt_acc d 0 l 0 from Int32.zero_add _, lt_accI l 0 h (Int.le_refl _) (by rw [show (0 : Int32).toInt = 0 from rfl]; omega), wlI_0 l h]
    exact Int.zero_add _
  | s + 1, hs => by
    have ih := wt_lI (d := d) h hl s (by omega)
    have b1 := wlI_bd (d := d) (j := s) l h
    have b2 := wlE_bd (d := d) (j := s + 1) l h
    have ha : (lt_acc d (s + 1) l 0).toInt = wlE d (s + 1) l := by
      rw [lt_accI l 0 h (Int.le_refl _) (by rw [show (0 : Int32).toInt = 0 from rfl]; omega)]
      exact Int.zero_add _
    unfold wt_l
    rw [i3_add (by omega) (by omega), ih, ha, wlI_s (by omega) l h]
/-! the zone rows -/
def zDs : List (Int32 × Int32) → Prop := fun l => l.Pairwise (fun a b => b.1 < a.1)
theorem pl_minS {sec : Int32} : ∀ (l : List (Int32 × Int32)) (m0 : Int32), zDs l → (l = [] ∧ pl_min sec m0 l = m0) ∨ ∃ f, (f, pl_min sec m0 l) ∈ l ∧ ((f ≤ sec ∧ ∀ q ∈ l, q.1 ≤ sec → q.1 ≤ f) ∨ (sec < f ∧ ∀ q ∈ l, f ≤ q.1))
  | [], m0, _ => Or.inl ⟨rfl, rfl⟩
  | (f, m) :: l, m0, h => by
    right
    obtain ⟨h1, h2⟩ := List.pairwise_cons.mp h
    unfold pl_min
    by_cases hq : f ≤ sec
    · rw [if_pos hq]
      refine ⟨f, List.mem_cons_self, Or.inl ⟨hq, fun q hq2 _ => ?_⟩⟩
      rcases List.mem_cons.mp hq2 with rfl | hq2
      · exact Int32.le_refl _
      · have := h1 q hq2; rw [i3_lt] at this; rw [i3_le]; dsimp only at this; omega
    · rw [if_neg hq]
      have hq' : sec < f := by rw [i3_le] at hq; rw [i3_lt]; omega
      rcases pl_minS (sec := sec) l m h2 with ⟨rfl, h3⟩ | ⟨f2, h3, h4⟩
      · rw [h3]
        refine ⟨f, List.mem_cons_self, Or.inr ⟨hq', fun q hq2 => ?_⟩⟩
        rcases List.mem_cons.mp hq2 with rfl | hq2
        · exact Int32.le_refl _
        · exact absurd hq2 List.not_mem_nil
      · refine ⟨f2, List.mem_cons_of_mem _ h3, ?_⟩
        rcases h4 with ⟨h4, h5⟩ | ⟨h4, h5⟩
        · refine Or.inl ⟨h4, fun q hq2 hq3 => ?_⟩
          rcases List.mem_cons.mp hq2 with rfl | hq2
          · exact absurd hq3 hq
          · exact h5 q hq2 hq3
        · refine Or.inr ⟨h4, fun q hq2 => ?_⟩
          rcases List.mem_cons.mp hq2 with rfl | hq2
          · have := h1 _ h3; rw [i3_lt] at this; rw [i3_le]; dsimp only at this ⊢; omega
          · exact h5 q hq2
theorem mm_kS {Z : Nat → Int32} {F : Nat → Int64} {p : Int32} {D : Int64} : ∀ n, (mm_k Z F p D n = none ∧ ∀ k, k < n → Z k ≠ p) ∨ ∃ j, mm_k Z F p D n = some j ∧ j < n ∧ Z j = p ∧ ((F j ≤ D ∧ ∀ k, k < n → Z k = p → F k ≤ D → F k ≤ F j) ∨ (D < F j ∧ ∀ k, k < n → Z k = p → F j ≤ F k))
  | 0 => Or.inl ⟨rfl, fun k h => by omega⟩
  | n + 1 => by
    unfold mm_k
    by_cases hq : Z n = p
    · rw [if_pos hq]
      right
      rcases mm_kS (Z := Z) (F := F) (p := p) (D := D) n with ⟨h1, h2⟩ | ⟨j, h1, h2, h3, h4⟩
      · rw [h1, if_pos (show mm_b F D n none = true from rfl)]
        refine ⟨n, rfl, by omega, hq, ?_⟩
        by_cases hD : F n ≤ D
        · refine Or.inl ⟨hD, fun k hk hkp _ => ?_⟩
          by_cases hkn : k = n
          · rw [hkn]; exact Int64.le_refl _
          · exact absurd hkp (h2 k (by omega))
        · refine Or.inr ⟨by rw [i6_le] at hD; rw [i6_lt]; omega, fun k hk hkp => ?_⟩
          by_cases hkn : k = n
          · rw [hkn]; exact Int64.le_refl _
          · exact absurd hkp (h2 k (by omega))
      · rw [h1]
        have hb : mm_b F D n (some j) = true ↔ (F n ≤ D ∧ (¬ F j ≤ D ∨ F j < F n)) ∨ (¬ F n ≤ D ∧ ¬ F j ≤ D ∧ F n < F j) := by
          unfold mm_b
          simp only [Bool.or_eq_true, Bool.and_eq_true, Bool.not_eq_true', decide_eq_true_eq, decide_eq_false_iff_not]
        simp only [i6_le, i6_lt] at hb h4 ⊢
        by_cases hx : mm_b F D n (some j) = true
        · rw [if_pos hx]
          refine ⟨n, rfl, by omega, hq, ?_⟩
          rcases hb.mp hx with ⟨g1, g2⟩ | ⟨g1, g2, g3⟩
          · refine Or.inl ⟨g1, fun k hk hkp hkD => ?_⟩
            by_cases hkn : k = n
            · rw [hkn]; exact Int.le_refl _
            · rcases h4 with ⟨h4, h5⟩ | ⟨h4, h5⟩
              · have := h5 k (by omega) hkp hkD; omega
              · have := h5 k (by omega) hkp; omega
          · refine Or.inr ⟨by omega, fun k hk hkp => ?_⟩
            by_cases hkn : k = n
            · rw [hkn]; exact Int.le_refl _
            · rcases h4 with ⟨h4, h5⟩ | ⟨h4, h5⟩
              · omega
              · have := h5 k (by omega) hkp; omega
        · rw [if_neg hx]
          refine ⟨j, rfl, by omega, h3, ?_⟩
          have hx2 := fun e => hx (hb.mpr e)
          rcases h4 with ⟨h4, h5⟩ | ⟨h4, h5⟩
          · refine Or.inl ⟨h4, fun k hk hkp hkD => ?_⟩
            by_cases hkn : k = n
            · subst hkn
              refine Int.not_lt.mp fun e => hx2 (Or.inl ⟨hkD, Or.inr e⟩)
            · exact h5 k (by omega) hkp hkD
          · refine Or.inr ⟨h4, fun k hk hkp => ?_⟩
            by_cases hkn : k = n
            · subst hkn
              refine Int.not_lt.mp fun e => ?_
              by_cases hkD : (F k).toInt ≤ D.toInt
              · exact hx2 (Or.inl ⟨hkD, Or.inl (by omega)⟩)
              · exact hx2 (Or.inr ⟨hkD, by omega, e⟩)
            · exact h5 k (by omega) hkp
    · rw [if_neg hq]
      rcases mm_kS (Z := Z) (F := F) (p := p) (D := D) n with ⟨h1, h2⟩ | ⟨j, h1, h2, h3, h4⟩
      · refine Or.inl ⟨h1, fun k hk => ?_⟩
        by_cases hkn : k = n
        · rw [hkn]; exact hq
        · exact h2 k (by omega)
      · refine Or.inr ⟨j, h1, by omega, h3, ?_⟩
        rcases h4 with ⟨h4, h5⟩ | ⟨h4, h5⟩
        · refine Or.inl ⟨h4, fun k hk hkp hkD => ?_⟩
          by_cases hkn : k = n
          · exact absurd (hkn ▸ hkp) hq
          · exact h5 k (by omega) hkp hkD
        · refine Or.inr ⟨h4, fun k hk hkp => ?_⟩
          by_cases hkn : k = n
          · exact absurd (hkn ▸ hkp) hq
          · exact h5 k (by omega) hkp
/-- a place's zone rows: the class's list and the reference's rows -/
def cpZ (Ai : Nat → Nat → Int32) (Aj : Nat → Nat → Int64) (nz p : Nat) (l : List (Int32 × Int32)) : Prop := zDs l ∧ (∀ q ∈ l, 0 ≤ q.1.toInt ∧ -900 ≤ q.2.toInt ∧ q.2.toInt ≤ 900) ∧ (∀ k, k < nz → Ai 12 k = nI p → ∃ f, (f, Ai 14 k) ∈ l ∧ f.toInt = (Aj 13 k).toInt) ∧ ∀ q ∈ l, ∃ k, k < nz ∧ Ai 12 k = nI p ∧ (Aj 13 k).toInt = q.1.toInt ∧ Ai 14 k = q.2
theorem zDs_un {l : List (Int32 × Int32)} (h : zDs l) {a b : Int32 × Int32} (ha : a ∈ l) (hb : b ∈ l) (hab : a.1 = b.1) : a = b := by
  induction l with
  | nil => exact absurd ha List.not_mem_nil
  | cons x l ih =>
    obtain ⟨h1, h2⟩ := List.pairwise_cons.mp h
    have irr : ∀ y : Int32, ¬ y < y := fun y e => by rw [i3_lt] at e; omega
    rcases List.mem_cons.mp ha with e1 | ha' <;> rcases List.mem_cons.mp hb with e2 | hb'
    · rw [e1, e2]
    · have := h1 b hb'; rw [← e1, hab] at this; exact absurd this (irr _)
    · have := h1 a ha'; rw [← e2, hab] at this; exact absurd this (irr _)
    · exact ih h2 ha' hb'
theorem cpZ_min {Ai : Nat → Nat → Int32} {Aj : Nat → Nat → Int64} {nz p : Nat} {l : List (Int32 × Int32)} (h : cpZ Ai Aj nz p l) {sec : Int32} {D : Int64} (hD : sec.toInt = D.toInt) : pl_min sec 0 l = mm_v (Ai 14) (mm_k (Ai 12) (Aj 13) (nI p) D nz) := by
  obtain ⟨h1, h2, h3, h4⟩ := h
  rcases mm_kS (Z := Ai 12) (F := Aj 13) (p := nI p) (D := D) nz with ⟨g1, g2⟩ | ⟨j, g1, g2, g3, g4⟩
  · rw [g1]
    rcases pl_minS (sec := sec) l 0 h1 with ⟨_, h5⟩ | ⟨f, h5, _⟩
    · exact h5
    · obtain ⟨k, hk, hkp, _⟩ := h4 _ h5
      exact absurd hkp (g2 k hk)
  · rw [g1]
    show pl_min sec 0 l = Ai 14 j
    obtain ⟨f', hf', hfe⟩ := h3 j g2 g3
    rcases pl_minS (sec := sec) l 0 h1 with ⟨rfl, _⟩ | ⟨f, h5, h6⟩
    · exact absurd hf' List.not_mem_nil
    · obtain ⟨k, hk, hkp, hkf, hkm⟩ := h4 _ h5
      dsimp only at hkf hkm
      simp only [i3_le, i3_lt] at h6
      simp only [i6_le, i6_lt] at g4
      have hff : f = f' := by
        rw [i3_eq]
        rcases h6 with ⟨h6, h7⟩ | ⟨h6, h7⟩ <;> rcases g4 with ⟨g4, g5⟩ | ⟨g4, g5⟩
        · have a1 := h7 _ hf' (by dsimp only; omega)
          have a2 := g5 k hk hkp (by omega)
          dsimp only at a1
          omega
        · have a2 := g5 k hk hkp; omega
        · have a1 := h7 _ hf'; dsimp only at a1; omega
        · have a1 := h7 _ hf'
          have a2 := g5 k hk hkp
          dsimp only at a1
          omega
      have := zDs_un h1 h5 hf' hff
      exact congrArg Prod.snd this
theorem pl_min_bd {sec : Int32} {l : List (Int32 × Int32)} (h : ∀ q ∈ l, 0 ≤ q.1.toInt ∧ -900 ≤ q.2.toInt ∧ q.2.toInt ≤ 900) (hd : zDs l) : -900 ≤ (pl_min sec 0 l).toInt ∧ (pl_min sec 0 l).toInt ≤ 900 := by
  rcases pl_minS (sec := sec) l 0 hd with ⟨_, h5⟩ | ⟨f, h5, _⟩
  · rw [h5]; decide
  · exact (h _ h5).2
/-- a line: the class's and the reference's -/
def cpL (Ai : Nat → Nat → Int32) (Aj : Nat → Nat → Int64) (ne nw l c : Nat) (x : lr_T) : Prop := x.2.2.1.1 = Ai 2 l ∧ lr_n x = c ∧ (∀ k, k < c → (∃ p, p < 100 ∧ lr_f1 x k = nI p) ∧ lr_f1 x k = Ai 4 (12 * l + k) ∧ ((x.2.2.2.1.2.1 k).toInt = (Aj 5 (12 * l + k)).toInt ∧ 0 ≤ (x.2.2.2.1.2.1 k).toInt ∧ (x.2.2.2.1.2.1 k).toInt ≤ 259200) ∧ (x.2.2.2.1.2.2 k).toInt = (Aj 6 (12 * l + k)).toInt ∧ 0 ≤ (x.2.2.2.1.2.2 k).toInt ∧ (x.2.2.2.1.2.2 k).toInt ≤ 259200) ∧ (∀ d, d ≤ 20000 → dw_get x.2.2.2.2.1 (nI d) = (fs_s (mr_p Ai Aj (nI l) (lN d)) 0 ne).map (Ai 10)) ∧ wlB x.2.2.2.2.2 ∧ x.2.2.2.2.2.length ≤ nw ∧ ∀ d s, d ≤ 20000 → s < 12 → wlI (nI d) s x.2.2.2.2.2 = (ml_k Ai Aj (nI l) (nI s) (lN d) nw).toInt
/-- the class's state and the reference's -/
def cpD (L : Nat → lr_T) (nl : Nat) (Z : Nat → List (Int32 × Int32)) (C : Nat → Int32) (Ai : Nat → Nat → Int32) (Aj : Nat → Nat → Int64) (ne nz nw : Nat) (cn : Nat → Nat) : Prop := (∀ l, l < nl → cpL Ai Aj ne nw l (cn l) (L l)) ∧ (∀ p, p < 100 → cpZ Ai Aj nz p (Z p)) ∧ ∀ p, p < 100 → C p = Ai 20 p ∧ 0 ≤ (C p).toInt ∧ (C p).toInt ≤ 100000
section
variable {Ai : Nat → Nat → Int32} {Aj : Nat → Nat → Int64} {ne nz nw : Nat} {T : Nat}
theorem cp_day (hT : T ≤ 1700000000) {r : Nat} (hr : r < 13) : (nI T / 86400 - 3 + nI r < 0 ∧ dy T r < 0) ∨ ∃ d, d ≤ 19700 ∧ nI T / 86400 - 3 + nI r = nI d ∧ dy T r = lN d := by
  have h1 : nI T / 86400 = nI (T / 86400) := by rw [show (86400 : Int32) = nI 86400 from rfl, pk_div (by omega) (by omega) (by omega)]
  have h2 : (nI T / 86400 - 3 + nI r).toInt = (T / 86400 : Nat) - 3 + r := by
    have e1 : (nI (T / 86400)).toInt = (T / 86400 : Nat) := nI_toInt (by omega)
    have e2 : (nI r).toInt = r := nI_toInt (by omega)
    have e3 : (3 : Int32).toInt = 3 := rfl
    have e4 : (nI (T / 86400) - 3).toInt = (T / 86400 : Nat) - 3 := by rw [i3_sub (by omega) (by omega), e1, e3]
    rw [h1, i3_add (by omega) (by omega), e4, e2]
  have h3 := dy_toInt (r := r) hT (by omega)
  by_cases hlt : (T / 86400 : Nat) + r < 3
  · left
    rw [i3_lt, i6_lt, h2, h3]
    exact ⟨by rw [show (0 : Int32).toInt = 0 from rfl]; omega, by rw [show (0 : Int64).toInt = 0 from rfl]; omega⟩
  · right
    refine ⟨T / 86400 + r - 3, by omega, ?_, ?_⟩
    · rw [i3_eq, h2, nI_toInt (by omega)]; omega
    · rw [i6_eq, h3, lN_toInt (by omega)]; omega
theorem cp_run {l c : Nat} {x : lr_T} (hT : T ≤ 1700000000) (h : cpL Ai Aj ne nw l c x) {r : Nat} (hr : r < 13) : lr_run x (nI T / 86400 - 3) r = mr_run Ai Aj ne l (dy T r) := by
  obtain ⟨h1, h2, h3, h4, h5, h6, h7⟩ := h
  unfold lr_run dw_run mr_run
  rcases cp_day hT hr with ⟨e1, e2⟩ | ⟨d, hd, e1, e2⟩
  · rw [if_pos e1, if_pos e2]
  · rw [e1, e2, if_neg (nI_pos (by omega)), if_neg (show ¬ lN d < 0 by rw [show (0 : Int64) = lN 0 from rfl, lN_lt (by omega) (by omega)]; omega), h4 d (by omega)]
    rcases fs_s (mr_p Ai Aj (nI l) (lN d)) 0 ne with _ | k
    · dsimp only [Option.map]
      have e3 : (nI d - nI d / 7 * 7) = nI (d % 7) := by rw [show (7 : Int32) = nI 7 from rfl]; exact pk_rem (by omega) (by omega) (by omega)
      have e4 : (lN d - lN d / 7 * 7) = lN (d % 7) := by rw [show (7 : Int64) = lN 7 from rfl]; exact pk_lRem (by omega) (by omega) (by omega)
      rw [e3, e4, lN_i, h1]
    · rfl
theorem cp_t {l c : Nat} {x : lr_T} {Z : Nat → List (Int32 × Int32)} (hT : T ≤ 1700000000) (hnw : nw ≤ 100) (h : cpL Ai Aj ne nw l c x) (hZ : ∀ p, p < 100 → cpZ Ai Aj nz p (Z p)) (hc : c ≤ 12) {r : Nat} (hr : r < 13) (hrun : mr_run Ai Aj ne l (dy T r) = 1) {k : Nat} (hk : k < c) : ((lr_A x (nI T / 86400 - 3) Z r k).toInt = (mA Ai Aj nz nw T l r k).toInt ∧ (lr_A x (nI T / 86400 - 3) Z r k).toInt ≤ 2000000000) ∧ (lr_B x (nI T / 86400 - 3) Z r k).toInt = (mB Ai Aj nz nw T l r k).toInt ∧ (lr_B x (nI T / 86400 - 3) Z r k).toInt ≤ 2000000000 := by
  obtain ⟨h1, h2, h3, h4, h5, h6, h7⟩ := h
  obtain ⟨⟨p, hp, hf⟩, h8, ⟨a1, a2, a3⟩, b1, b2, b3⟩ := h3 k hk
  rcases cp_day hT hr with ⟨e1, e2⟩ | ⟨d, hd, e1, e2⟩
  · unfold mr_run at hrun
    rw [if_pos e2] at hrun
    exact absurd hrun (by decide)
  have hdT : (nI d).toInt = d := nI_toInt (by omega)
  have hdL : (lN d).toInt = d := lN_toInt (by omega)
  have s1 : ((86400 : Int32) * nI d).toInt = 86400 * d := by
    rw [i3_mul (by rw [hdT, show (86400 : Int32).toInt = 86400 from rfl]; omega) (by rw [hdT, show (86400 : Int32).toInt = 86400 from rfl]; omega), hdT]; rfl
  have s2 : ((86400 : Int64) * lN d).toInt = 86400 * d := by
    rw [i6_mul (by rw [hdL, show (86400 : Int64).toInt = 86400 from rfl]; omega) (by rw [hdL, show (86400 : Int64).toInt = 86400 from rfl]; omega), hdL]; rfl
  have hcl : (lr_f1 x k).toNatClampNeg = p := by rw [hf]; exact ni_cl (by omega)
  have hm := cpZ_min (hZ p hp) (sec := 86400 * nI d) (D := 86400 * lN d) (s1.trans s2.symm)
  have hmb := pl_min_bd (sec := 86400 * nI d) (hZ p hp).2.1 (hZ p hp).1
  have hw := wt_lI (d := nI d) h5 (by omega) k (by omega)
  have hwb := wlI_bd (d := nI d) (j := k) x.2.2.2.2.2 h5
  have hml := h7 d k (by omega) (by omega)
  have hlen : (x.2.2.2.2.2.length : Int) ≤ 100 := by omega
  have m1 : ((60 : Int32) * pl_min (86400 * nI d) 0 (Z p)).toInt = 60 * (pl_min (86400 * nI d) 0 (Z p)).toInt := by
    rw [i3_mul (by rw [show (60 : Int32).toInt = 60 from rfl]; omega) (by rw [show (60 : Int32).toInt = 60 from rfl]; omega)]; rfl
  have m2 : ((60 : Int64) * (pl_min (86400 * nI d) 0 (Z p)).toInt64).toInt = 60 * (pl_min (86400 * nI d) 0 (Z p)).toInt := by
    rw [i6_mul (by rw [Int32.toInt_toInt64, show (60 : Int64).toInt = 60 from rfl]; omega) (by rw [Int32.toInt_toInt64, show (60 : Int64).toInt = 60 from rfl]; omega), Int32.toInt_toInt64]; rfl
  have w1 : ((86400 : Int32) * nI d - 60 * pl_min (86400 * nI d) 0 (Z p)).toInt = 86400 * d - 60 * (pl_min (86400 * nI d) 0 (Z p)).toInt := by
    rw [i3_sub (by omega) (by omega), s1, m1]
  have ws : (wt_s (nI d) x.2.2.2.2.2 x.2.2.2.1.1 Z k).toInt = 86400 * d - 60 * (pl_min (86400 * nI d) 0 (Z p)).toInt + wlI (nI d) k x.2.2.2.2.2 := by
    unfold wt_s
    rw [show (x.2.2.2.1.1 k).toNatClampNeg = p from hcl, i3_add (by omega) (by omega), w1, hw]
  have tA : ∀ y : Int64, 0 ≤ y.toInt → y.toInt ≤ 259200 → ((86400 : Int64) * lN d + y - 60 * (mm_v (Ai 14) (mm_k (Ai 12) (Aj 13) (Ai 4 (12 * l + k)) (86400 * lN d) nz)).toInt64 + ml_k Ai Aj (nI l) (nI k) (lN d) nw).toInt = 86400 * d + y.toInt - 60 * (pl_min (86400 * nI d) 0 (Z p)).toInt + wlI (nI d) k x.2.2.2.2.2 := fun y hy1 hy2 => by
    rw [← h8, hf, ← hm]
    have t1 : ((86400 : Int64) * lN d + y).toInt = 86400 * d + y.toInt := by rw [i6_add (by omega) (by omega), s2]
    have t2 : ((86400 : Int64) * lN d + y - 60 * (pl_min (86400 * nI d) 0 (Z p)).toInt64).toInt = 86400 * d + y.toInt - 60 * (pl_min (86400 * nI d) 0 (Z p)).toInt := by rw [i6_sub (by omega) (by omega), t1, m2]
    rw [i6_add (by omega) (by omega), t2, hml]
  constructor
  · have e5 : (lr_A x (nI T / 86400 - 3) Z r k).toInt = (x.2.2.2.1.2.1 k).toInt + (86400 * d - 60 * (pl_min (86400 * nI d) 0 (Z p)).toInt + wlI (nI d) k x.2.2.2.2.2) := by
      unfold lr_A
      rw [e1, i3_add (by omega) (by omega), ws]
    refine ⟨?_, by omega⟩
    rw [e5]
    unfold mA mt_t
    rw [e2, if_neg (by decide), tA _ (by omega) (by omega)]
    omega
  · have e5 : (lr_B x (nI T / 86400 - 3) Z r k).toInt = (x.2.2.2.1.2.2 k).toInt + (86400 * d - 60 * (pl_min (86400 * nI d) 0 (Z p)).toInt + wlI (nI d) k x.2.2.2.2.2) := by
      unfold lr_B
      rw [e1, i3_add (by omega) (by omega), ws]
    refine ⟨?_, by omega⟩
    rw [e5]
    unfold mB mt_t
    rw [e2, if_pos rfl, tA _ (by omega) (by omega)]
    omega
theorem cp_all {L : Nat → lr_T} {nl : Nat} {Z : Nat → List (Int32 × Int32)} {C : Nat → Int32} {cn : Nat → Nat} (hT : T ≤ 1700000000) (hnw : nw ≤ 100) (hcn : ∀ i, i < nl → cn i ≤ 12) (h : cpD L nl Z C Ai Aj ne nz nw cn) : qCp L nl (nI T / 86400 - 3) Z C Ai Aj ne nz nw cn T ∧ qX L nl (nI T / 86400 - 3) Z := by
  obtain ⟨h1, h2, h3⟩ := h
  refine ⟨⟨fun i hi => ?_, fun p hp => (h3 p hp).1⟩, fun i hi => ?_⟩
  · have hl := h1 i hi
    refine ⟨hl.2.1, fun k hk => (hl.2.2.1 k hk).2.1, fun r hr => ⟨by rw [cp_run hT hl hr], fun hrun k hk => ?_⟩⟩
    have := cp_t hT hnw hl h2 (hcn i hi) hr hrun hk
    exact ⟨this.1.1, this.2.1⟩
  · have hl := h1 i hi
    refine ⟨fun k hk => (hl.2.2.1 k (by rw [← hl.2.1]; exact hk)).1, fun r hr hrun k hk => ?_⟩
    rw [cp_run hT hl hr] at hrun
    have := cp_t hT hnw hl h2 (hcn i hi) hr hrun (k := k) (by rw [← hl.2.1]; exact hk)
    exact ⟨this.2.2, this.1.2⟩
end
