/-! next: the class's first few leavings against the reference's legs in their order -/
theorem mo_rng {a b : Nat → Int64} : ∀ (m k : Nat), mg_o a b k m = -1 ∨ mg_o a b k m = 0 ∨ mg_o a b k m = 1
  | 0, _ => Or.inr (Or.inl rfl)
  | m + 1, k => by
    unfold mg_o
    split
    · exact mo_rng m (k + 1)
    · split
      · exact Or.inl rfl
      · exact Or.inr (Or.inr rfl)
theorem i6_asym {x y : Int64} (h : x < y) : ¬ y < x := fun h' => by rw [i6_lt] at h h'; omega
theorem i6_tri {x y : Int64} (h : ¬ x < y) (h' : x ≠ y) : y < x := by
  rw [i6_lt] at *
  rw [ne_eq, i6_eq] at h'
  omega
theorem mo_sw {a b : Nat → Int64} : ∀ (m k : Nat), mg_o a b k m = -1 ↔ mg_o b a k m = 1
  | 0, _ => by unfold mg_o; decide
  | m + 1, k => by
    unfold mg_o
    by_cases h : a k = b k
    · rw [if_pos h, if_pos h.symm]; exact mo_sw m (k + 1)
    · rw [if_neg h, if_neg (show ¬ b k = a k from fun e => h e.symm)]
      by_cases h2 : a k < b k
      · rw [if_pos h2, if_neg (i6_asym h2)]; decide
      · rw [if_neg h2, if_pos (i6_tri h2 h)]; decide
theorem mo_eq {a b : Nat → Int64} : ∀ (m k : Nat), mg_o a b k m = 0 ↔ ∀ j, k ≤ j → j < k + m → a j = b j
  | 0, k => ⟨fun _ j h1 h2 => by omega, fun _ => rfl⟩
  | m + 1, k => by
    unfold mg_o
    by_cases h : a k = b k
    · rw [if_pos h, mo_eq m (k + 1)]
      constructor
      · intro h2 j h3 h4
        by_cases hj : j = k
        · rw [hj]; exact h
        · exact h2 j (by omega) (by omega)
      · intro h2 j h3 h4; exact h2 j (by omega) (by omega)
    · rw [if_neg h]
      constructor
      · intro h2; split at h2 <;> exact absurd h2 (by decide)
      · intro h2; exact absurd (h2 k (by omega) (by omega)) h
theorem mo_tr {a b c : Nat → Int64} : ∀ (m k : Nat), mg_o a b k m = -1 → mg_o b c k m = -1 → mg_o a c k m = -1
  | 0, _, h, _ => absurd h (by unfold mg_o; decide)
  | m + 1, k, h1, h2 => by
    unfold mg_o at h1 h2 ⊢
    by_cases e1 : a k = b k
    · rw [if_pos e1] at h1
      by_cases e2 : b k = c k
      · rw [if_pos e2] at h2
        rw [if_pos (e1.trans e2)]
        exact mo_tr m (k + 1) h1 h2
      · rw [if_neg e2] at h2
        rw [e1, if_neg e2]; exact h2
    · rw [if_neg e1] at h1
      by_cases h3 : a k < b k
      · by_cases e2 : b k = c k
        · rw [← e2, if_neg e1, if_pos h3]
        · rw [if_neg e2] at h2
          by_cases h4 : b k < c k
          · have h5 : a k < c k := by rw [i6_lt] at *; omega
            rw [if_neg (fun e => by rw [e] at h5; exact i6_asym h5 h5), if_pos h5]
          · rw [if_neg h4] at h2; exact absurd h2 (by decide)
      · rw [if_neg h3] at h1; exact absurd h1 (by decide)
abbrev vLt (a b : Nat → Int64) : Prop := mg_o a b 0 6 = -1
abbrev vEq (a b : Nat → Int64) : Prop := mg_o a b 0 6 = 0
theorem mo_neg {a b : Nat → Int64} : mg_o a b 0 6 < 0 ↔ vLt a b := by
  unfold vLt
  rcases mo_rng (a := a) (b := b) 6 0 with h | h | h <;> rw [h] <;> decide
theorem mo_pos {a b : Nat → Int64} : 0 < mg_o a b 0 6 ↔ vLt b a := by
  unfold vLt
  rw [mo_sw]
  rcases mo_rng (a := a) (b := b) 6 0 with h | h | h <;> rw [h] <;> decide
theorem v_tri (a b : Nat → Int64) : vLt a b ∨ vEq a b ∨ vLt b a := by
  unfold vLt vEq
  rw [mo_sw (a := b)]
  exact mo_rng 6 0
theorem v_rf (a : Nat → Int64) : vEq a a := (mo_eq 6 0).mpr fun _ _ _ => rfl
theorem v_ne {a b : Nat → Int64} (h : vLt a b) (h2 : vEq a b) : False := by unfold vLt vEq at *; rw [h] at h2; exact absurd h2 (by decide)
theorem v_as {a b : Nat → Int64} (h : vLt a b) (h2 : vLt b a) : False := v_ne (mo_tr 6 0 h h2) (v_rf a)
theorem v_el {a b c : Nat → Int64} (h : vEq a b) (h2 : vLt b c) : vLt a c := by
  unfold vLt
  rw [mg_oc 6 0 (a' := b) (b' := c) (fun j hj => ⟨(mo_eq 6 0).mp h j (by omega) hj, rfl⟩)]
  exact h2
theorem v_sy {a b : Nat → Int64} (h : vEq a b) : vEq b a := (mo_eq 6 0).mpr fun j h1 h2 => ((mo_eq 6 0).mp h j h1 h2).symm
theorem v_le {a b c : Nat → Int64} (h : vLt a b) (h2 : vEq b c) : vLt a c := by
  unfold vLt
  rw [mg_oc 6 0 (a' := a) (b' := b) (fun j hj => ⟨rfl, ((mo_eq 6 0).mp h2 j (by omega) hj).symm⟩)]
  exact h
/-- the least of a list behind tau -/
theorem mg_fold {tau : Nat → Int64} {first : Bool} : ∀ (l : List (Nat → Int64)) (s : Bool × (Nat → Int64)), (s.1 = true → (first = true ∨ vLt tau s.2)) → ((l.foldl (mg_st tau first) s).1 = false → s.1 = false ∧ ∀ y ∈ l, first = false ∧ ¬ vLt tau y) ∧ ((l.foldl (mg_st tau first) s).1 = true → (first = true ∨ vLt tau (l.foldl (mg_st tau first) s).2) ∧ ((l.foldl (mg_st tau first) s).2 ∈ l ∨ (s.1 = true ∧ (l.foldl (mg_st tau first) s).2 = s.2)) ∧ (∀ y ∈ l, (first = true ∨ vLt tau y) → ¬ vLt y (l.foldl (mg_st tau first) s).2) ∧ (s.1 = true → ¬ vLt s.2 (l.foldl (mg_st tau first) s).2))
  | [], s, hs => ⟨fun h => ⟨h, fun y hy => absurd hy List.not_mem_nil⟩, fun h => ⟨hs h, Or.inr ⟨h, rfl⟩, fun y hy => absurd hy List.not_mem_nil, fun _ h => v_as h h⟩⟩
  | p :: l, s, hs => by
    have hel : ∀ q, (first || decide (0 < mg_o q tau 0 6)) = true ↔ (first = true ∨ vLt tau q) := fun q => by
      rw [Bool.or_eq_true, decide_eq_true_iff, mo_pos]
    have hist : mg_is tau first s p = true ↔ (first = true ∨ vLt tau p) ∧ (s.1 = false ∨ vLt p s.2) := by
      unfold mg_is
      rw [Bool.and_eq_true, hel, Bool.or_eq_true, decide_eq_true_iff, mo_neg]
      cases s.1 <;> simp
    rw [List.foldl_cons]
    by_cases hq : mg_is tau first s p = true
    · have he : mg_st tau first s p = (true, p) := if_pos hq
      rw [he]
      obtain ⟨q1, q2⟩ := hist.mp hq
      obtain ⟨f1, f2⟩ := mg_fold l (true, p) (fun _ => q1)
      refine ⟨fun h => absurd (f1 h).1 Bool.noConfusion, fun h => ?_⟩
      obtain ⟨g1, g2, g3, g4⟩ := f2 h
      refine ⟨g1, Or.inl ?_, fun y hy hy2 => ?_, fun hs1 hlt => ?_⟩
      · rcases g2 with g2 | ⟨_, g2⟩
        · exact List.mem_cons_of_mem _ g2
        · rw [g2]; exact List.mem_cons_self
      · rcases List.mem_cons.mp hy with rfl | hy
        · exact g4 rfl
        · exact g3 y hy hy2
      · rcases q2 with q2 | q2
        · rw [q2] at hs1; cases hs1
        · exact g4 rfl (mo_tr 6 0 q2 hlt)
    · have he : mg_st tau first s p = s := if_neg hq
      rw [he]
      obtain ⟨f1, f2⟩ := mg_fold l s hs
      refine ⟨fun h => ?_, fun h => ?_⟩
      · obtain ⟨g1, g2⟩ := f1 h
        refine ⟨g1, fun y hy => ?_⟩
        rcases List.mem_cons.mp hy with rfl | hy
        · constructor
          · exact Bool.eq_false_iff.mpr fun e => hq (hist.mpr ⟨Or.inl e, Or.inl g1⟩)
          · exact fun e => hq (hist.mpr ⟨Or.inr e, Or.inl g1⟩)
        · exact g2 y hy
      · obtain ⟨g1, g2, g3, g4⟩ := f2 h
        refine ⟨g1, ?_, fun y hy hy2 => ?_, g4⟩
        · rcases g2 with g2 | g2
          · exact Or.inl (List.mem_cons_of_mem _ g2)
          · exact Or.inr g2
        · rcases List.mem_cons.mp hy with rfl | hy
          · intro hlt
            by_cases hs1 : s.1 = true
            · have hn : ¬ vLt y s.2 := fun e => hq (hist.mpr ⟨hy2, Or.inr e⟩)
              have hn2 := g4 hs1
              rcases v_tri y s.2 with h3 | h3 | h3
              · exact hn h3
              · exact hn2 (v_el (v_sy h3) hlt)
              · exact hn2 (mo_tr 6 0 h3 hlt)
            · exact hq (hist.mpr ⟨hy2, Or.inl (Bool.eq_false_iff.mpr hs1)⟩)
          · exact g3 y hy hy2
theorem cp_add {α : Type} {P Q R : α → Bool} : ∀ (l : List α), (∀ y ∈ l, (P y = true ↔ Q y = true ∨ R y = true) ∧ ¬ (Q y = true ∧ R y = true)) → l.countP P = l.countP Q + l.countP R
  | [], _ => rfl
  | y :: l, h => by
    rw [List.countP_cons, List.countP_cons, List.countP_cons, cp_add l (fun z hz => h z (List.mem_cons_of_mem _ hz))]
    obtain ⟨h1, h2⟩ := h y List.mem_cons_self
    by_cases hq : Q y = true
    · have hr : ¬ R y = true := fun e => h2 ⟨hq, e⟩
      rw [if_pos hq, if_neg hr, if_pos (h1.mpr (Or.inl hq))]; omega
    · by_cases hr : R y = true
      · rw [if_neg hq, if_pos hr, if_pos (h1.mpr (Or.inr hr))]; omega
      · rw [if_neg hq, if_neg hr, if_neg (fun e => by rcases h1.mp e with h | h; exact hq h; exact hr h)]; omega
def vDs (l : List (Nat → Int64)) : Prop := l.Pairwise (fun a b => ¬ vEq a b)
theorem cp_eq {x : Nat → Int64} : ∀ (l : List (Nat → Int64)), vDs l → x ∈ l → l.countP (fun y => decide (vEq y x)) = 1
  | [], _, h => absurd h List.not_mem_nil
  | y :: l, hd, hx => by
    rw [List.countP_cons]
    obtain ⟨h1, h2⟩ := List.pairwise_cons.mp hd
    rcases List.mem_cons.mp hx with rfl | hx
    · rw [if_pos (decide_eq_true (v_rf x)), List.countP_eq_zero.mpr (fun z hz => by
        rw [decide_eq_true_iff]; exact fun e => h1 z hz (v_sy e))]
    · rw [cp_eq l h2 hx, if_neg]
      rw [decide_eq_true_iff]; exact h1 x hx
abbrev vC (x : Nat → Int64) (l : List (Nat → Int64)) : Nat := l.countP (fun y => decide (vLt y x))
theorem vC_s {x x' : Nat → Int64} {l : List (Nat → Int64)} (hd : vDs l) (hx : x ∈ l) (hlt : vLt x x') (h : ∀ y ∈ l, vLt x y → ¬ vLt y x') : vC x' l = vC x l + 1 := by
  rw [← cp_eq l hd hx]
  refine cp_add l (fun y hy => ⟨?_, ?_⟩)
  · rw [decide_eq_true_iff, decide_eq_true_iff, decide_eq_true_iff]
    constructor
    · intro h2
      rcases v_tri y x with h3 | h3 | h3
      · exact Or.inl h3
      · exact Or.inr h3
      · exact absurd h2 (h y hy h3)
    · rintro (h2 | h2)
      · exact mo_tr 6 0 h2 hlt
      · exact v_el h2 hlt
  · rw [decide_eq_true_iff, decide_eq_true_iff]
    rintro ⟨h1, h2⟩; exact v_ne h1 h2
theorem vC_len {x : Nat → Int64} {l : List (Nat → Int64)} (hd : vDs l) (hx : x ∈ l) (h : ∀ y ∈ l, ¬ vLt x y) : l.length = vC x l + 1 := by
  rw [← cp_eq l hd hx, show l.length = l.countP (fun _ => true) from (congrFun List.countP_true l).symm]
  refine cp_add l (fun y hy => ⟨?_, ?_⟩)
  · rw [decide_eq_true_iff, decide_eq_true_iff]
    refine ⟨fun _ => ?_, fun _ => rfl⟩
    rcases v_tri y x with h3 | h3 | h3
    · exact Or.inl h3
    · exact Or.inr h3
    · exact absurd h3 (h y hy)
  · rw [decide_eq_true_iff, decide_eq_true_iff]
    rintro ⟨h1, h2⟩; exact v_ne h1 h2
theorem mn_cnt {l : List (Nat → Int64)} (hd : vDs l) {t0 b0 : Nat → Int64} : ∀ k, (mn_k (fun tau first b => l.foldl (mg_st tau first) (false, b)) t0 b0 k = none → l.length ≤ k) ∧ ∀ x, mn_k (fun tau first b => l.foldl (mg_st tau first) (false, b)) t0 b0 k = some x → x ∈ l ∧ vC x l = k
  | 0 => by
    unfold mn_k
    obtain ⟨f1, f2⟩ := mg_fold (tau := t0) (first := true) l (false, b0) (fun h => absurd h Bool.noConfusion)
    by_cases hq : (l.foldl (mg_st t0 true) (false, b0)).1 = true
    · rw [if_pos hq]
      refine ⟨fun h => (Option.noConfusion rfl (heq_of_eq h)), fun x hx => ?_⟩
      cases hx
      obtain ⟨g1, g2, g3, g4⟩ := f2 hq
      refine ⟨?_, List.countP_eq_zero.mpr fun y hy => ?_⟩
      · rcases g2 with g2 | ⟨g2, _⟩
        · exact g2
        · cases g2
      · rw [decide_eq_true_iff]; exact g3 y hy (Or.inl rfl)
    · rw [if_neg hq]
      refine ⟨fun _ => ?_, fun x hx => by cases hx⟩
      obtain ⟨_, g2⟩ := f1 (Bool.eq_false_iff.mpr hq)
      match l, g2 with
      | [], _ => exact Nat.le_refl _
      | y :: l, g2 => exact absurd (g2 y List.mem_cons_self).1 Bool.noConfusion
  | k + 1 => by
    obtain ⟨i1, i2⟩ := mn_cnt hd (t0 := t0) (b0 := b0) k
    unfold mn_k
    rcases hk : mn_k (fun tau first b => l.foldl (mg_st tau first) (false, b)) t0 b0 k with _ | tau
    · refine ⟨fun _ => ?_, fun x hx => by cases hx⟩
      have := i1 hk; omega
    · dsimp only
      obtain ⟨j1, j2⟩ := i2 tau hk
      obtain ⟨f1, f2⟩ := mg_fold (tau := tau) (first := false) l (false, tau) (fun h => absurd h Bool.noConfusion)
      by_cases hq : (l.foldl (mg_st tau false) (false, tau)).1 = true
      · rw [if_pos hq]
        refine ⟨fun h => (Option.noConfusion rfl (heq_of_eq h)), fun x hx => ?_⟩
        cases hx
        obtain ⟨g1, g2, g3, g4⟩ := f2 hq
        have hlt : vLt tau (l.foldl (mg_st tau false) (false, tau)).2 := by
          rcases g1 with g1 | g1
          · cases g1
          · exact g1
        refine ⟨?_, by rw [vC_s hd j1 hlt (fun y hy h => g3 y hy (Or.inr h)), j2]⟩
        rcases g2 with g2 | ⟨g2, _⟩
        · exact g2
        · cases g2
      · rw [if_neg hq]
        refine ⟨fun _ => ?_, fun x hx => by cases hx⟩
        obtain ⟨_, g2⟩ := f1 (Bool.eq_false_iff.mpr hq)
        rw [vC_len hd j1 (fun y hy => (g2 y hy).2), j2]
        exact Nat.le_refl _
theorem v_b {a b : Nat → Int64} : (vLt a b → (a 0).toInt ≤ (b 0).toInt) ∧ ((a 0).toInt < (b 0).toInt → vLt a b) := by
  unfold vLt mg_o
  by_cases h : a 0 = b 0
  · rw [if_pos h, h]; exact ⟨fun _ => Int.le_refl _, fun h => by omega⟩
  · rw [if_neg h]
    by_cases h2 : a 0 < b 0
    · rw [if_pos h2]
      have := i6_lt.mp h2
      exact ⟨fun _ => by omega, fun _ => rfl⟩
    · rw [if_neg h2]
      refine ⟨fun e => absurd e (by decide), fun e => absurd (i6_lt.mpr e) h2⟩
/-- how many of a list are at most v -/
def cB (v : Int) (l : List Int) : Nat := l.countP (fun y => decide (y ≤ v))
theorem cB_map {v : Int} {l : List (Nat → Int64)} : cB v (l.map (fun y => (y 0).toInt)) = l.countP (fun y => decide ((y 0).toInt ≤ v)) := by
  unfold cB; rw [List.countP_map]; rfl
theorem cp_mono {α : Type} {P Q : α → Bool} (l : List α) (h : ∀ y ∈ l, P y = true → Q y = true) : l.countP P ≤ l.countP Q := List.countP_mono_left h
theorem cB_k {l : List (Nat → Int64)} (hd : vDs l) {x : Nat → Int64} (hx : x ∈ l) : vC x l + 1 ≤ cB (x 0).toInt (l.map (fun y => (y 0).toInt)) ∧ cB ((x 0).toInt - 1) (l.map (fun y => (y 0).toInt)) ≤ vC x l := by
  rw [cB_map, cB_map]
  constructor
  · rw [← cp_eq l hd hx, ← cp_add (P := fun y => decide (vLt y x ∨ vEq y x)) l (fun y hy => ⟨by rw [decide_eq_true_iff, decide_eq_true_iff, decide_eq_true_iff], by rw [decide_eq_true_iff, decide_eq_true_iff]; rintro ⟨h1, h2⟩; exact v_ne h1 h2⟩)]
    refine cp_mono l (fun y hy h => ?_)
    rw [decide_eq_true_iff] at h ⊢
    rcases h with h | h
    · exact v_b.1 h
    · rw [(mo_eq 6 0).mp h 0 (by omega) (by omega)]; exact Int.le_refl _
  · refine cp_mono l (fun y hy h => ?_)
    rw [decide_eq_true_iff] at h ⊢
    exact v_b.2 (by omega)
/-- the k-th of a list: by counting -/
theorem cB_un {l : List Int} {k : Nat} {v v' : Int} (h1 : k + 1 ≤ cB v l) (h2 : cB (v - 1) l ≤ k) (h3 : k + 1 ≤ cB v' l) (h4 : cB (v' - 1) l ≤ k) : v = v' := by
  have key : ∀ a b : Int, a < b → cB a l ≤ cB (b - 1) l := fun a b hab => cp_mono l (fun y _ h => by
    rw [decide_eq_true_iff] at h ⊢; omega)
  rcases Int.lt_trichotomy v v' with h | h | h
  · have := key _ _ h; omega
  · exact h
  · have := key _ _ h; omega
def lv_c (f : Nat → Int32) (v : Int) : Nat → Nat
  | 0 => 0
  | c + 1 => lv_c f v c + if (f c).toInt ≤ v then 1 else 0
def lv_s (f : Nat → Int32) (c : Nat) : Prop := ∀ i j, i ≤ j → j < c → (f i).toInt ≤ (f j).toInt
theorem lv_cc {f f' : Nat → Int32} {v : Int} : ∀ c, (∀ j, j < c → f' j = f j) → lv_c f' v c = lv_c f v c
  | 0, _ => rfl
  | c + 1, h => by
    unfold lv_c
    rw [lv_cc c (fun j hj => h j (by omega)), h c (by omega)]
theorem lv_cl {f : Nat → Int32} {v : Int} : ∀ c, lv_c f v c ≤ c
  | 0 => Nat.le_refl _
  | c + 1 => by
    unfold lv_c
    have := lv_cl (f := f) (v := v) c
    split <;> omega
theorem lv_cf {f : Nat → Int32} {v : Int} : ∀ c, (∀ j, j < c → (f j).toInt ≤ v) → lv_c f v c = c
  | 0, _ => rfl
  | c + 1, h => by
    unfold lv_c
    rw [lv_cf c (fun j hj => h j (by omega)), if_pos (h c (by omega))]
theorem lv_inI {x : Int32} : ∀ (a : Nat) (f : Nat → Int32), lv_s f a → lv_s (lv_in x a f) (a + 1) ∧ (∀ v, lv_c (lv_in x a f) v (a + 1) = lv_c f v a + if x.toInt ≤ v then 1 else 0) ∧ (∀ j, a < j → lv_in x a f j = f j) ∧ ∀ M, x.toInt ≤ M → (∀ j, j < a → (f j).toInt ≤ M) → ∀ j, j ≤ a → (lv_in x a f j).toInt ≤ M
  | 0, f, _ => by
    unfold lv_in
    refine ⟨fun i j h1 h2 => ?_, fun v => ?_, fun j hj => pk_un (by omega), fun M hM _ j hj => ?_⟩
    · obtain rfl : j = 0 := by omega
      obtain rfl : i = 0 := by omega
      exact Int.le_refl _
    · unfold lv_c
      rw [pk_us]; rfl
    · obtain rfl : j = 0 := by omega
      rw [pk_us]; exact hM
  | a + 1, f, hs => by
    unfold lv_in
    by_cases hq : x < f a
    · rw [if_pos hq]
      have hq' := i3_lt.mp hq
      have hg : ∀ j, j ≤ a → upd f (a + 1) (f a) j = f j := fun j hj => pk_un (by omega)
      obtain ⟨h1, h2, h3, h4⟩ := lv_inI (x := x) a (upd f (a + 1) (f a)) (fun i j hi hj => by rw [hg i (by omega), hg j (by omega)]; exact hs i j hi (by omega))
      have ha1 : lv_in x a (upd f (a + 1) (f a)) (a + 1) = f a := by rw [h3 (a + 1) (by omega), pk_us]
      have hM := h4 (f a).toInt (by omega) (fun j hj => by rw [hg j (by omega)]; exact hs j a (by omega) (by omega))
      refine ⟨fun i j hi hj => ?_, fun v => ?_, fun j hj => ?_, fun M hxM hfM j hj => ?_⟩
      · by_cases hj2 : j = a + 1
        · subst hj2
          by_cases hi2 : i = a + 1
          · rw [hi2]; exact Int.le_refl _
          · rw [ha1]; exact hM i (by omega)
        · exact h1 i j hi (by omega)
      · rw [show lv_c (lv_in x a (upd f (a + 1) (f a))) v (a + 1 + 1) = lv_c (lv_in x a (upd f (a + 1) (f a))) v (a + 1) + if (lv_in x a (upd f (a + 1) (f a)) (a + 1)).toInt ≤ v then 1 else 0 from rfl, h2 v, ha1, lv_cc a (fun j hj => hg j (by omega)), show lv_c f v (a + 1) = lv_c f v a + if (f a).toInt ≤ v then 1 else 0 from rfl]
        omega
      · rw [h3 j (by omega), pk_un (by omega)]
      · by_cases hj2 : j = a + 1
        · rw [hj2, ha1]; exact hfM a (by omega)
        · exact h4 M hxM (fun i hi => by rw [hg i (by omega)]; exact hfM i (by omega)) j (by omega)
    · rw [if_neg hq]
      have hq' : (f a).toInt ≤ x.toInt := Int.not_lt.mp fun e => hq (i3_lt.mpr e)
      have hg : ∀ j, j ≤ a → upd f (a + 1) x j = f j := fun j hj => pk_un (by omega)
      refine ⟨fun i j hi hj => ?_, fun v => ?_, fun j hj => pk_un (by omega), fun M hxM hfM j hj => ?_⟩
      · by_cases hj2 : j = a + 1
        · subst hj2
          by_cases hi2 : i = a + 1
          · rw [hi2]; exact Int.le_refl _
          · rw [pk_us, hg i (by omega)]
            have := hs i a (by omega) (by omega)
            omega
        · rw [hg i (by omega), hg j (by omega)]; exact hs i j hi (by omega)
      · rw [show lv_c (upd f (a + 1) x) v (a + 1 + 1) = lv_c (upd f (a + 1) x) v (a + 1) + if (upd f (a + 1) x (a + 1)).toInt ≤ v then 1 else 0 from rfl, pk_us, lv_cc (a + 1) (fun j hj => hg j (by omega))]
      · by_cases hj2 : j = a + 1
        · rw [hj2, pk_us]; exact hxM
        · rw [hg j (by omega)]; exact hfM j (by omega)
/-- the first w of l, in order -/
def lv_I (w : Nat) (l : List Int) (s : Nat × (Nat → Int32)) : Prop := s.1 = min w l.length ∧ lv_s s.2 s.1 ∧ ∀ v, lv_c s.2 v s.1 = min w (cB v l)
theorem cB_snoc {l : List Int} {x v : Int} : cB v (l ++ [x]) = cB v l + if x ≤ v then 1 else 0 := by
  unfold cB
  rw [List.countP_append, List.countP_cons]
  simp only [List.countP_nil, decide_eq_true_iff, Nat.zero_add]
theorem cB_le {l : List Int} {v : Int} : cB v l ≤ l.length := List.countP_le_length
theorem lv_ntI {w : Nat} {l : List Int} {s : Nat × (Nat → Int32)} {x : Int32} (hw : 0 < w) (h : lv_I w l s) : lv_I w (l ++ [x.toInt]) (lv_nt w x s) := by
  obtain ⟨c, f⟩ := s
  obtain ⟨h1, h2, h3⟩ := h
  dsimp only at h1 h2 h3
  unfold lv_nt
  dsimp only
  by_cases hc : c < w
  · rw [if_pos hc]
    obtain ⟨g1, g2, _, _⟩ := lv_inI (x := x) c f h2
    refine ⟨?_, g1, fun v => ?_⟩
    · dsimp only; rw [List.length_append]; simp only [List.length_cons, List.length_nil]; omega
    · dsimp only
      rw [g2 v, h3 v, cB_snoc]
      have := cB_le (l := l) (v := v)
      split <;> omega
  · rw [if_neg hc, if_neg (by omega)]
    obtain ⟨c', rfl⟩ : ∃ c', c = c' + 1 := ⟨c - 1, by omega⟩
    rw [show c' + 1 - 1 = c' from rfl]
    have hlen : c' + 1 = min w (l ++ [x.toInt]).length := by rw [List.length_append]; simp only [List.length_cons, List.length_nil]; omega
    by_cases hq : x < f c'
    · rw [if_pos hq]
      have hq' := i3_lt.mp hq
      obtain ⟨g1, g2, _, _⟩ := lv_inI (x := x) c' f (fun i j hi hj => h2 i j hi (by omega))
      refine ⟨hlen, g1, fun v => ?_⟩
      dsimp only
      rw [g2 v, cB_snoc]
      have e := h3 v
      rw [show lv_c f v (c' + 1) = lv_c f v c' + if (f c').toInt ≤ v then 1 else 0 from rfl] at e
      by_cases hv : (f c').toInt ≤ v
      · rw [if_pos hv] at e
        rw [if_pos (show x.toInt ≤ v by omega)]
        have : lv_c f v c' = c' := lv_cf c' (fun j hj => by have := h2 j c' (by omega) (by omega); omega)
        omega
      · rw [if_neg hv] at e
        have := lv_cl (f := f) (v := v) c'
        split <;> omega
    · rw [if_neg hq]
      have hq' : (f c').toInt ≤ x.toInt := Int.not_lt.mp fun e => hq (i3_lt.mpr e)
      refine ⟨hlen, h2, fun v => ?_⟩
      dsimp only
      have e := h3 v
      rw [cB_snoc]
      by_cases hv : x.toInt ≤ v
      · rw [if_pos hv]
        have : lv_c f v (c' + 1) = c' + 1 := lv_cf (c' + 1) (fun j hj => by have := h2 j c' (by omega) (by omega); omega)
        omega
      · rw [if_neg hv]; exact e
theorem lv_fold {w : Nat} (hw : 0 < w) : ∀ (cl : List Int32) (l : List Int) (s : Nat × (Nat → Int32)), lv_I w l s → lv_I w (l ++ cl.map Int32.toInt) (cl.foldl (fun s b => lv_nt w b s) s)
  | [], l, s, h => by rw [List.map_nil, List.append_nil]; exact h
  | x :: cl, l, s, h => by
    rw [List.map_cons, List.foldl_cons, show l ++ x.toInt :: cl.map Int32.toInt = l ++ [x.toInt] ++ cl.map Int32.toInt by rw [List.append_assoc]; rfl]
    exact lv_fold hw cl _ _ (lv_ntI hw h)
theorem lv_0 {w : Nat} {f : Nat → Int32} : lv_I w [] (0, f) := ⟨(Nat.min_zero w).symm, fun i j _ h => by exact absurd h (Nat.not_lt_zero _), fun v => (Nat.min_zero w).symm⟩
theorem lv_clo {f : Nat → Int32} {v : Int} : ∀ (c k : Nat), k ≤ c → (∀ j, k ≤ j → j < c → v < (f j).toInt) → lv_c f v c ≤ k
  | 0, k, _, _ => Nat.zero_le _
  | c + 1, k, hk, h => by
    by_cases hkc : k = c + 1
    · rw [hkc]; exact lv_cl _
    · unfold lv_c
      rw [if_neg (by have := h c (by omega) (by omega); omega)]
      exact lv_clo c k (by omega) (fun j h1 h2 => h j h1 (by omega))
theorem lv_chi {f : Nat → Int32} {v : Int} : ∀ (c k : Nat), k ≤ c → (∀ j, j < k → (f j).toInt ≤ v) → k ≤ lv_c f v c
  | 0, k, hk, _ => by omega
  | c + 1, k, hk, h => by
    by_cases hkc : k = c + 1
    · subst hkc; rw [lv_cf _ h]; exact Nat.le_refl _
    · unfold lv_c
      have := lv_chi c k (by omega) h
      omega
theorem lv_k {w : Nat} {l : List Int} {s : Nat × (Nat → Int32)} (h : lv_I w l s) {k : Nat} (hk : k < w) (hkc : k < s.1) : k + 1 ≤ cB (s.2 k).toInt l ∧ cB ((s.2 k).toInt - 1) l ≤ k := by
  obtain ⟨h1, h2, h3⟩ := h
  have a1 := lv_chi (f := s.2) (v := (s.2 k).toInt) s.1 (k + 1) hkc (fun j hj => h2 j k (by omega) hkc)
  have a2 := lv_clo (f := s.2) (v := (s.2 k).toInt - 1) s.1 k (by omega) (fun j h3 h4 => by have := h2 k j h3 h4; omega)
  rw [h3] at a1 a2
  constructor <;> omega
