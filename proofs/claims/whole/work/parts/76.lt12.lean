/-! LineTimes: read -/
theorem lsE_congr {g : pz_H} {la sa n : Nat} {bl be : List Nat} {hl hl' : Nat → Nat} (he : ∀ i, i < n → hl i = hl' i) (h : lsE g la bl be sa n hl) : lsE g la bl be sa n hl' := by
  obtain ⟨h1, mc, ed, cap, o, h2, h3⟩ := h
  refine ⟨h1, mc, ed, cap, o, h2, ?_⟩
  rcases h3 with h3 | ⟨b1, b2, b3, b4, b5⟩
  · exact Or.inl h3
  · exact Or.inr ⟨b1, b2, b3, b4, fun i hi => by rw [b5 i hi, he i hi]⟩
theorem cmS_m56 {g g' : pz_H} {S : List Nat → Prop} (hh : hg S g g') {cm sa m : Nat} {K : Nat → lr_T} {D : Nat → cl_D} {U0 U : Nat} (hS : ∀ b, S b → b = [5] ∨ b = [6]) (h : cmS g cm sa m K D U0 U) : cmS g' cm sa m K D U0 U := by
  obtain ⟨h1, h2, h3⟩ := h
  have n : ∀ b : List Nat, b ≠ [5] → b ≠ [6] → ¬ S b := fun b a1 a2 hb => by
    rcases hS b hb with e | e
    · exact a1 e
    · exact a2 e
  refine ⟨lsE_mono hh ⟨n _ (by decide) (by decide), n _ (by decide) (by decide), n _ (by decide) (by decide)⟩ h1, fun i hi => ?_, h3⟩
  obtain ⟨a1, ⟨rn, A, B, a2⟩, a3, a4, a5⟩ := h2 i hi
  exact ⟨lrOK_mono hh (K i) ⟨⟨n _ (by simp) (by simp), n _ (by simp) (by simp), n _ (by simp) (by simp), n _ (by simp) (by simp), n _ (by simp) (by simp), n _ (by simp) (by simp)⟩, fun d => n _ (by simp) (by simp), n _ (by simp) (by simp)⟩ a1, ⟨rn, A, B, lrT_mono hh (K i) ⟨n _ (by simp) (by simp), fun i => n _ (by simp) (by simp), fun i => n _ (by simp) (by simp), n _ (by simp) (by simp)⟩ a2⟩, a3, a4, a5⟩
/-- the net's lines and then those that came -/
def lkj (nl : Nat) (L K : Nat → lr_T) : Nat → lr_T := fun j => if j < nl then L j else K (j - nl)
def rdA (g : pz_H) (nl : Nat) (L : Nat → lr_T) (U : Nat) : Prop := ∀ j, j < nl → lrOK g (L j) ∧ (∃ rn A B, lrT g (L j) rn A B) ∧ lr_u (L j) < U
theorem rdA_mono {g g' : pz_H} {S : List Nat → Prop} (hh : hg S g g') {nl U : Nat} {L : Nat → lr_T} (hS : ∀ u, u < U → ∀ b, S b → ∀ x r, b ≠ x :: u :: r) (h : rdA g nl L U) : rdA g' nl L U := fun i hi => by
  obtain ⟨a1, ⟨rn, A, B, a2⟩, a3⟩ := h i hi
  have n : ∀ (x : Nat) (r : List Nat), ¬ S (x :: lr_u (L i) :: r) := fun x r hb => hS _ a3 _ hb x r rfl
  exact ⟨lrOK_mono hh (L i) ⟨⟨n _ _, n _ _, n _ _, n _ _, n _ _, n _ _⟩, fun d => n _ _, n _ _⟩ a1, ⟨rn, A, B, lrT_mono hh (L i) ⟨n _ _, fun i => n _ _, fun i => n _ _, n _ _⟩ a2⟩, a3⟩
theorem rd_nl {g : pz_H} {la sa cm nl m i U U' : Nat} {L K : Nat → lr_T} {D : Nat → cl_D} (h40 : nl + i ≤ 40) (hi : i ≤ m) (hU : U ≤ U') (hl : lsE g la [5] [6] sa (nl + i) (fun j => lr_h (lkj nl L K j))) (hA : rdA g nl L U) (hinj : ∀ i j, i < nl → j < nl → lr_u (L i) = lr_u (L j) → i = j) (hB : cmS g cm sa m K D U U') : nlE g la sa (nl + i) (lkj nl L K) U' := by
  obtain ⟨b1, b2, b3⟩ := hB
  refine ⟨h40, hl, fun j hj => ?_, fun j k hj hk e => ?_⟩
  · unfold lkj
    by_cases h : j < nl
    · rw [if_pos h]
      obtain ⟨a1, a2, a3⟩ := hA j h
      exact ⟨a1, a2, by omega⟩
    · rw [if_neg h]
      obtain ⟨a1, a2, a3, a4, a5⟩ := b2 (j - nl) (by omega)
      exact ⟨a1, a2, a5⟩
  · unfold lkj at e
    by_cases h : j < nl <;> by_cases h' : k < nl
    · rw [if_pos h, if_pos h'] at e; exact hinj j k h h' e
    · rw [if_pos h, if_neg h'] at e
      have := (hA j h).2.2
      have := (b2 (k - nl) (by omega)).2.2.2.1
      omega
    · rw [if_neg h, if_pos h'] at e
      have := (hA k h').2.2
      have := (b2 (j - nl) (by omega)).2.2.2.1
      omega
    · rw [if_neg h, if_neg h'] at e
      have := b3 (j - nl) (k - nl) (by omega) (by omega) e
      omega
theorem tp_bd {len room : Nat} {cf : Nat → Int32} {D : Nat → cl_D} (hlen : len ≤ 500) (hr : room ≤ 40) : ((tp_0 len cf room D).1.2 = -1 ∧ (tp_0 len cf room D).2.1 ≤ room) ∨ ((tp_0 len cf room D).1.2 ≠ -1 ∧ ¬ (tp_0 len cf room D).1.2 < 0) := by
  have h := tR_0 (n := len) (k0 := 40 - room) (f := cf) (A0 := fun _ => cf) (J0 := fun _ _ => 0) hlen (by omega) rfl D
  rw [show 40 - (40 - room) = room by omega] at h
  generalize tp_0 len cf room D = s at h
  generalize mrd_0 len (40 - room) (fun _ => cf) (fun _ _ => 0) = r at h
  obtain ⟨⟨a, f⟩, m, D'⟩ := s
  obtain ⟨⟨a', phi⟩, ⟨k, ln⟩, Ai, Aj⟩ := r
  obtain ⟨-, h⟩ := h
  rcases h with ⟨h1, -, -, h2, h3, -⟩ | ⟨h1, h2, h3⟩
  · exact Or.inl ⟨h1, by show m ≤ room; omega⟩
  · exact Or.inr ⟨h1, by show ¬ f < 0; rw [← h3]; exact h2⟩
theorem ni_40 : ∀ n, n < 41 → (40 : Int32) - nI n = nI (40 - n) := by decide +kernel
