/-! the search, over Int: the class's rounds (so, W) against the reference's (E) -/
section
variable (Lg : Nat → Nat → Int → Int → Prop) (C : Nat → Int) (from' to : Nat) (t : Int)
def qRd (E : Nat → Int) (q : Nat) (b : Int) : Prop := (q = from' ∧ t ≤ b) ∨ (q ≠ from' ∧ E q < 2147483647 ∧ E q + C q ≤ b)
def qUs (n : Nat) (W : Nat → Int) (q : Nat) (b : Int) : Prop := W q < 2147483647 ∧ (n = 0 ∧ W q ≤ b ∨ n ≠ 0 ∧ W q + C q ≤ b)
def qE (K : Nat) (E : Nat → Nat → Int) : Prop := (∀ p, p < 100 → E 0 p = if p = from' then t else 2147483647) ∧ ∀ n, n < K → (∀ p, p < 100 → E (n + 1) p ≤ E n p) ∧ (∀ q p b a, Lg q p b a → qRd C from' t (E n) q b → E (n + 1) p ≤ a) ∧ ∀ p, p < 100 → E (n + 1) p = E n p ∨ ∃ q b, Lg q p b (E (n + 1) p) ∧ qRd C from' t (E n) q b
def qS (K : Nat) (S W : Nat → Nat → Int) : Prop := (∀ p, p < 100 → S 0 p = if p = from' then t else 2147483647) ∧ (∀ p, p < 100 → W 0 p = if p = from' then t else 2147483647) ∧ ∀ n, n < K → (∀ q p b a, Lg q p b a → qUs C n (W n) q b → S (n + 1) p ≤ a ∨ S (n + 1) to ≤ a) ∧ ∀ p, p < 100 → (S (n + 1) p = S n p ∧ W (n + 1) p = 2147483647) ∨ (S (n + 1) p < S n p ∧ W (n + 1) p = S (n + 1) p ∧ ∃ q b, Lg q p b (S (n + 1) p) ∧ qUs C n (W n) q b)
/-- what holds of both after n rounds -/
def qI (S W E : Nat → Nat → Int) (n : Nat) : Prop := (∀ p, p < 100 → E n p ≤ S n p ∧ S n p ≤ 2147483647 ∧ t ≤ E n p) ∧ E n from' = t ∧ S n to = E n to ∧ (∀ p, p < 100 → E n p < E n to → S n p = E n p) ∧ ∀ p, p < 100 → W n p = 2147483647 ∨ W n p = S n p
end
section
variable {Lg : Nat → Nat → Int → Int → Prop} {C : Nat → Int} {from' to : Nat} {t : Int} {K : Nat} {S W E : Nat → Nat → Int}
theorem qI_0 (ht : t < 2147483647) (hf : from' < 100) (hto : to < 100) (hE : qE Lg C from' t K E) (hS : qS Lg C from' to t K S W) : qI from' to t S W E 0 := by
  obtain ⟨e0, -⟩ := hE
  obtain ⟨s0, w0, -⟩ := hS
  refine ⟨fun p hp => ?_, ?_, ?_, fun p hp _ => ?_, fun p hp => ?_⟩
  · rw [e0 p hp, s0 p hp]; split <;> omega
  · rw [e0 _ hf, if_pos rfl]
  · rw [e0 _ hto, s0 _ hto]
  · rw [e0 _ hp, s0 _ hp]
  · right; rw [w0 _ hp, s0 _ hp]
/-- an entry of the class is one of the reference -/
theorem q_us {n : Nat} (hS : qS Lg C from' to t K S W) (h : qI from' to t S W E n) (hC : ∀ p, p < 100 → 0 ≤ C p) {q : Nat} {b : Int} (hq : q < 100) (hu : qUs C n (W n) q b) : qRd C from' t (E n) q b := by
  obtain ⟨h1, h2, h3, h4, h5⟩ := h
  obtain ⟨hu1, hu2⟩ := hu
  have hc := hC q hq
  have hb := h1 q hq
  by_cases hqf : q = from'
  · left
    refine ⟨hqf, ?_⟩
    rcases h5 q hq with h | h <;> rcases hu2 with ⟨_, h6⟩ | ⟨_, h6⟩ <;> omega
  · right
    rcases h5 q hq with h | h
    · omega
    · refine ⟨hqf, by omega, ?_⟩
      rcases hu2 with ⟨rfl, h6⟩ | ⟨_, h6⟩
      · have := hS.2.1 q hq
        rw [if_neg hqf] at this
        omega
      · omega
/-- an entry of the reference by which an arrival before all known ones comes is one of the class -/
theorem q_rd (hE : qE Lg C from' t K E) (hS : qS Lg C from' to t K S W) {n : Nat} (hn : n < K) (h : qI from' to t S W E n) (h0 : ∀ m, n = m + 1 → qI from' to t S W E m) (hC : ∀ p, p < 100 → 0 ≤ C p) {q p : Nat} {b a : Int} (hq : q < 100) (hp : p < 100) (hba : b ≤ a) (hlg : Lg q p b a) (ha : a < E n p) (hat : a < E n to) (hr : qRd C from' t (E n) q b) : qUs C n (W n) q b := by
  obtain ⟨h1, h2, h3, h4, h5⟩ := h
  have hb := h1 q hq
  have hbp := h1 p hp
  have hc := hC q hq
  match n, h0 with
  | 0, _ =>
    have hw := hS.2.1 q hq
    rcases hr with ⟨rfl, hr⟩ | ⟨hr0, hr1, hr2⟩
    · rw [if_pos rfl] at hw
      exact ⟨by omega, Or.inl ⟨rfl, by omega⟩⟩
    · have he := hE.1 q hq
      rw [if_neg hr0] at he
      omega
  | m + 1, h0 =>
    obtain ⟨g1, g2, g3, g4, g5⟩ := h0 m rfl
    obtain ⟨e1, e2, e3⟩ := hE.2 m (by omega)
    have hm := e1 q hq
    have hno : ¬ qRd C from' t (E m) q b := fun hx => by
      have := e2 q p b a hlg hx
      omega
    rcases hr with ⟨rfl, hr⟩ | ⟨hr0, hr1, hr2⟩
    · exact absurd (Or.inl ⟨rfl, hr⟩) hno
    · have hlt : E (m + 1) q < E m q := by
        refine Int.not_le.mp fun hx => hno (Or.inr ⟨hr0, by omega, by omega⟩)
      have hSq := h4 q hq (by omega)
      have hgS := g1 q hq
      rcases (hS.2.2 m (by omega)).2 q hq with ⟨x1, x2⟩ | ⟨x1, x2, x3⟩
      · omega
      · exact ⟨by omega, Or.inr ⟨by omega, by omega⟩⟩
theorem qI_s (hLg : ∀ q p b a, Lg q p b a → q < 100 ∧ p < 100 ∧ b ≤ a ∧ a < 2147483647) (hC : ∀ p, p < 100 → 0 ≤ C p) (hf : from' < 100) (hto : to < 100) (hE : qE Lg C from' t K E) (hS : qS Lg C from' to t K S W) {n : Nat} (hn : n < K) (h : qI from' to t S W E n) (h0 : ∀ m, n = m + 1 → qI from' to t S W E m) : qI from' to t S W E (n + 1) := by
  have hus := fun q b hq => q_us hS h hC (q := q) (b := b) hq
  have hrd := fun q p b a hq hp hba hl ha hat => q_rd hE hS hn h h0 hC (q := q) (p := p) (b := b) (a := a) hq hp hba hl ha hat
  obtain ⟨h1, h2, h3, h4, h5⟩ := h
  obtain ⟨e1, e2, e3⟩ := hE.2 n hn
  obtain ⟨s1, s2⟩ := hS.2.2 n hn
  have key : ∀ p, p < 100 → E (n + 1) p ≤ S (n + 1) p ∧ S (n + 1) p ≤ S n p := fun p hp => by
    have := e1 p hp
    have := h1 p hp
    rcases s2 p hp with ⟨x1, x2⟩ | ⟨x1, x2, q, b, hl, hu⟩
    · omega
    · have := e2 q p b _ hl (hus q b (hLg _ _ _ _ hl).1 hu)
      omega
  have lo : ∀ p, p < 100 → t ≤ E (n + 1) p := fun p hp => by
    have := h1 p hp
    rcases e3 p hp with h | ⟨q, b, hl, hr⟩
    · omega
    · obtain ⟨hq, _, hba, _⟩ := hLg _ _ _ _ hl
      have := h1 q hq
      have := hC q hq
      rcases hr with ⟨_, hr⟩ | ⟨_, _, hr⟩ <;> omega
  -- an arrival of the reference in this round, before the end's new one, is the class's
  have new : ∀ p, p < 100 → E (n + 1) p < E n p → E (n + 1) p < E n to → S (n + 1) p ≤ E (n + 1) p ∨ S (n + 1) to ≤ E (n + 1) p := fun p hp hlt hlt2 => by
    rcases e3 p hp with h | ⟨q, b, hl, hr⟩
    · omega
    · obtain ⟨hq, _, hba, _⟩ := hLg _ _ _ _ hl
      exact s1 q p b _ hl (hrd q p b _ hq hp hba hl (by omega) (by omega) hr)
  have hto2 : S (n + 1) to = E (n + 1) to := by
    have := key to hto
    have := e1 to hto
    by_cases hx : E (n + 1) to < E n to
    · rcases new to hto hx hx with h | h <;> omega
    · omega
  refine ⟨fun p hp => ?_, ?_, hto2, fun p hp hlt => ?_, fun p hp => ?_⟩
  · have := key p hp
    have := h1 p hp
    have := lo p hp
    omega
  · have := e1 _ hf
    have := lo _ hf
    omega
  · have := key p hp
    have := e1 p hp
    have := e1 to hto
    by_cases hx : E (n + 1) p < E n p
    · rcases new p hp hx (by omega) with h | h <;> omega
    · have := h4 p hp (by omega)
      omega
  · rcases s2 p hp with ⟨x1, x2⟩ | ⟨x1, x2, _⟩
    · exact Or.inl x2
    · exact Or.inr x2
theorem qI_n (hLg : ∀ q p b a, Lg q p b a → q < 100 ∧ p < 100 ∧ b ≤ a ∧ a < 2147483647) (hC : ∀ p, p < 100 → 0 ≤ C p) (ht : t < 2147483647) (hf : from' < 100) (hto : to < 100) (hE : qE Lg C from' t K E) (hS : qS Lg C from' to t K S W) : ∀ n, n ≤ K → qI from' to t S W E n
  | 0, _ => qI_0 ht hf hto hE hS
  | 1, h => qI_s hLg hC hf hto hE hS h (qI_0 ht hf hto hE hS) (fun m hm => by omega)
  | n + 2, h => qI_s hLg hC hf hto hE hS h (qI_n hLg hC ht hf hto hE hS (n + 1) (by omega)) (fun m hm => by
      obtain rfl : n = m := by omega
      exact qI_n hLg hC ht hf hto hE hS n (by omega))
end
