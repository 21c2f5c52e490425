/-! LineTimes: exception -/
def dwO (l : List (Int32 × Int32)) : Prop := l.Pairwise (fun p q => p.1 ≠ q.1) ∧ ∀ q ∈ l, 0 ≤ q.1.toInt
theorem dw_none : ∀ {l : List (Int32 × Int32)} {d : Int32}, dw_get l d = none → ∀ q ∈ l, q.1 ≠ d
  | [], _, _, _, hq => (by cases hq)
  | (e, y) :: l, d, h, q, hq => by
    unfold dw_get at h
    by_cases he : e = d
    · rw [if_pos he] at h; cases h
    · rw [if_neg he] at h
      rcases List.mem_cons.mp hq with e1 | e1
      · rw [e1]; exact he
      · exact dw_none h q e1
theorem dw_setM {d x : Int32} : ∀ {l : List (Int32 × Int32)} {q : Int32 × Int32}, q ∈ dw_set d x l → (∃ q' ∈ l, q'.1 = q.1) ∧ (q.2 = x ∨ q ∈ l)
  | [], _, hq => (by cases hq)
  | (e, y) :: l, q, hq => by
    unfold dw_set at hq
    by_cases he : e = d
    · rw [if_pos he] at hq
      rcases List.mem_cons.mp hq with e1 | e1
      · rw [e1]; exact ⟨⟨_, List.mem_cons_self, rfl⟩, Or.inl rfl⟩
      · exact ⟨⟨q, List.mem_cons_of_mem _ e1, rfl⟩, Or.inr (List.mem_cons_of_mem _ e1)⟩
    · rw [if_neg he] at hq
      rcases List.mem_cons.mp hq with e1 | e1
      · rw [e1]; exact ⟨⟨_, List.mem_cons_self, rfl⟩, Or.inr List.mem_cons_self⟩
      · obtain ⟨⟨q', a1, a2⟩, a3⟩ := dw_setM e1
        exact ⟨⟨q', List.mem_cons_of_mem _ a1, a2⟩, a3.imp id (List.mem_cons_of_mem _)⟩
theorem dw_setP {d x : Int32} : ∀ {l : List (Int32 × Int32)}, l.Pairwise (fun p q => p.1 ≠ q.1) → (dw_set d x l).Pairwise (fun p q => p.1 ≠ q.1)
  | [], h => h
  | (e, y) :: l, h => by
    obtain ⟨h1, h2⟩ := List.pairwise_cons.mp h
    unfold dw_set
    by_cases he : e = d
    · rw [if_pos he]
      exact List.pairwise_cons.mpr ⟨h1, h2⟩
    · rw [if_neg he]
      refine List.pairwise_cons.mpr ⟨fun q hq => ?_, dw_setP h2⟩
      obtain ⟨⟨q', a1, a2⟩, _⟩ := dw_setM hq
      rw [← a2]
      exact h1 q' a1
theorem dwO_put {d x : Int32} {l : List (Int32 × Int32)} (hd : 0 ≤ d.toInt) (h : dwO l) : dwO (dw_put d x l) := by
  unfold dw_put
  rcases hs : dw_get l d with _ | y
  · refine ⟨List.pairwise_cons.mpr ⟨fun q hq e => dw_none hs q hq e.symm, h.1⟩, fun q hq => ?_⟩
    rcases List.mem_cons.mp hq with e | e
    · rw [e]; exact hd
    · exact h.2 q e
  · refine ⟨dw_setP h.1, fun q hq => ?_⟩
    obtain ⟨⟨q', a1, a2⟩, _⟩ := dw_setM hq
    rw [← a2]
    exact h.2 q' a1
theorem dw_mono2 {g g' : pz_H} {u : Nat} {S : List Nat → Prop} (hh : hg S g g') : ∀ (l : List (Int32 × Int32)) (r : Option Nat), (∀ q ∈ l, ¬ S [40, u, q.1.toNatClampNeg]) → dw_ch g u r l → dw_ch g' u r l
  | [], _, _, h => h
  | (f, m) :: l, r, hS, ⟨a, r', e, ha, h⟩ => ⟨a, r', e, hh _ _ _ ha (hS (f, m) List.mem_cons_self), dw_mono2 hh l r' (fun q hq => hS q (List.mem_cons_of_mem _ hq)) h⟩
abbrev dw_c (d x : Int32) (r : Option Nat) : pz_E := .inr (2, [.inl d, .inl x, .inr (.inr r)])
def rm_X3_wordFor2 : Room := { frames := 0, cells := 0, slots := 0, locals := 0 }
abbrev gt_X3_wordFor2 : Type := Nat × Int32 × Nat × List (Int32 × Int32) × Option Nat
def pr_X3_wordFor2 : gt_X3_wordFor2 → List pz_V → pz_H → Prop := fun (h, d, u, l, r) av g => av = [.inr (.inr (some (h))), .inl (d)] ∧ 0 ≤ d.toInt ∧ dwO l ∧ (∃ b fs, g h = some (b, .inr (5, fs)) ∧ fs[5]? = some (.inr (.inr r))) ∧ dw_ch g u r l
def po_X3_wordFor2 : gt_X3_wordFor2 → List pz_V → pz_H → Option pz_V → pz_H → Prop := fun (h, d, u, l, r) _ g v g' => g' = g ∧ ((v = some (.inr (.inr none)) ∧ dw_get l d = none) ∨ ∃ a x r', v = some (.inr (.inr (some (a)))) ∧ g a = some ([40, u, d.toNatClampNeg], dw_c d x r') ∧ dw_get l d = some x ∧ ∀ y, dw_ch (va_up g a (some ([40, u, d.toNatClampNeg], dw_c d y r'))) u r (dw_set d y l))
set_option maxRecDepth 20000 in
theorem ct_X3_wordFor2 {G : pz_Gx} (hOk : pz_OK G) (gh : gt_X3_wordFor2) : pz_M G yX3_wordFor cX3_wordFor 3 (some (.object "LineTimes$DayWord")) rm_X3_wordFor2 (pr_X3_wordFor2 gh) (po_X3_wordFor2 gh) := by
  obtain ⟨h, d, u, l, r⟩ := gh
  refine pz_ofZ (by decide) hOk.1 (Or.inr (Or.inr (Or.inr (Or.inr (Or.inl ⟨_, rfl⟩))))) ?_ ?_
  · rintro av g ⟨rfl, -⟩
    exact Nat.le_of_ble_eq_true rfl
  · rintro X hX hGX hrm - av g ⟨rfl, hd, hO, ⟨b, fs, hg, hf⟩, hz⟩ hR
    have loop : ∀ (l2 : List (Int32 × Int32)) (r2 : Option Nat), dw_ch g u r2 l2 → dwO l2 → (dw_get l2 d = none → dw_get l d = none) → (∀ a x e, g a = some ([40, u, d.toNatClampNeg], dw_c d x e) → dw_get l2 d = some x → (∀ y, dw_ch (va_up g a (some ([40, u, d.toNatClampNeg], dw_c d y e))) u r2 (dw_set d y l2)) → dw_get l d = some x ∧ ∀ y, dw_ch (va_up g a (some ([40, u, d.toNatClampNeg], dw_c d y e))) u r (dw_set d y l)) → pz_Z X 3 5 [(2, .inr (.inr r2)), (0, .inr (.inr (some (h)))), (1, .inl (d))] [] g 0 0 := by
      intro l2
      induction l2 with
      | nil =>
        intro r2 h2 _ k1 _
        cases h2
        refine bX3_wordFor_5 hX _ _ _ _ _ ⟨fun _ => ?_, fun a q => by cases q⟩
        exact bX3_wordFor_27 hX hR _ _ _ _ _ ⟨Nat.le_refl _, Nat.le_refl _, rfl, Or.inl ⟨rfl, k1 rfl⟩⟩
      | cons z l3 ih =>
        intro r2 h2 hO2 k1 k2
        obtain ⟨hp, hn⟩ := hO2
        obtain ⟨hp1, hp2⟩ := List.pairwise_cons.mp hp
        obtain ⟨d2, x⟩ := z
        obtain ⟨a, r3, rfl, ha, h3⟩ := h2
        have hd2 : 0 ≤ d2.toInt := hn (d2, x) List.mem_cons_self
        refine bX3_wordFor_5 hX _ _ _ _ _ ⟨fun q => (by cases q), fun _ _ => ?_⟩
        refine bX3_wordFor_9 hX _ _ _ _ _ ⟨_, _, _, ha, rfl, fun q => ?_, fun q => ?_⟩
        · have hne : ¬ d2 = d := q
          refine bX3_wordFor_19 hX _ _ _ _ _ ⟨_, _, _, ha, rfl, ?_⟩
          have eg : dw_get ((d2, x) :: l3) d = dw_get l3 d := if_neg hne
          refine ih r3 h3 ⟨hp2, fun q hq => hn q (List.mem_cons_of_mem _ hq)⟩ (fun e => k1 (eg.trans e)) (fun a' m e ha' e1 e2 => k2 a' m e ha' (eg.trans e1) (fun m' => ?_))
          rw [show dw_set d m' ((d2, x) :: l3) = (d2, x) :: dw_set d m' l3 from if_neg hne]
          refine ⟨a, r3, rfl, up_ne ha ha' (fun e => hne ?_), e2 m'⟩
          exact cl_inj hd2 hd (by injection e with _ e; injection e with _ e; injection e)
        · have he : d2 = d := q
          subst he
          obtain ⟨w1, w2⟩ := k2 a x r3 ha (if_pos rfl) (fun m' => by
            rw [show dw_set d2 m' ((d2, x) :: l3) = (d2, m') :: l3 from if_pos rfl]
            exact ⟨a, r3, rfl, up_at, dw_mono2 (hg_up (S := fun b => b = [40, u, d2.toNatClampNeg]) hg_rf ha rfl) l3 r3 (fun q hq e => by
              have h2 : q.1.toNatClampNeg = d2.toNatClampNeg := by injection e with _ e; injection e with _ e; injection e
              exact hp1 q hq (cl_inj (hn q (List.mem_cons_of_mem _ hq)) hd2 h2).symm) h3⟩)
          exact bX3_wordFor_17 hX hR _ _ _ _ _ ⟨Nat.le_refl _, Nat.le_refl _, rfl, Or.inr ⟨a, x, r3, rfl, ha, w1, w2⟩⟩
    refine bX3_wordFor_0 hX _ _ _ _ _ ⟨_, _, _, hg, hf, ?_⟩
    exact loop l r hz hO id (fun a x e _ h1 h2 => ⟨h1, h2⟩)
