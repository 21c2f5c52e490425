/-! labels keep cells apart -/
def hg (S : List Nat → Prop) (g g' : pz_H) : Prop := ∀ a b e, g a = some (b, e) → ¬ S b → g' a = some (b, e)
theorem hg_rf {S : List Nat → Prop} {g : pz_H} : hg S g g := fun _ _ _ h _ => h
theorem hg_tr {S : List Nat → Prop} {g g1 g2 : pz_H} (h1 : hg S g g1) (h2 : hg S g1 g2) : hg S g g2 := fun a b e h hb => h2 a b e (h1 a b e h hb) hb
theorem hg_mono {S S' : List Nat → Prop} {g g1 : pz_H} (h1 : hg S g g1) (h : ∀ b, S b → S' b) : hg S' g g1 := fun a b e h2 hb => h1 a b e h2 (fun q => hb (h b q))
theorem hg_up {S : List Nat → Prop} {g g1 : pz_H} {a : Nat} {b : List Nat} {e0 : pz_E} {v : Option (List Nat × pz_E)} (h : hg S g g1) (ha : g1 a = some (b, e0)) (hb : S b) : hg S g (va_up g1 a v) := by
  intro x b' e' hx hn
  have h1 := h x b' e' hx hn
  by_cases he : x = a
  · subst he
    rw [ha] at h1
    cases h1
    exact absurd hb hn
  · rw [va_up_ne _ _ he]
    exact h1
theorem hg_new {S : List Nat → Prop} {g g1 : pz_H} {q : Nat} {v : Option (List Nat × pz_E)} (h : hg S g g1) (hq : g1 q = none) : hg S g (va_up g1 q v) := by
  intro x b' e' hx hn
  have h1 := h x b' e' hx hn
  by_cases he : x = q
  · subst he
    rw [hq] at h1
    cases h1
  · rw [va_up_ne _ _ he]
    exact h1
theorem up_at {g : pz_H} {a : Nat} {v : Option (List Nat × pz_E)} : va_up g a v a = v := va_up_self g a v
theorem up_ne {g : pz_H} {x a : Nat} {b b' : List Nat} {e e' : pz_E} {v : Option (List Nat × pz_E)} (h : g x = some (b', e')) (ha : g a = some (b, e)) (hb : b' ≠ b) : va_up g a v x = some (b', e') := by
  rw [va_up_ne]
  · exact h
  · intro q
    subst q
    rw [h] at ha
    cases ha
    exact hb rfl
theorem up_nq {g : pz_H} {x q : Nat} {b' : List Nat} {e' : pz_E} {v : Option (List Nat × pz_E)} (h : g x = some (b', e')) (hq : g q = none) : va_up g q v x = some (b', e') := by
  rw [va_up_ne]
  · exact h
  · intro q2
    subst q2
    rw [h] at hq
    cases hq
theorem up_up {g : pz_H} {a : Nat} {v w : Option (List Nat × pz_E)} : va_up (va_up g a v) a w = va_up g a w := bx_uu g a v w
theorem ni_in {j n : Nat} (h : j < n) (hn : n ≤ 1000000) : vp_in (nI j) n := vp_in_nI h (by omega)
theorem ni_cl {j : Nat} (h : j ≤ 1000000) : (nI j).toNatClampNeg = j := nI_clamp (by omega)
theorem ni_pred {n : Nat} (h : 0 < n) : nI n - 1 = nI (n - 1) := by
  obtain ⟨k, rfl⟩ : ∃ k, n = k + 1 := ⟨n - 1, by omega⟩
  exact nI_pred k
theorem ni_inj {a b : Nat} (ha : a ≤ 1000000) (hb : b ≤ 1000000) (h : nI a = nI b) : a = b := (nI_eq (by omega) (by omega)).mp h
theorem ni_lt {a b : Nat} (ha : a ≤ 1000000) (hb : b ≤ 1000000) : nI a < nI b ↔ a < b := nI_ltI (by omega) (by omega)
theorem ni_le {a b : Nat} (ha : a ≤ 1000000) (hb : b ≤ 1000000) : nI a ≤ nI b ↔ a ≤ b := nI_leI (by omega) (by omega)
/-! fewer locals, in another order -/
def pz_all (lv : pz_L) : pz_L → Prop
  | [] => True
  | (i, v) :: l => pz_f lv i = some v ∧ pz_all lv l
theorem pz_lsub {X : pz_C} {nL pc c s : Nat} {lv lv' : pz_L} {st : List pz_V} {g : pz_H} (h : pz_all lv lv') (k : pz_Z X nL pc lv' st g c s) : pz_Z X nL pc lv st g c s := by
  obtain ⟨p, l, e, R, s1, m, args, below, meth, c1, Q, D, cy, A, En⟩ := X
  intro ls H locs hl hP hS
  refine k ls H locs ⟨hl.1, hl.2.1, ?_⟩ hP hS
  clear k
  induction lv' with
  | nil => intro q hq; cases hq
  | cons q l ih =>
    obtain ⟨i, v⟩ := q
    obtain ⟨h1, h2⟩ := h
    intro z hz
    rcases List.mem_cons.mp hz with rfl | hz
    · exact pz_ls hl h1
    · exact ih h2 z hz
theorem ni_inc {i : Nat} : some (Sum.inl (nI i + 1) : pz_V) = some (Sum.inl (nI (i + 1))) := by rw [nI_1]
theorem pz_grf {g : pz_H} {a : Nat} {v : Option (List Nat × pz_E)} (h : g a = v) : va_up g a v = g := funext fun y => by
  by_cases e : y = a
  · subst e; rw [up_at, h]
  · rw [va_up_ne _ _ e]
/-! what is known beside the words: List's methods are ArrayList's -/
def pz_Fw (G : pz_Gx) (x y : MethodName) : Prop := ∀ (B : Nat → Prop) (U : State) (J : Heap), G.2.2.2 B U J → va_Fw RJx4a65c x y U
def pz_OK (G : pz_Gx) : Prop := pz_Ok G.2.2.2 ∧ pz_Fw G ⟨"java/util/List", "size", "()I"⟩ yJx4a65c_size_8abf5 ∧ pz_Fw G ⟨"java/util/List", "get", "(I)Ljava/lang/Object;"⟩ yJx4a65c_get_915e3 ∧ pz_Fw G ⟨"java/util/List", "add", "(Ljava/lang/Object;)Z"⟩ yJx4a65c_add_9ea2d ∧ pz_Fw G ⟨"java/util/List", "clear", "()V"⟩ yJx4a65c_clear_da8c8 ∧ pz_Fw G ⟨"java/util/List", "isEmpty", "()Z"⟩ yJx4a65c_isEmpty_aae02
/-! java.util.Arrays.fill(int[], int) -/
set_option maxRecDepth 20000 in
theorem bJ7_fill_53178_0 {X : pz_C} (hX : pz_X X cJ7_fill_53178 4 RJ7) : ∀ lv st g c s, (zo_ic 1 (0) (zo_is 1 2 (zo_al 1 0 (zo_alen (zo_is 1 3 (pz_Z X 4)))))) 0 lv st g c s → pz_Z X 4 0 lv st g c s := (zs_iconst hX dJ7_fill_53178_0 (by decide) (zs_istore_n hX dJ7_fill_53178_1 rfl (by decide) (zs_aload_n hX dJ7_fill_53178_2 rfl (zs_alen hX dJ7_fill_53178_3 (zs_istore_n hX dJ7_fill_53178_4 rfl (by decide) (fun _ _ _ _ _ h => h))))))
set_option maxRecDepth 20000 in
theorem bJ7_fill_53178_5 {X : pz_C} (hX : pz_X X cJ7_fill_53178 4 RJ7) : ∀ lv st g c s, (zo_il 1 2 (zo_il 1 3 (zo_ic_ge 20 (pz_Z X 4)))) 5 lv st g c s → pz_Z X 4 5 lv st g c s := (zs_iload_n hX dJ7_fill_53178_5 rfl (zs_iload_n hX dJ7_fill_53178_6 rfl (zs_ic_ge hX dJ7_fill_53178_7 (by decide) (fun _ _ _ _ _ _ h => h))))
set_option maxRecDepth 20000 in
theorem bJ7_fill_53178_10 {X : pz_C} (hX : pz_X X cJ7_fill_53178 4 RJ7) : ∀ lv st g c s, (zo_al 1 0 (zo_il 1 2 (zo_il 1 1 (zo_iast (zo_inc 2 (1) (zo_goto 5 (pz_Z X 4))))))) 10 lv st g c s → pz_Z X 4 10 lv st g c s := (zs_aload_n hX dJ7_fill_53178_10 rfl (zs_iload_n hX dJ7_fill_53178_11 rfl (zs_iload_n hX dJ7_fill_53178_12 rfl (zs_iast hX dJ7_fill_53178_13 (zs_iinc hX dJ7_fill_53178_14 (by decide) (by decide) (zs_goto hX dJ7_fill_53178_17 (by decide) (fun _ _ _ _ _ _ h => h)))))))
set_option maxRecDepth 20000 in
theorem bJ7_fill_53178_20 {X : pz_C} {rm : Room} {E : Option pz_V → pz_H → Prop} (hX : pz_X X cJ7_fill_53178 4 RJ7) (hR : pz_Rt X cJ7_fill_53178 4 none rm E) : ∀ lv st g c s, (zo_rv rm E) 20 lv st g c s → pz_Z X 4 20 lv st g c s := (zs_rv hR dJ7_fill_53178_20)
def rm_J7_fill_53178 : Room := { frames := 0, cells := 0, slots := 0, locals := 0 }
abbrev gt_J7_fill_53178 : Type := Nat × Int32 × List Nat × Nat × (Nat → Int32)
def pr_J7_fill_53178 : gt_J7_fill_53178 → List pz_V → pz_H → Prop := fun (a, x, b, n, f) av g => av = [.inr (.inr (some a)), .inl x] ∧ g a = some (b, .inl (0, n, .inl f)) ∧ n ≤ 1000000
def po_J7_fill_53178 : gt_J7_fill_53178 → List pz_V → pz_H → Option pz_V → pz_H → Prop := fun (a, x, b, n, _) _ g v g' => v = none ∧ ∃ f' : Nat → Int32, g' = va_up g a (some (b, .inl (0, n, .inl f'))) ∧ ∀ j, j < n → f' j = x
set_option maxRecDepth 20000 in
theorem ct_J7_fill_53178 {G : pz_Gx} (hOk : pz_OK G) (gh : gt_J7_fill_53178) : pz_M G yJ7_fill_53178 cJ7_fill_53178 4 none rm_J7_fill_53178 (pr_J7_fill_53178 gh) (po_J7_fill_53178 gh) := by
  obtain ⟨a, x, b, n, f⟩ := gh
  refine pz_ofZ (by decide) hOk.1 (Or.inl rfl) ?_ ?_
  · rintro av g ⟨rfl, -⟩
    exact Nat.le_of_ble_eq_true rfl
  · rintro X hX hGX hrm - av g ⟨rfl, hg, hn⟩ hR
    have loop : ∀ (k i : Nat) (f2 : Nat → Int32), i + k = n → (∀ j, j < i → f2 j = x) → pz_Z X 4 5 [(3, .inl (nI n)), (2, .inl (nI i)), (0, .inr (.inr (some a))), (1, .inl x)] [] (va_up g a (some (b, .inl (0, n, .inl f2)))) 0 0 := by
      intro k
      induction k with
      | zero =>
        intro i f2 hi hf
        refine bJ7_fill_53178_5 hX _ _ _ _ _ ⟨fun _ => ?_, fun q => absurd (by rw [ni_le (by omega) (by omega)]; omega) q⟩
        exact bJ7_fill_53178_20 hX hR _ _ _ _ _ ⟨Nat.le_refl _, Nat.le_refl _, rfl, f2, rfl, fun j hj => hf j (by omega)⟩
      | succ k ih =>
        intro i f2 hi hf
        refine bJ7_fill_53178_5 hX _ _ _ _ _ ⟨fun q => absurd ((ni_le (by omega) (by omega)).mp q) (by omega), fun _ => ?_⟩
        refine bJ7_fill_53178_10 hX _ _ _ _ _ ⟨b, n, f2, up_at, ni_in (by omega) hn, ?_⟩
        rw [up_up, ni_cl (by omega)]
        refine pz_lsub (lv' := [(3, .inl (nI n)), (2, .inl (nI (i + 1))), (0, .inr (.inr (some a))), (1, .inl x)]) ⟨rfl, ni_inc, rfl, rfl, trivial⟩ ?_
        refine ih (i + 1) (upd f2 i x) (by omega) (fun j hj => ?_)
        by_cases h : j = i
        · subst h; exact pk_us
        · rw [pk_un h]; exact hf j (by omega)
    refine bJ7_fill_53178_0 hX _ _ _ _ _ ⟨_, _, _, hg, by decide, ?_⟩
    have := loop n 0 f (by omega) (fun j hj => absurd hj (Nat.not_lt_zero j))
    rw [pz_grf hg] at this
    exact this
