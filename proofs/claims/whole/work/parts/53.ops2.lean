def mdF : Nat → Int32 := fun i => if i = 1 then 28 else if i = 3 ∨ i = 5 ∨ i = 8 ∨ i = 10 then 30 else 31
/-! what is known beyond the words: arrays of arrays and of references, the statics; sa, md: ArrayList's empty array, MONTH_DAYS -/
def pz_Ex (sa md mi : Nat) (B : Nat → Prop) (U : State) (J : Heap) : Prop := va_AOA .int U ∧ va_AO "LineTimes$Place" U ∧ va_AO "java/lang/Object" U ∧ va_Z "java/util/ArrayList" "DEFAULTCAPACITY_EMPTY_ELEMENTDATA" "[Ljava/lang/Object;" (.ref sa) B U J ∧ va_Z "LineTimes" "MONTH_DAYS" "[I" (.ref md) B U J ∧ (va_T (.object "java/lang/Object") sa 0 (fun _ => .null) B U J ∧ va_T .int md 12 (fun i => .int (mdF i)) B U J) ∧ va_Nw (.methodLinkNest "LineTimes$Net" 33 ⟨"LineTimes$Place", "<init>", "()V"⟩ "LineTimes") U ∧ va_Nw (.methodLinkNest "LineTimes" 18 ⟨"LineTimes$Way", "<init>", "()V"⟩ "LineTimes") U ∧ va_Nw (.methodLinkNest "LineTimes" 25 ⟨"LineTimes$Leavings", "<init>", "()V"⟩ "LineTimes") U ∧ va_Nw (.methodLinkNest "LineTimes" 32 ⟨"LineTimes$Text", "<init>", "()V"⟩ "LineTimes") U ∧ va_Mi "[Ljava/lang/Object;" mi U ∧ va_Dc U ∧ va_Nw (.castable "LineTimes$Line" "java/lang/Object") U
def pz_O2 (G : pz_Gx) (sa md mi : Nat) : Prop := pz_OK G ∧ ∀ (B : Nat → Prop) (U : State) (J : Heap), G.2.2.2 B U J → pz_Ex sa md mi B U J
/-! new int[n][m] -/
def mnU (g : pz_H) (r : Nat → Nat) (bi : Nat → List Nat) (e : pz_E) : Nat → pz_H
  | 0 => g
  | i + 1 => va_up (mnU g r bi e i) (r i) (some (bi i, e))
theorem mnU_ne {g : pz_H} {r : Nat → Nat} {bi : Nat → List Nat} {e : pz_E} {x : Nat} : ∀ n, (∀ i, i < n → r i ≠ x) → mnU g r bi e n x = g x
  | 0, _ => rfl
  | n + 1, h => by
    unfold mnU
    rw [va_up_ne _ _ (fun e => h n (by omega) e.symm)]
    exact mnU_ne n (fun i hi => h i (by omega))
theorem mnU_at {g : pz_H} {r : Nat → Nat} {bi : Nat → List Nat} {e : pz_E} : ∀ n, (∀ i j, i < n → j < n → r i = r j → i = j) → ∀ k, k < n → mnU g r bi e n (r k) = some (bi k, e)
  | 0, _, k, hk => by omega
  | n + 1, h, k, hk => by
    unfold mnU
    by_cases hkn : k = n
    · subst hkn; exact va_up_self _ _ _
    · rw [va_up_ne _ _ (fun e => hkn (h k n (by omega) (by omega) e))]
      exact mnU_at n (fun i j hi hj => h i j (by omega) (by omega)) k (by omega)
def zo_mna (R : Room) (K : pz_K) : pz_K := fun pc lv st g c s => match st with
  | .inl k :: .inl n :: r => ¬ n < 0 ∧ ¬ k < 0 ∧ n.toNatClampNeg ≤ 1000 ∧ k.toNatClampNeg ≤ 1000 ∧ c + (1 + n.toNatClampNeg) ≤ R.cells ∧ s + (n.toNatClampNeg + n.toNatClampNeg * k.toNatClampNeg) ≤ R.slots ∧ ∃ (b : List Nat) (bi : Nat → List Nat), ∀ (q : Nat) (rr : Nat → Nat), g q = none → (∀ i, i < n.toNatClampNeg → g (rr i) = none ∧ rr i ≠ q) → (∀ i j, i < n.toNatClampNeg → j < n.toNatClampNeg → rr i = rr j → i = j) → K (pc + 4) lv (.inr (.inr (some q)) :: r) (va_up (mnU g rr bi (.inl (0, k.toNatClampNeg, .inl (fun _ => 0))) n.toNatClampNeg) q (some (b, .inl (6, n.toNatClampNeg, .inr (.inr (.inr (.inr (fun i => if i < n.toNatClampNeg then some (rr i) else none)))))))) (c + 1 + n.toNatClampNeg) (s + n.toNatClampNeg + n.toNatClampNeg * k.toNatClampNeg)
  | _ => False
theorem zs_mna {X : pz_C} {cc : ByteArray} {nL : Nat} {own : String} {K : pz_K} {pc ix : Nat} {G : pz_Gx} {sa md mi : Nat} (hX : pz_X X cc nL own) (hGX : pz_GX X G) (hO : pz_O2 G sa md mi) (hw1 : Cond.classLink own ix ("[" ++ (FieldType.array .int).toString) ∈ pz_W) (hw2 : Cond.arrayClass .int ∈ pz_W) (hd : decode cc pc = .ok (.multianewarray ix 2, 4)) (hk : ∀ lv st g c s, K (pc + 4) lv st g c s → pz_Z X nL (pc + 4) lv st g c s) : ∀ lv st g c s, zo_mna (pz_rm X) K pc lv st g c s → pz_Z X nL pc lv st g c s := by
  obtain ⟨p, l, e, R, s, m, args, below, meth, c, Q, D, cy, A, En⟩ := X
  obtain ⟨hx, hb, hml, hown, hts, hK, hA, hOk, hEn⟩ := hX
  cases hGX
  have hover := (hO.2 _ _ _ hEn).1
  intro lv st g c0 s0 h ls H locs hl hP hS
  unfold zo_mna at h
  split at h
  · rename_i k n r
    obtain ⟨h0, h00, h1, h2, h3, h4, b, bi, h⟩ := h
    obtain ⟨L, hL, hPP, hD⟩ := id hP
    refine va_mna (X := []) (L := L) (f := pz_g cy g) (D := D) (ty := .int) (cy := cy 0) (N' := n.toNatClampNeg) (K' := k.toNatClampNeg) (z := (k.toNatClampNeg, .inl (fun _ => 0))) hx hb hown (hts _ hw1) hover (hts _ hw2) (hK.2 0 _ rfl).2 hK hPP hD hS hA h0 h00 rfl rfl (by omega) (Nat.le_trans (Nat.mul_le_mul_right _ h2) (by decide)) (by omega) rfl rfl h3 h4 (fun _ => ?_) hd (fun q rr cA H1 hij hrL hK1 hP1 hD1 hS1 => ?_)
    · exact arrV_new _ _ _
    · have e1 := (hK.2 6 _ rfl).2
      have e2 := (hK1.2 7 _ rfl).2
      have e3 : cy 6 = cA := Option.some.inj (e1.symm.trans e2)
      subst e3
      generalize hrs : (List.range n.toNatClampNeg).map rr = rs at hP1 hD1
      have hin : ∀ x, x ∈ rs ↔ ∃ i, i < n.toNatClampNeg ∧ rr i = x := fun x => by
        rw [← hrs, List.mem_map]
        constructor
        · rintro ⟨i, hi, e⟩; exact ⟨i, List.mem_range.mp hi, e⟩
        · rintro ⟨i, hi, e⟩; exact ⟨i, List.mem_range.mpr hi, e⟩
      have hqn : q ∉ L ++ rs := fun hq => by
        obtain ⟨k2, hk2⟩ := va_pl_get (X := []) (f := vr_up (pz_g cy g) rs (.inl (cy 0, k.toNatClampNeg, .inl (fun _ => 0)))) hq
        have := hD1.1 0 (k2 + 1) _ (q, vr_up (pz_g cy g) rs (.inl (cy 0, k.toNatClampNeg, .inl (fun _ => 0))) q) rfl (by rw [List.nil_append] at hk2 ⊢; exact hk2) rfl
        omega
      have hgq : g q = none := by
        cases hx : g q with
        | none => rfl
        | some z => exact absurd (List.mem_append_left _ ((hL q).mpr (by rw [hx]; rfl))) hqn
      have hgr : ∀ i, i < n.toNatClampNeg → g (rr i) = none ∧ rr i ≠ q := fun i hi => by
        refine ⟨?_, fun e => hqn (List.mem_append_right _ ((hin q).mpr ⟨i, hi, e⟩))⟩
        cases hx : g (rr i) with
        | none => rfl
        | some z => exact absurd ((hL (rr i)).mpr (by rw [hx]; rfl)) (hrL i hi)
      refine hk _ _ _ _ _ (h q rr hgq hgr hij) ls H1 locs hl ?_ hS1
      generalize hg' : va_up (mnU g rr bi (.inl (0, k.toNatClampNeg, .inl (fun _ => 0))) n.toNatClampNeg) q (some (b, .inl (6, n.toNatClampNeg, .inr (.inr (.inr (.inr (fun i => if i < n.toNatClampNeg then some (rr i) else none))))))) = g'
      have gq : g' q = some (b, .inl (6, n.toNatClampNeg, .inr (.inr (.inr (.inr (fun i => if i < n.toNatClampNeg then some (rr i) else none)))))) := by rw [← hg']; exact va_up_self _ _ _
      have gr : ∀ i, i < n.toNatClampNeg → g' (rr i) = some (bi i, .inl (0, k.toNatClampNeg, .inl (fun _ => 0))) := fun i hi => by
        rw [← hg', va_up_ne _ _ (hgr i hi).2]
        exact mnU_at _ hij i hi
      have go : ∀ x, x ≠ q → x ∉ rs → g' x = g x := fun x h1 h2 => by
        rw [← hg', va_up_ne _ _ h1]
        exact mnU_ne _ (fun i hi e => h2 ((hin x).mpr ⟨i, hi, e⟩))
      have hpl : va_pl (L ++ rs) (vr_up (pz_g cy g) rs (.inl (cy 0, k.toNatClampNeg, .inl (fun _ => 0)))) = va_pl (L ++ rs) (pz_g cy g') := by
        unfold va_pl
        apply List.map_congr_left
        intro x hx
        refine congrArg (Prod.mk x) ?_
        by_cases hxr : x ∈ rs
        · obtain ⟨i, hi, rfl⟩ := (hin x).mp hxr
          rw [vr_up_in hxr]
          unfold pz_g
          rw [gr i hi]; rfl
        · rw [vr_up_ne hxr]
          have hxq : x ≠ q := fun e => hqn (by rw [← e]; exact hx)
          unfold pz_g
          rw [go x hxq hxr]
      have hgq2 : pz_g cy g' q = .inl (cy 6, n.toNatClampNeg, .inr (.inr (.inr (.inr (fun i => if i < n.toNatClampNeg then some (rr i) else none))))) := by
        unfold pz_g
        rw [gq]; rfl
      rw [hpl, ← hgq2] at hP1 hD1
      refine ⟨q :: (L ++ rs), fun x => ?_, hP1, hD1⟩
      by_cases hxq : x = q
      · subst hxq; rw [gq]; simp
      · by_cases hxr : x ∈ rs
        · obtain ⟨i, hi, rfl⟩ := (hin x).mp hxr
          rw [gr i hi]; simp [hxr]
        · rw [go x hxq hxr, ← hL x]
          simp [hxq, hxr]
  · exact h.elim
