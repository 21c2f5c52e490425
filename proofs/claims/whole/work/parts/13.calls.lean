/-! contracts over the pool -/
abbrev pz_Gx : Type := Launch × va_G × (Nat → ClassId) × ((Nat → Prop) → State → Heap → Prop)
def pz_GX (X : pz_C) (G : pz_Gx) : Prop := match X with
  | (_, l, _, _, _, _, _, _, _, _, _, D, cy, _, En) => (l, D, cy, En) = G
def pz_A (g : pz_H) (sz : Nat) : Nat → Prop := fun q => (g q).isSome = true ∨ sz ≤ q
def pz_sh (ret : Option FieldType) (v : Option pz_V) : Prop := match ret with
  | none => v = none
  | some .int => ∃ x, v = some (.inl x)
  | some .boolean => ∃ x, v = some (.inl x) ∧ (x = 0 ∨ x = 1)
  | some .long => ∃ x, v = some (.inr (.inl x))
  | some _ => ∃ r, v = some (.inr (.inr r))
def pz_Q (D : va_G) (cy : Nat → ClassId) (ret : Option FieldType) (A : Nat → Prop) (post : Option pz_V → pz_H → Prop) : Array Value → State → Outcome → State → Prop := fun _ st oc t =>
  (∃ (v : Option pz_V) (g' : pz_H), oc = .returned (v.map pz_v) ∧ pz_sh ret v ∧ post v g' ∧ pz_P D cy A g' t.heap ∧ va_K D vwCl (pz_ty cy) t) ∧ va_F A st t
def pz_Pr (D : va_G) (cy : Nat → ClassId) (En : (Nat → Prop) → State → Heap → Prop) (av : List pz_V) (g : pz_H) (sz : Nat) : Array Value → State → Prop :=
  va_Pc (av.map pz_v) (fun U => U.heap.size = sz ∧ pz_P D cy (fun _ => True) g U.heap ∧ va_K D vwCl (pz_ty cy) U ∧ En (pz_A g sz) U U.heap)
def pz_M (G : pz_Gx) (y : MethodName) (cc : ByteArray) (maxL : Nat) (ret : Option FieldType) (rm : Room) (pre : List pz_V → pz_H → Prop) (post : List pz_V → pz_H → Option pz_V → pz_H → Prop) : Prop :=
  ∀ (av : List pz_V) (g : pz_H) (sz : Nat), pre av g → Met G.1 y (.code y cc maxL ret :: pz_W) rm (pz_Pr G.2.1 G.2.2.1 G.2.2.2 av g sz) (pz_Q G.2.1 G.2.2.1 ret (pz_A g sz) (post av g)) rm.cells rm.slots (pz_A g sz)
def pz_ar : Nat → List pz_V → pz_L
  | _, [] => []
  | i, v :: vs => (i, v) :: pz_ar (if pz_2 v = true then i + 2 else i + 1) vs
def pz_w : List pz_V → Nat
  | [] => 0
  | v :: vs => (if pz_2 v = true then 2 else 1) + pz_w vs
theorem pz_cat2 (v : pz_V) : (pz_v v).category = 2 ↔ pz_2 v = true := by
  rw [← pz_cat]; simp
theorem pz_ar_lv : ∀ (i : Nat) (av : List pz_V), lv_args i (av.map pz_v) = pz_lv (pz_ar i av)
  | _, [] => rfl
  | i, v :: vs => by
    show (i, pz_v v) :: lv_args (if (pz_v v).category = 2 then i + 2 else i + 1) (vs.map pz_v) = _
    rw [pz_ar_lv]
    simp only [pz_cat2]
    rfl
theorem pz_w_sl : ∀ av : List pz_V, (lg_sl (av.map pz_v)).length = pz_w av
  | [] => rfl
  | v :: vs => by
    have ih := pz_w_sl vs
    unfold lg_sl at ih ⊢
    rw [List.map_cons, List.flatMap_cons, List.length_append, ih]
    show _ = (if pz_2 v = true then 2 else 1) + pz_w vs
    simp only [pz_cat2]
    by_cases h : pz_2 v = true
    · rw [if_pos h, if_pos h]; rfl
    · rw [if_neg h, if_neg h]; rfl
/-! a body's ends -/
def pz_Rt (X : pz_C) (cc : ByteArray) (nL : Nat) (ret : Option FieldType) (rm : Room) (E : Option pz_V → pz_H → Prop) : Prop :=
  ∀ (pc : Nat) (lv : pz_L) (v : Option pz_V) (g : pz_H) (c s : Nat), pz_sh ret v → c ≤ rm.cells → s ≤ rm.slots → E v g →
    ((v = none → decode cc pc = .ok (.return_, 1)) ∧ (∀ x, v = some (.inl x) → decode cc pc = .ok (.ireturn, 1)) ∧ (∀ x, v = some (.inr (.inl x)) → decode cc pc = .ok (.lreturn, 1)) ∧ (∀ r, v = some (.inr (.inr r)) → decode cc pc = .ok (.areturn, 1))) → pz_Z X nL pc lv v.toList g c s
theorem pz_ofZ {G : pz_Gx} {y : MethodName} {cc : ByteArray} {maxL : Nat} {ret : Option FieldType} {rm : Room} {pre : List pz_V → pz_H → Prop} {post : List pz_V → pz_H → Option pz_V → pz_H → Prop} (hy : plainName y.cls = true) (hOk : pz_Ok G.2.2.2) (hret : ret = none ∨ ret = some .int ∨ ret = some .boolean ∨ ret = some .long ∨ (∃ n, ret = some (.object n)) ∨ ∃ t, ret = some (.array t))
    (hlen : ∀ av g, pre av g → pz_w av ≤ maxL) (body : ∀ X : pz_C, pz_X X cc maxL y.cls → pz_GX X G → pz_rm X = rm → (y.name = "<init>" → pz_N X) → ∀ av g, pre av g → pz_Rt X cc maxL ret rm (post av g) → pz_Z X maxL 0 (pz_ar 0 av) [] g 0 0) : pz_M G y cc maxL ret rm pre post := by
  obtain ⟨l, D, cy, En⟩ := G
  intro av g sz hpre
  refine Met.ofW (cc := cc) (maxL := maxL) (ret := ret) hy rfl ?_
  intro p e s m args below meth c s₁ B hml hv
  obtain ⟨rfl, hsz, hP, hK, hEn⟩ := hv
  subst hsz
  have hx := B.exec
  have hb := B.bytes
  have hr := B.returns
  have hts0 := atoms_spec (ws := .code y cc maxL ret :: pz_W) B.pre
  have hts : ∀ w ∈ pz_W, w.before ((av.map pz_v).toArray) s = true := fun w hw => hts0 w (List.mem_cons_of_mem _ hw)
  have hown : s.vm.findClass y.cls = some m.cls := findClass_of_methodNamed B.named
  have hlocks := B.notSynchronized
  have hnm : y.name = "<init>" → meth.name = "<init>" := fun h => by rw [(name_of_methodNamed B.named B.method).1]; exact h
  have hA : ∀ q : Nat, s.heap.size ≤ q → pz_A g s.heap.size q := fun q h => Or.inr h
  have hP0 : pz_P D cy (pz_A g s.heap.size) g s.heap := hP.weaken (fun a q h _ => Or.inl (by rw [h]; rfl))
  have hRt : pz_Rt (p, l, e, rm, s, m, (av.map pz_v).toArray, below, meth, c, MQ below (pz_Q D cy ret (pz_A g s.heap.size) (post av g)) ((av.map pz_v).toArray) s rm.cells rm.slots (pz_A g s.heap.size), D, cy, pz_A g s.heap.size, En) cc maxL ret rm (post av g) := by
    intro pc lv v g' c0 s0 hsh hc0 hs0 hE hd ls H locs hl hPp hS
    have hq : ∀ t : State, t.heap = H → s.WarmedH t.vm → pz_Q D cy ret (pz_A g s.heap.size) (post av g) ((av.map pz_v).toArray) s (.returned (v.map pz_v)) t := fun t ht hW => ⟨⟨v, g', rfl, hsh, hE, by rw [ht]; exact hPp, va_K.moved hW.alike hK⟩, hS.F ht⟩
    refine W.widen hc0 hs0 ?_
    rcases hret with rfl | rfl | rfl | rfl | ⟨n, rfl⟩ | ⟨t, rfl⟩
    · cases hsh
      exact W.vret hx hb hr hq hS.2.2 (hd.1 rfl) hlocks
    · obtain ⟨x, rfl⟩ := hsh
      exact W.iret hx hb hr hq hS.2.2 (hd.2.1 x rfl) hlocks
    · obtain ⟨x, rfl, h01⟩ := hsh
      exact W.zret (ty := .boolean) hx hb hr (by rcases h01 with rfl | rfl <;> rfl) hq hS.2.2 (hd.2.1 x rfl) hlocks
    · obtain ⟨x, rfl⟩ := hsh
      exact W.lret hx hb hr hq hS.2.2 (hd.2.2.1 x rfl) hlocks
    · obtain ⟨r, rfl⟩ := hsh
      exact W.aret hx hb hr (Or.inl ⟨n, rfl⟩) (va_rf_or r) hq hS.2.2 (hd.2.2.2 r rfl) hlocks
    · obtain ⟨r, rfl⟩ := hsh
      exact W.aret hx hb hr (Or.inr ⟨t, rfl⟩) (va_rf_or r) hq hS.2.2 (hd.2.2.2 r rfl) hlocks
  have hZ := body (p, l, e, rm, s, m, (av.map pz_v).toArray, below, meth, c, MQ below (pz_Q D cy ret (pz_A g s.heap.size) (post av g)) ((av.map pz_v).toArray) s rm.cells rm.slots (pz_A g s.heap.size), D, cy, pz_A g s.heap.size, En) ⟨hx, hb, hml, hown, hts, hK, hA, hOk, hEn⟩ rfl rfl hnm av g hpre hRt
  have hle := lv_entry (av.map pz_v) (n := maxL) (by rw [pz_w_sl]; exact hlen av g hpre)
  rw [pz_ar_lv] at hle
  rw [lg_entry_eq]
  exact hZ _ s.heap [] hle hP0 va_S.rf

def zo_ri (rm : Room) (E : Option pz_V → pz_H → Prop) : pz_K := fun pc lv st g c s => match st with
  | [.inl x] => c ≤ rm.cells ∧ s ≤ rm.slots ∧ E (some (.inl x)) g
  | _ => False
theorem zs_ri {X : pz_C} {cc : ByteArray} {nL pc : Nat} {rm : Room} {E : Option pz_V → pz_H → Prop} (hR : pz_Rt X cc nL (some .int) rm E) (hd : decode cc pc = .ok (.ireturn, 1)) : ∀ lv st g c s, zo_ri rm E pc lv st g c s → pz_Z X nL pc lv st g c s := by
  intro lv st g c s h
  unfold zo_ri at h
  split at h
  · rename_i x
    exact hR pc lv (some (.inl x)) g c s ⟨x, rfl⟩ h.1 h.2.1 h.2.2 ⟨fun q => (by first | exact hd | cases q), fun _ q => (by first | exact hd | cases q), fun _ q => (by first | exact hd | cases q), fun _ q => (by first | exact hd | cases q)⟩
  · exact h.elim
def zo_rz (rm : Room) (E : Option pz_V → pz_H → Prop) : pz_K := fun pc lv st g c s => match st with
  | [.inl x] => (x = 0 ∨ x = 1) ∧ c ≤ rm.cells ∧ s ≤ rm.slots ∧ E (some (.inl x)) g
  | _ => False
theorem zs_rz {X : pz_C} {cc : ByteArray} {nL pc : Nat} {rm : Room} {E : Option pz_V → pz_H → Prop} (hR : pz_Rt X cc nL (some .boolean) rm E) (hd : decode cc pc = .ok (.ireturn, 1)) : ∀ lv st g c s, zo_rz rm E pc lv st g c s → pz_Z X nL pc lv st g c s := by
  intro lv st g c s h
  unfold zo_rz at h
  split at h
  · rename_i x
    exact hR pc lv (some (.inl x)) g c s ⟨x, rfl, h.1⟩ h.2.1 h.2.2.1 h.2.2.2 ⟨fun q => (by first | exact hd | cases q), fun _ q => (by first | exact hd | cases q), fun _ q => (by first | exact hd | cases q), fun _ q => (by first | exact hd | cases q)⟩
  · exact h.elim
def zo_rl (rm : Room) (E : Option pz_V → pz_H → Prop) : pz_K := fun pc lv st g c s => match st with
  | [.inr (.inl x)] => c ≤ rm.cells ∧ s ≤ rm.slots ∧ E (some (.inr (.inl x))) g
  | _ => False
theorem zs_rl {X : pz_C} {cc : ByteArray} {nL pc : Nat} {rm : Room} {E : Option pz_V → pz_H → Prop} (hR : pz_Rt X cc nL (some .long) rm E) (hd : decode cc pc = .ok (.lreturn, 1)) : ∀ lv st g c s, zo_rl rm E pc lv st g c s → pz_Z X nL pc lv st g c s := by
  intro lv st g c s h
  unfold zo_rl at h
  split at h
  · rename_i x
    exact hR pc lv (some (.inr (.inl x))) g c s ⟨x, rfl⟩ h.1 h.2.1 h.2.2 ⟨fun q => (by first | exact hd | cases q), fun _ q => (by first | exact hd | cases q), fun _ q => (by first | exact hd | cases q), fun _ q => (by first | exact hd | cases q)⟩
  · exact h.elim
def zo_rr (rm : Room) (E : Option pz_V → pz_H → Prop) : pz_K := fun pc lv st g c s => match st with
  | [.inr (.inr x)] => c ≤ rm.cells ∧ s ≤ rm.slots ∧ E (some (.inr (.inr x))) g
  | _ => False
theorem zs_rr {X : pz_C} {cc : ByteArray} {nL pc : Nat} {rm : Room} {E : Option pz_V → pz_H → Prop} {ret : Option FieldType} (hret : (∃ n, ret = some (.object n)) ∨ ∃ t, ret = some (.array t)) (hR : pz_Rt X cc nL ret rm E) (hd : decode cc pc = .ok (.areturn, 1)) : ∀ lv st g c s, zo_rr rm E pc lv st g c s → pz_Z X nL pc lv st g c s := by
  intro lv st g c s h
  unfold zo_rr at h
  split at h
  · rename_i x
    exact hR pc lv (some (.inr (.inr x))) g c s (by rcases hret with ⟨n, rfl⟩ | ⟨t, rfl⟩ <;> exact ⟨x, rfl⟩) h.1 h.2.1 h.2.2 ⟨fun q => (by first | exact hd | cases q), fun _ q => (by first | exact hd | cases q), fun _ q => (by first | exact hd | cases q), fun _ q => (by first | exact hd | cases q)⟩
  · exact h.elim
def zo_rv (rm : Room) (E : Option pz_V → pz_H → Prop) : pz_K := fun pc lv st g c s => match st with
  | [] => c ≤ rm.cells ∧ s ≤ rm.slots ∧ E (none) g
  | _ => False
theorem zs_rv {X : pz_C} {cc : ByteArray} {nL pc : Nat} {rm : Room} {E : Option pz_V → pz_H → Prop} (hR : pz_Rt X cc nL none rm E) (hd : decode cc pc = .ok (.return_, 1)) : ∀ lv st g c s, zo_rv rm E pc lv st g c s → pz_Z X nL pc lv st g c s := by
  intro lv st g c s h
  unfold zo_rv at h
  split at h
  · exact hR pc lv (none) g c s rfl h.1 h.2.1 h.2.2 ⟨fun q => (by first | exact hd | cases q), fun _ q => (by first | exact hd | cases q), fun _ q => (by first | exact hd | cases q), fun _ q => (by first | exact hd | cases q)⟩
  · exact h.elim
/-! calls -/
theorem pz_blind {D : va_G} {cy : Nat → ClassId} {En : (Nat → Prop) → State → Heap → Prop} (hOk : pz_Ok En) (av : List pz_V) (g : pz_H) (sz : Nat) : FrameBlind (pz_Pr D cy En av g sz) := by
  intro a U fr mk q
  obtain ⟨q0, q1, q2, q3, q4⟩ := q
  exact ⟨q0, q1, q2, va_K.moved (u := U) (U := U.calling fr mk a) (Vm.Alike.refl U.vm) q3, hOk _ _ U (U.calling fr mk a) _ _ q4 (State.WarmedH.refl U) (fun _ h => h) (fun _ _ _ => rfl)⟩
section PZC
variable {p : Program} {l : Launch} {e : Env} {R : Room} {s : State} {m : MethodId} {args : Array Value} {below : List Frame} {meth : Method} {c : Code} {H : Heap} {locs : List Loc} {cells slots : Nat} {Q : State → Prop}
variable {D : va_G} {cy : Nat → ClassId} {A : Nat → Prop} {En : (Nat → Prop) → State → Heap → Prop} {g : pz_H}
theorem pz_subA (hP : pz_P D cy A g H) (hS : va_S A s.heap H locs) (hA : ∀ q, s.heap.size ≤ q → A q) : ∀ q, pz_A g H.size q → A q := by
  intro q h
  rcases h with h | h
  · cases hq : g q with
    | none => rw [hq] at h; cases h
    | some z => exact (hP.mem hq).1
  · exact hA q (Nat.le_trans hS.1 h)
theorem pz_preOf (hOk : pz_Ok En) (hEn : En A s s.heap) (hP : pz_P D cy A g H) (hS : va_S A s.heap H locs) (hA : ∀ q, s.heap.size ≤ q → A q) (hK : va_K D vwCl (pz_ty cy) s) (av : List pz_V) : ∀ U : State, U.heap = H → s.WarmedH U.vm → pz_Pr D cy En av g H.size (av.map pz_v).toArray U := by
  intro U hU hW
  refine ⟨rfl, by rw [hU], by rw [hU]; exact hP.weaken (fun _ _ _ _ => trivial), va_K.moved hW.alike hK, ?_⟩
  exact hOk A (pz_A g H.size) s U s.heap U.heap hEn hW (pz_subA hP hS hA) (fun a h1 h2 => by rw [hU]; exact hS.2.1 a h1 h2)
theorem pz_callW {mc ms pc : Nat} {ls : Array Slot} {st0 rest : List Value} {ret : Option FieldType} {A1 : Nat → Prop} {post : Option pz_V → pz_H → Prop} {a : Array Value} (hr : va_Run p l e R s m args below meth c H locs cells slots mc ms (F0 m pc ls st0) rest (pz_Q D cy ret A1 post a) A1) (hS : va_S A s.heap H locs) (hA1 : ∀ q, A1 q → A q)
    (kk : ∀ (v : Option pz_V) (g' : pz_H) (H1 : Heap) (locs1 : List Loc), pz_sh ret v → post v g' → pz_P D cy A g' H1 → va_S A s.heap H1 locs1 → W p l e R s m args below meth c H1 locs1 (cells + mc) (slots + ms) Q (F0 m (pc + 3) ls ((v.map pz_v).toList ++ rest))) : W p l e R s m args below meth c H locs cells slots Q (F0 m pc ls st0) := by
  intro T hT X
  obtain ⟨v, st₀, t, T', L, h0, X', hL, e1, e2, ⟨⟨r, u, hv, hsh, hp, hb, hK⟩, hz, hk⟩, st⟩ := hr T hT X
  cases hv
  rw [h0] at hz hk
  obtain ⟨t2, a1, b1⟩ := kk r u T'.heap (locs ++ L) hsh hp (by rw [e1]; exact hb.weaken (fun q _ _ h => hA1 q h))
    ⟨Nat.le_trans hS.1 (by rw [e1]; exact hz), fun q h1 h2 => by rw [e1, hk q (Nat.lt_of_lt_of_le h1 hS.1) (fun z => h2 (hA1 q z))]; exact hS.2.1 q h1 h2, fun q hq => by
      rcases List.mem_append.mp hq with h | h
      · exact hS.2.2 q h
      · exact hA1 _ (hL q h)⟩ T' rfl X'
  exact ⟨t2, st t2 a1, b1⟩
theorem pz_callW5 {mc ms pc : Nat} {ls : Array Slot} {st0 rest : List Value} {ret : Option FieldType} {A1 : Nat → Prop} {post : Option pz_V → pz_H → Prop} {a : Array Value} (hr : va_Run5 p l e R s m args below meth c H locs cells slots mc ms (F0 m pc ls st0) rest (pz_Q D cy ret A1 post a) A1) (hS : va_S A s.heap H locs) (hA1 : ∀ q, A1 q → A q)
    (kk : ∀ (v : Option pz_V) (g' : pz_H) (H1 : Heap) (locs1 : List Loc), pz_sh ret v → post v g' → pz_P D cy A g' H1 → va_S A s.heap H1 locs1 → W p l e R s m args below meth c H1 locs1 (cells + mc) (slots + ms) Q (F0 m (pc + 5) ls ((v.map pz_v).toList ++ rest))) : W p l e R s m args below meth c H locs cells slots Q (F0 m pc ls st0) := by
  intro T hT X
  obtain ⟨v, st₀, t, T', L, h0, X', hL, e1, e2, ⟨⟨r, u, hv, hsh, hp, hb, hK⟩, hz, hk⟩, st⟩ := hr T hT X
  cases hv
  rw [h0] at hz hk
  obtain ⟨t2, a1, b1⟩ := kk r u T'.heap (locs ++ L) hsh hp (by rw [e1]; exact hb.weaken (fun q _ _ h => hA1 q h))
    ⟨Nat.le_trans hS.1 (by rw [e1]; exact hz), fun q h1 h2 => by rw [e1, hk q (Nat.lt_of_lt_of_le h1 hS.1) (fun z => h2 (hA1 q z))]; exact hS.2.1 q h1 h2, fun q hq => by
      rcases List.mem_append.mp hq with h | h
      · exact hS.2.2 q h
      · exact hA1 _ (hL q h)⟩ T' rfl X'
  exact ⟨t2, st t2 a1, b1⟩
end PZC
theorem pz_GoodIn {y : MethodName} {cc : ByteArray} {maxL : Nat} {ret : Option FieldType} (hw : Cond.code y cc maxL ret ∈ pz_W) : GoodIn pz_W (.code y cc maxL ret :: pz_W) := fun w h => by
  rcases List.mem_cons.mp h with rfl | h
  · exact ⟨hw, good_of_word (pz_good hw)⟩
  · exact ⟨h, good_of_word (pz_good h)⟩
theorem pz_GoodC {w : Cond} {ws : List Cond} (hw : w ∈ pz_W) (h : GoodIn pz_W ws) : GoodIn pz_W (w :: ws) := fun v hv => by
  rcases List.mem_cons.mp hv with rfl | h2
  · exact ⟨hw, good_of_word (pz_good hw)⟩
  · exact h v h2
theorem pz_stk (st : List pz_V) (n : Nat) : st.map pz_v = ((st.take n).reverse.map pz_v).reverse ++ (st.drop n).map pz_v := by
  rw [List.map_reverse, List.reverse_reverse, ← List.map_append, List.take_append_drop]
/-- what a call needs, and what it leaves -/
def zo_c (R : Room) (n len mc ms : Nat) (pre : List pz_V → pz_H → Prop) (post : List pz_V → pz_H → Option pz_V → pz_H → Prop) (KK : Option pz_V → pz_K) : pz_K := fun pc lv st g c s =>
  c + mc ≤ R.cells ∧ s + ms ≤ R.slots ∧ ((st.drop n).map (fun v => (pz_v v).category)).sum ≤ 8 ∧ pre (st.take n).reverse g ∧ ∀ (v : Option pz_V) (g' : pz_H), post (st.take n).reverse g v g' → KK v (pc + len) lv (st.drop n) g' (c + mc) (s + ms)
def zo_kv (K : pz_K) : Option pz_V → pz_K := fun v pc lv st g c s => v = none → K pc lv st g c s
def zo_ki (K : pz_K) : Option pz_V → pz_K := fun v pc lv st g c s => ∀ x, v = some (.inl x) → K pc lv (.inl x :: st) g c s
def zo_kz (K : pz_K) : Option pz_V → pz_K := fun v pc lv st g c s => ∀ x, v = some (.inl x) → (x = 0 ∨ x = 1) → K pc lv (.inl x :: st) g c s
def zo_kl (K : pz_K) : Option pz_V → pz_K := fun v pc lv st g c s => ∀ x, v = some (.inr (.inl x)) → K pc lv (.inr (.inl x) :: st) g c s
def zo_kr (K : pz_K) : Option pz_V → pz_K := fun v pc lv st g c s => ∀ r, v = some (.inr (.inr r)) → K pc lv (.inr (.inr r) :: st) g c s
def zo_KOk (X : pz_C) (nL pc : Nat) (ret : Option FieldType) (KK : Option pz_V → pz_K) : Prop := ∀ v lv st g c s, pz_sh ret v → KK v pc lv st g c s → pz_Z X nL pc lv (v.toList ++ st) g c s

theorem zs_kv {X : pz_C} {nL pc : Nat} {K : pz_K} (hk : ∀ lv st g c s, K pc lv st g c s → pz_Z X nL pc lv st g c s) : zo_KOk X nL pc none (zo_kv K) := by
  intro v lv st g c s hsh h
  cases hsh; exact hk _ _ _ _ _ (h rfl)
theorem zs_ki {X : pz_C} {nL pc : Nat} {K : pz_K} (hk : ∀ lv st g c s, K pc lv st g c s → pz_Z X nL pc lv st g c s) : zo_KOk X nL pc (some .int) (zo_ki K) := by
  intro v lv st g c s hsh h
  obtain ⟨x, rfl⟩ := hsh; exact hk _ _ _ _ _ (h x rfl)
theorem zs_kz {X : pz_C} {nL pc : Nat} {K : pz_K} (hk : ∀ lv st g c s, K pc lv st g c s → pz_Z X nL pc lv st g c s) : zo_KOk X nL pc (some .boolean) (zo_kz K) := by
  intro v lv st g c s hsh h
  obtain ⟨x, rfl, h01⟩ := hsh; exact hk _ _ _ _ _ (h x rfl h01)
theorem zs_kl {X : pz_C} {nL pc : Nat} {K : pz_K} (hk : ∀ lv st g c s, K pc lv st g c s → pz_Z X nL pc lv st g c s) : zo_KOk X nL pc (some .long) (zo_kl K) := by
  intro v lv st g c s hsh h
  obtain ⟨x, rfl⟩ := hsh; exact hk _ _ _ _ _ (h x rfl)
theorem zs_kr {X : pz_C} {nL pc : Nat} {K : pz_K} {ret : Option FieldType} (hret : (∃ n, ret = some (.object n)) ∨ ∃ t, ret = some (.array t)) (hk : ∀ lv st g c s, K pc lv st g c s → pz_Z X nL pc lv st g c s) : zo_KOk X nL pc ret (zo_kr K) := by
  intro v lv st g c s hsh h
  rcases hret with ⟨n, rfl⟩ | ⟨t, rfl⟩ <;> (obtain ⟨x, rfl⟩ := hsh; exact hk _ _ _ _ _ (h x rfl))
theorem zs_cS {X : pz_C} {cc : ByteArray} {nL : Nat} {own : String} {KK : Option pz_V → pz_K} {pc : Nat} {G : pz_Gx} {y : MethodName} {bytes : ByteArray} {maxL n ix : Nat} {ret : Option FieldType} {rm : Room} {pre : List pz_V → pz_H → Prop} {post : List pz_V → pz_H → Option pz_V → pz_H → Prop} (hX : pz_X X cc nL own) (hGX : pz_GX X G) (hM : pz_M G y bytes maxL ret rm pre post) (hw1 : Cond.methodLink own ix y ∈ pz_W) (hw2 : Cond.static y ∈ pz_W) (hw3 : Cond.initialized y.cls ∈ pz_W) (hw4 : Cond.code y bytes maxL ret ∈ pz_W) (hdd : y.cls ≠ "java/lang/invoke/MethodHandle" ∧ y.cls ≠ "java/lang/invoke/VarHandle" ∧ (parseMethodDescriptor y.desc).map (fun d => d.parameters.length) = some n) (hR : rm.frames + 1 ≤ (pz_rm X).frames ∧ 8 + (maxL + 11) + rm.locals ≤ (pz_rm X).locals) (hd : decode cc pc = .ok (.invokestatic ix, 3)) (hk : zo_KOk X nL (pc + 3) ret KK) : ∀ lv st g c s, n ≤ st.length → zo_c (pz_rm X) n 3 rm.cells rm.slots pre post KK pc lv st g c s → pz_Z X nL pc lv st g c s := by
  obtain ⟨p, l, e, R, s, m, args, below, meth, c, Q, D, cy, A, En⟩ := X
  obtain ⟨hx, hb, hml, hown, hts, hK, hA, hOk, hEn⟩ := hX
  obtain ⟨l', D', cy', En'⟩ := G
  cases hGX
  intro lv st g c0 s0 hn h ls H locs hl hP hS
  obtain ⟨h1, h2, h3, h4, h5⟩ := h
  have hg := pz_GoodC hw1 (pz_GoodC hw2 (pz_GoodC hw3 (pz_GoodIn hw4)))
  have hr := va_runS (As := (st.take n).reverse.map pz_v) (rest := (st.drop n).map pz_v) (g := F0 m pc ls (st.map pz_v)) (cells := c0) (slots := s0) (locs := locs) (below := below) (meth := meth) (R := R) (e := e) ⟨hx, hb, hml, hown, hts⟩ (hM (st.take n).reverse g H.size h4) (va_cwS n hts hg rfl rfl rfl hdd hR) ⟨pz_blind hOk _ _ _, pz_preOf hOk hEn hP hS hA hK _⟩ rfl (by rw [List.length_map, List.length_reverse, List.length_take]; omega) hl.1 (pz_stk st n) (by have e9 : 2 * (F0 m pc ls (st.map pz_v)).monitorRoom = 0 := rfl; rw [e9, List.map_map, Nat.zero_add]; exact h3) hd ⟨h1, h2⟩
  exact pz_callW hr hS (pz_subA hP hS hA) (fun v g' H1 locs1 hsh hp hP1 hS1 => by
    have := hk v lv (st.drop n) g' _ _ hsh (h5 v g' hp) ls H1 locs1 hl hP1 hS1
    rw [List.map_append] at this
    cases v <;> exact this)
theorem zs_cI {X : pz_C} {cc : ByteArray} {nL : Nat} {own : String} {KK : Option pz_V → pz_K} {pc : Nat} {G : pz_Gx} {y : MethodName} {bytes : ByteArray} {maxL n ix : Nat} {rm : Room} {pre : List pz_V → pz_H → Prop} {post : List pz_V → pz_H → Option pz_V → pz_H → Prop} (hX : pz_X X cc nL own) (hGX : pz_GX X G) (hM : pz_M G y bytes maxL none rm pre post) (hw1 : Cond.methodLink own ix y ∈ pz_W) (hw2 : Cond.instanceMethod y ∈ pz_W) (hw3 : Cond.initialized y.cls ∈ pz_W) (hw4 : Cond.code y bytes maxL none ∈ pz_W) (hy1 : y.name = "<init>") (hdd : y.cls ≠ "java/lang/invoke/MethodHandle" ∧ y.cls ≠ "java/lang/invoke/VarHandle" ∧ (parseMethodDescriptor y.desc).map (fun d => d.parameters.length) = some n) (hR : rm.frames + 1 ≤ (pz_rm X).frames ∧ 8 + (maxL + 11) + rm.locals ≤ (pz_rm X).locals) (hd : decode cc pc = .ok (.invokespecial ix, 3)) (hk : zo_KOk X nL (pc + 3) none KK) : ∀ lv st g c s, n + 1 ≤ st.length → (∃ b As, (st.take (n + 1)).reverse = .inr (.inr (some b)) :: As) → zo_c (pz_rm X) (n + 1) 3 rm.cells rm.slots pre post KK pc lv st g c s → pz_Z X nL pc lv st g c s := by
  obtain ⟨p, l, e, R, s, m, args, below, meth, c, Q, D, cy, A, En⟩ := X
  obtain ⟨hx, hb, hml, hown, hts, hK, hA, hOk, hEn⟩ := hX
  obtain ⟨l', D', cy', En'⟩ := G
  cases hGX
  intro lv st g c0 s0 hn hav h ls H locs hl hP hS
  obtain ⟨h1, h2, h3, h4, h5⟩ := h
  obtain ⟨b, As, hAs⟩ := hav
  have hlen : As.length = n := by
    have := congrArg List.length hAs
    rw [List.length_reverse, List.length_take, List.length_cons] at this
    omega
  have hstk : (F0 m pc ls (st.map pz_v)).stack = (As.map pz_v).reverse ++ .ref b :: (st.drop (n + 1)).map pz_v := by
    have := pz_stk st (n + 1)
    rw [hAs, List.map_cons, List.reverse_cons, List.append_assoc] at this
    exact this
  rw [hAs] at h4 h5
  have hr := va_runI (As := As.map pz_v) (rest := (st.drop (n + 1)).map pz_v) (b := b) (g := F0 m pc ls (st.map pz_v)) (cells := c0) (slots := s0) (locs := locs) (below := below) (meth := meth) (R := R) (e := e) ⟨hx, hb, hml, hown, hts⟩ (hM (.inr (.inr (some b)) :: As) g H.size h4) (cwI n hts (pz_GoodIn hw4) rfl rfl rfl (hts _ hw3) (hts _ hw1) (hts _ hw2) hy1 hdd hR) ⟨pz_blind hOk _ _ _, pz_preOf hOk hEn hP hS hA hK (.inr (.inr (some b)) :: As)⟩ rfl (by rw [List.length_map]; exact hlen) hl.1 hstk (by have e9 : 2 * (F0 m pc ls (st.map pz_v)).monitorRoom = 0 := rfl; rw [e9, List.map_map, Nat.zero_add]; exact h3) hd ⟨h1, h2⟩
  exact pz_callW hr hS (pz_subA hP hS hA) (fun v g' H1 locs1 hsh hp hP1 hS1 => by
    have := hk v lv (st.drop (n + 1)) g' _ _ hsh (h5 v g' hp) ls H1 locs1 hl hP1 hS1
    rw [List.map_append] at this
    cases v <;> exact this)
theorem zs_cV {X : pz_C} {cc : ByteArray} {nL : Nat} {own : String} {KK : Option pz_V → pz_K} {pc : Nat} {G : pz_Gx} {y : MethodName} {bytes : ByteArray} {maxL n ix : Nat} {ret : Option FieldType} {rm : Room} {pre : List pz_V → pz_H → Prop} {post : List pz_V → pz_H → Option pz_V → pz_H → Prop} (hX : pz_X X cc nL own) (hGX : pz_GX X G) {C : String} {T : u_T} {N ci : Nat} (hc : vwCl[ci]? = some (C, T, N)) (hM : pz_M G y bytes maxL ret rm pre post) (hw1 : Cond.methodLink own ix y ∈ pz_W) (hw2 : Cond.instanceMethod y ∈ pz_W) (hw5 : Cond.selects C y y ∈ pz_W) (hw3 : Cond.initialized C ∈ pz_W) (hw4 : Cond.code y bytes maxL ret ∈ pz_W) (hdd : y.cls = C ∧ y.cls ≠ "java/lang/invoke/MethodHandle" ∧ y.cls ≠ "java/lang/invoke/VarHandle" ∧ (parseMethodDescriptor y.desc).map (fun d => d.parameters.length) = some n) (hR : rm.frames + 1 ≤ (pz_rm X).frames ∧ 8 + (maxL + 11) + rm.locals ≤ (pz_rm X).locals) (hd : decode cc pc = .ok (.invokevirtual ix, 3)) (hk : zo_KOk X nL (pc + 3) ret KK) : ∀ lv st g c s, n + 1 ≤ st.length → (∃ b As lb fs, (st.take (n + 1)).reverse = .inr (.inr (some b)) :: As ∧ g b = some (lb, .inr (ci, fs))) → zo_c (pz_rm X) (n + 1) 3 rm.cells rm.slots pre post KK pc lv st g c s → pz_Z X nL pc lv st g c s := by
  obtain ⟨p, l, e, R, s, m, args, below, meth, c, Q, D, cy, A, En⟩ := X
  obtain ⟨hx, hb, hml, hown, hts, hK, hA, hOk, hEn⟩ := hX
  obtain ⟨l', D', cy', En'⟩ := G
  cases hGX
  intro lv st g c0 s0 hn hav h ls H locs hl hP hS
  obtain ⟨h1, h2, h3, h4, h5⟩ := h
  obtain ⟨b, As, lb, fs, hAs, ha⟩ := hav
  obtain ⟨L, hL, hPP, hD⟩ := id hP
  obtain ⟨-, -, k0, hk0⟩ := pz_at (cy := cy) hL ha
  have hlen : As.length = n := by
    have := congrArg List.length hAs
    rw [List.length_reverse, List.length_take, List.length_cons] at this
    omega
  have hstk : (F0 m pc ls (st.map pz_v)).stack = (As.map pz_v).reverse ++ .ref b :: (st.drop (n + 1)).map pz_v := by
    have := pz_stk st (n + 1)
    rw [hAs, List.map_cons, List.reverse_cons, List.append_assoc] at this
    exact this
  rw [hAs] at h4 h5
  have hr := va_runV (As := As.map pz_v) (rest := (st.drop (n + 1)).map pz_v) (b := b) (g := F0 m pc ls (st.map pz_v)) (cells := c0) (slots := s0) (locs := locs) (below := below) (meth := meth) (R := R) (e := e) (C := C) ⟨hx, hb, hml, hown, hts⟩ (hM (.inr (.inr (some b)) :: As) g H.size h4) (cwV n hts (pz_GoodC hw1 (pz_GoodC hw2 (pz_GoodC hw5 (pz_GoodC hw3 (pz_GoodIn hw4))))) rfl rfl rfl hdd hR) ⟨pz_blind hOk _ _ _, va_recv hK hPP hc hk0, pz_preOf hOk hEn hP hS hA hK (.inr (.inr (some b)) :: As)⟩ rfl (by rw [List.length_map]; exact hlen) hl.1 hstk (by have e9 : 2 * (F0 m pc ls (st.map pz_v)).monitorRoom = 0 := rfl; rw [e9, List.map_map, Nat.zero_add]; exact h3) hd ⟨h1, h2⟩
  exact pz_callW hr hS (pz_subA hP hS hA) (fun v g' H1 locs1 hsh hp hP1 hS1 => by
    have := hk v lv (st.drop (n + 1)) g' _ _ hsh (h5 v g' hp) ls H1 locs1 hl hP1 hS1
    rw [List.map_append] at this
    cases v <;> exact this)
theorem zs_cF {X : pz_C} {cc : ByteArray} {nL : Nat} {own : String} {KK : Option pz_V → pz_K} {pc : Nat} {G : pz_Gx} {x y : MethodName} {bytes : ByteArray} {maxL n ix : Nat} {ret : Option FieldType} {rm : Room} {pre : List pz_V → pz_H → Prop} {post : List pz_V → pz_H → Option pz_V → pz_H → Prop} (hX : pz_X X cc nL own) (hGX : pz_GX X G) {C : String} {T : u_T} {N ci count : Nat} (hc : vwCl[ci]? = some (C, T, N)) (hM : pz_M G y bytes maxL ret rm pre post) (hF : ∀ (B : Nat → Prop) (U : State) (J : Heap), G.2.2.2 B U J → va_Fw C x y U) (hw1 : Cond.methodLink own ix x ∈ pz_W) (hw5 : Cond.selects C x y ∈ pz_W) (hw2 : Cond.instanceMethod y ∈ pz_W) (hw3 : Cond.initialized y.cls ∈ pz_W) (hw4 : Cond.code y bytes maxL ret ∈ pz_W) (hdd : x.cls ≠ "java/lang/invoke/MethodHandle" ∧ x.cls ≠ "java/lang/invoke/VarHandle" ∧ (parseMethodDescriptor x.desc).map (fun d => d.parameters.length) = some n) (hR : rm.frames + 1 ≤ (pz_rm X).frames ∧ 8 + (maxL + 11) + rm.locals ≤ (pz_rm X).locals) (hd : decode cc pc = .ok (.invokeinterface ix count, 5)) (hk : zo_KOk X nL (pc + 5) ret KK) : ∀ lv st g c s, n + 1 ≤ st.length → (∃ b As lb fs, (st.take (n + 1)).reverse = .inr (.inr (some b)) :: As ∧ g b = some (lb, .inr (ci, fs))) → zo_c (pz_rm X) (n + 1) 5 rm.cells rm.slots pre post KK pc lv st g c s → pz_Z X nL pc lv st g c s := by
  obtain ⟨p, l, e, R, s, m, args, below, meth, c, Q, D, cy, A, En⟩ := X
  obtain ⟨hx, hb, hml, hown, hts, hK, hA, hOk, hEn⟩ := hX
  obtain ⟨l', D', cy', En'⟩ := G
  cases hGX
  intro lv st g c0 s0 hn hav h ls H locs hl hP hS
  obtain ⟨h1, h2, h3, h4, h5⟩ := h
  obtain ⟨b, As, lb, fs, hAs, ha⟩ := hav
  obtain ⟨L, hL, hPP, hD⟩ := id hP
  obtain ⟨-, -, k0, hk0⟩ := pz_at (cy := cy) hL ha
  have hlen : As.length = n := by
    have := congrArg List.length hAs
    rw [List.length_reverse, List.length_take, List.length_cons] at this
    omega
  have hstk : (F0 m pc ls (st.map pz_v)).stack = (As.map pz_v).reverse ++ .ref b :: (st.drop (n + 1)).map pz_v := by
    have := pz_stk st (n + 1)
    rw [hAs, List.map_cons, List.reverse_cons, List.append_assoc] at this
    exact this
  rw [hAs] at h4 h5
  have hr := va_runF (As := As.map pz_v) (rest := (st.drop (n + 1)).map pz_v) (b := b) (g := F0 m pc ls (st.map pz_v)) (cells := c0) (slots := s0) (locs := locs) (below := below) (meth := meth) (R := R) (e := e) (C := C) (hK.1 ci _ hc).2 ⟨hx, hb, hml, hown, hts⟩ (hM (.inr (.inr (some b)) :: As) g H.size h4) (va_cwF n hts (pz_GoodC hw1 (pz_GoodC hw5 (pz_GoodC hw2 (pz_GoodC hw3 (pz_GoodIn hw4))))) rfl rfl rfl (hF _ _ _ hEn) hdd hR) ⟨pz_blind hOk _ _ _, va_recv hK hPP hc hk0, pz_preOf hOk hEn hP hS hA hK (.inr (.inr (some b)) :: As)⟩ rfl (by rw [List.length_map]; exact hlen) hl.1 hstk (by have e9 : 2 * (F0 m pc ls (st.map pz_v)).monitorRoom = 0 := rfl; rw [e9, List.map_map, Nat.zero_add]; exact h3) hd ⟨h1, h2⟩
  exact pz_callW5 hr hS (pz_subA hP hS hA) (fun v g' H1 locs1 hsh hp hP1 hS1 => by
    have := hk v lv (st.drop (n + 1)) g' _ _ hsh (h5 v g' hp) ls H1 locs1 hl hP1 hS1
    rw [List.map_append] at this
    cases v <;> exact this)
def zo_cs (R : Room) (n len mc ms : Nat) (pre : List pz_V → pz_H → Prop) (post : List pz_V → pz_H → Option pz_V → pz_H → Prop) (KK : Option pz_V → pz_K) : pz_K := fun pc lv st g c s => n ≤ st.length ∧ zo_c R n len mc ms pre post KK pc lv st g c s
def zo_cI (R : Room) (n len mc ms : Nat) (pre : List pz_V → pz_H → Prop) (post : List pz_V → pz_H → Option pz_V → pz_H → Prop) (KK : Option pz_V → pz_K) : pz_K := fun pc lv st g c s => n + 1 ≤ st.length ∧ (∃ b As, (st.take (n + 1)).reverse = .inr (.inr (some b)) :: As) ∧ zo_c R (n + 1) len mc ms pre post KK pc lv st g c s
def zo_cV (R : Room) (ci n len mc ms : Nat) (pre : List pz_V → pz_H → Prop) (post : List pz_V → pz_H → Option pz_V → pz_H → Prop) (KK : Option pz_V → pz_K) : pz_K := fun pc lv st g c s => n + 1 ≤ st.length ∧ (∃ b As lb fs, (st.take (n + 1)).reverse = .inr (.inr (some b)) :: As ∧ g b = some (lb, .inr (ci, fs))) ∧ zo_c R (n + 1) len mc ms pre post KK pc lv st g c s
theorem zs_csS {X : pz_C} {cc : ByteArray} {nL : Nat} {own : String} {KK : Option pz_V → pz_K} {pc : Nat} {G : pz_Gx} {y : MethodName} {bytes : ByteArray} {maxL n ix : Nat} {ret : Option FieldType} {rm : Room} {pre : List pz_V → pz_H → Prop} {post : List pz_V → pz_H → Option pz_V → pz_H → Prop} (hX : pz_X X cc nL own) (hGX : pz_GX X G) (hM : pz_M G y bytes maxL ret rm pre post) (hw1 : Cond.methodLink own ix y ∈ pz_W) (hw2 : Cond.static y ∈ pz_W) (hw3 : Cond.initialized y.cls ∈ pz_W) (hw4 : Cond.code y bytes maxL ret ∈ pz_W) (hdd : y.cls ≠ "java/lang/invoke/MethodHandle" ∧ y.cls ≠ "java/lang/invoke/VarHandle" ∧ (parseMethodDescriptor y.desc).map (fun d => d.parameters.length) = some n) (hR : rm.frames + 1 ≤ (pz_rm X).frames ∧ 8 + (maxL + 11) + rm.locals ≤ (pz_rm X).locals) (hd : decode cc pc = .ok (.invokestatic ix, 3)) (hk : zo_KOk X nL (pc + 3) ret KK) : ∀ lv st g c s, zo_cs (pz_rm X) n 3 rm.cells rm.slots pre post KK pc lv st g c s → pz_Z X nL pc lv st g c s := fun lv st g c s h => zs_cS hX hGX hM hw1 hw2 hw3 hw4 hdd hR hd hk lv st g c s h.1 h.2
theorem zs_csI {X : pz_C} {cc : ByteArray} {nL : Nat} {own : String} {KK : Option pz_V → pz_K} {pc : Nat} {G : pz_Gx} {y : MethodName} {bytes : ByteArray} {maxL n ix : Nat} {rm : Room} {pre : List pz_V → pz_H → Prop} {post : List pz_V → pz_H → Option pz_V → pz_H → Prop} (hX : pz_X X cc nL own) (hGX : pz_GX X G) (hM : pz_M G y bytes maxL none rm pre post) (hw1 : Cond.methodLink own ix y ∈ pz_W) (hw2 : Cond.instanceMethod y ∈ pz_W) (hw3 : Cond.initialized y.cls ∈ pz_W) (hw4 : Cond.code y bytes maxL none ∈ pz_W) (hy1 : y.name = "<init>") (hdd : y.cls ≠ "java/lang/invoke/MethodHandle" ∧ y.cls ≠ "java/lang/invoke/VarHandle" ∧ (parseMethodDescriptor y.desc).map (fun d => d.parameters.length) = some n) (hR : rm.frames + 1 ≤ (pz_rm X).frames ∧ 8 + (maxL + 11) + rm.locals ≤ (pz_rm X).locals) (hd : decode cc pc = .ok (.invokespecial ix, 3)) (hk : zo_KOk X nL (pc + 3) none KK) : ∀ lv st g c s, zo_cI (pz_rm X) n 3 rm.cells rm.slots pre post KK pc lv st g c s → pz_Z X nL pc lv st g c s := fun lv st g c s h => zs_cI hX hGX hM hw1 hw2 hw3 hw4 hy1 hdd hR hd hk lv st g c s h.1 h.2.1 h.2.2
theorem zs_csV {X : pz_C} {cc : ByteArray} {nL : Nat} {own : String} {KK : Option pz_V → pz_K} {pc : Nat} {G : pz_Gx} {y : MethodName} {bytes : ByteArray} {maxL n ix : Nat} {ret : Option FieldType} {rm : Room} {pre : List pz_V → pz_H → Prop} {post : List pz_V → pz_H → Option pz_V → pz_H → Prop} (hX : pz_X X cc nL own) (hGX : pz_GX X G) {C : String} {T : u_T} {N ci : Nat} (hc : vwCl[ci]? = some (C, T, N)) (hM : pz_M G y bytes maxL ret rm pre post) (hw1 : Cond.methodLink own ix y ∈ pz_W) (hw2 : Cond.instanceMethod y ∈ pz_W) (hw5 : Cond.selects C y y ∈ pz_W) (hw3 : Cond.initialized C ∈ pz_W) (hw4 : Cond.code y bytes maxL ret ∈ pz_W) (hdd : y.cls = C ∧ y.cls ≠ "java/lang/invoke/MethodHandle" ∧ y.cls ≠ "java/lang/invoke/VarHandle" ∧ (parseMethodDescriptor y.desc).map (fun d => d.parameters.length) = some n) (hR : rm.frames + 1 ≤ (pz_rm X).frames ∧ 8 + (maxL + 11) + rm.locals ≤ (pz_rm X).locals) (hd : decode cc pc = .ok (.invokevirtual ix, 3)) (hk : zo_KOk X nL (pc + 3) ret KK) : ∀ lv st g c s, zo_cV (pz_rm X) ci n 3 rm.cells rm.slots pre post KK pc lv st g c s → pz_Z X nL pc lv st g c s := fun lv st g c s h => zs_cV hX hGX hc hM hw1 hw2 hw5 hw3 hw4 hdd hR hd hk lv st g c s h.1 h.2.1 h.2.2
theorem zs_csF {X : pz_C} {cc : ByteArray} {nL : Nat} {own : String} {KK : Option pz_V → pz_K} {pc : Nat} {G : pz_Gx} {x y : MethodName} {bytes : ByteArray} {maxL n ix : Nat} {ret : Option FieldType} {rm : Room} {pre : List pz_V → pz_H → Prop} {post : List pz_V → pz_H → Option pz_V → pz_H → Prop} (hX : pz_X X cc nL own) (hGX : pz_GX X G) {C : String} {T : u_T} {N ci count : Nat} (hc : vwCl[ci]? = some (C, T, N)) (hM : pz_M G y bytes maxL ret rm pre post) (hF : ∀ (B : Nat → Prop) (U : State) (J : Heap), G.2.2.2 B U J → va_Fw C x y U) (hw1 : Cond.methodLink own ix x ∈ pz_W) (hw5 : Cond.selects C x y ∈ pz_W) (hw2 : Cond.instanceMethod y ∈ pz_W) (hw3 : Cond.initialized y.cls ∈ pz_W) (hw4 : Cond.code y bytes maxL ret ∈ pz_W) (hdd : x.cls ≠ "java/lang/invoke/MethodHandle" ∧ x.cls ≠ "java/lang/invoke/VarHandle" ∧ (parseMethodDescriptor x.desc).map (fun d => d.parameters.length) = some n) (hR : rm.frames + 1 ≤ (pz_rm X).frames ∧ 8 + (maxL + 11) + rm.locals ≤ (pz_rm X).locals) (hd : decode cc pc = .ok (.invokeinterface ix count, 5)) (hk : zo_KOk X nL (pc + 5) ret KK) : ∀ lv st g c s, zo_cV (pz_rm X) ci n 5 rm.cells rm.slots pre post KK pc lv st g c s → pz_Z X nL pc lv st g c s := fun lv st g c s h => zs_cF hX hGX hc hM hF hw1 hw5 hw2 hw3 hw4 hdd hR hd hk lv st g c s h.1 h.2.1 h.2.2
