/-! the reference: its fields I, its arrays of ints Ai, of longs Aj, by the number of the field; M where the arrays lie -/
def mo_fs (I : Nat → Int32) (M : Nat → Nat) : List pz_V := [.inl (I 0), .inl (I 1), .inr (.inr (some (M 2))), .inr (.inr (some (M 3))), .inr (.inr (some (M 4))), .inr (.inr (some (M 5))), .inr (.inr (some (M 6))), .inl (I 7), .inr (.inr (some (M 8))), .inr (.inr (some (M 9))), .inr (.inr (some (M 10))), .inl (I 11), .inr (.inr (some (M 12))), .inr (.inr (some (M 13))), .inr (.inr (some (M 14))), .inl (I 15), .inr (.inr (some (M 16))), .inr (.inr (some (M 17))), .inr (.inr (some (M 18))), .inr (.inr (some (M 19))), .inr (.inr (some (M 20))), .inr (.inr (some (M 21))), .inl (I 22), .inr (.inr (some (M 23))), .inr (.inr (some (M 24))), .inr (.inr (some (M 25))), .inr (.inr (some (M 26))), .inl (I 27), .inr (.inr (some (M 28))), .inr (.inr (some (M 29))), .inr (.inr (some (M 30))), .inr (.inr (some (M 31))), .inr (.inr (some (M 32))), .inr (.inr (some (M 33))), .inr (.inr (some (M 34))), .inl (I 35), .inl (I 36)]
def mo_ln : Nat → Nat := fun k => match k with
  | 2 => 40
  | 3 => 40
  | 4 => 480
  | 5 => 480
  | 6 => 480
  | 8 => 100
  | 9 => 100
  | 10 => 100
  | 12 => 100
  | 13 => 100
  | 14 => 100
  | 16 => 100
  | 17 => 100
  | 18 => 100
  | 19 => 100
  | 20 => 100
  | 21 => 700
  | 23 => 6
  | 24 => 6
  | 25 => 6
  | 26 => 6
  | 28 => 500
  | 29 => 12
  | 30 => 12
  | 31 => 12
  | 32 => 6
  | 33 => 6
  | 34 => 6
  | _ => 0
def moF : List Nat := [0, 1, 7, 11, 15, 22, 27, 35, 36]
def moI : List Nat := [2, 3, 4, 8, 12, 14, 16, 17, 20, 23, 25, 26, 28, 31]
def moJ : List Nat := [5, 6, 9, 13, 18, 19, 21, 24, 29, 30, 32, 33, 34]
abbrev ar_j (n : Nat) (f : Nat → Int64) : pz_E := .inl (1, n, .inr (.inl f))
def moS (g : pz_H) (mo : Nat) (M : Nat → Nat) (I : Nat → Int32) (Ai : Nat → Nat → Int32) (Aj : Nat → Nat → Int64) : Prop := g mo = some ([100], .inr (12, mo_fs I M)) ∧ (∀ k, k ∈ moI → g (M k) = some ([101, k], ar_i (mo_ln k) (Ai k))) ∧ g (M 10) = some ([101, 10], ar_z 100 (Ai 10)) ∧ ∀ k, k ∈ moJ → g (M k) = some ([101, k], ar_j (mo_ln k) (Aj k))
def moL : List Nat → Prop := fun b => b = [100] ∨ ∃ k, b = [101, k]
def seqJ (f : Nat → Nat → Int64) (k : Nat) (x : Nat → Int64) : Nat → Nat → Int64 := fun i => if i = k then x else f i
theorem seqU_at {f : Nat → Nat → Int32} {k : Nat} {x : Nat → Int32} : seqU f k x k = x := if_pos rfl
theorem seqU_ne {f : Nat → Nat → Int32} {k j : Nat} {x : Nat → Int32} (h : j ≠ k) : seqU f k x j = f j := if_neg h
theorem seqJ_at {f : Nat → Nat → Int64} {k : Nat} {x : Nat → Int64} : seqJ f k x k = x := if_pos rfl
theorem seqJ_ne {f : Nat → Nat → Int64} {k j : Nat} {x : Nat → Int64} (h : j ≠ k) : seqJ f k x j = f j := if_neg h
section MO
variable {g : pz_H} {mo : Nat} {M : Nat → Nat} {I : Nat → Int32} {Ai : Nat → Nat → Int32} {Aj : Nat → Nat → Int64}
theorem moS_mono {g' : pz_H} {S : List Nat → Prop} (hh : hg S g g') (hS : ∀ b, S b → ¬ moL b) (h : moS g mo M I Ai Aj) : moS g' mo M I Ai Aj := by
  obtain ⟨h1, h2, h3, h4⟩ := h
  exact ⟨hh _ _ _ h1 (fun q => hS _ q (Or.inl rfl)), fun k hk => hh _ _ _ (h2 k hk) (fun q => hS _ q (Or.inr ⟨_, rfl⟩)), hh _ _ _ h3 (fun q => hS _ q (Or.inr ⟨_, rfl⟩)), fun k hk => hh _ _ _ (h4 k hk) (fun q => hS _ q (Or.inr ⟨_, rfl⟩))⟩
theorem mo_i (h : moS g mo M I Ai Aj) (k : Nat) (hk : k ∈ moI) (f : Nat → Int32) : moS (va_up g (M k) (some ([101, k], ar_i (mo_ln k) f))) mo M I (seqU Ai k f) Aj ∧ hg moL g (va_up g (M k) (some ([101, k], ar_i (mo_ln k) f))) := by
  obtain ⟨h1, h2, h3, h4⟩ := h
  have hk0 := h2 k hk
  refine ⟨⟨up_ne h1 hk0 (by simp), fun j hj => ?_, ?_, fun j hj => ?_⟩, hg_up hg_rf hk0 (Or.inr ⟨_, rfl⟩)⟩
  · by_cases e : j = k
    · subst e; rw [seqU_at]; exact up_at
    · rw [seqU_ne e]; exact up_ne (h2 j hj) hk0 (by simp [e])
  · rw [seqU_ne (fun e => by rw [← e] at hk; revert hk; decide)]
    exact up_ne h3 hk0 (fun e => by have e2 : (10 : Nat) = k := by simpa using e
                                    rw [← e2] at hk; revert hk; decide)
  · exact up_ne (h4 j hj) hk0 (fun e => by have e2 : j = k := by simpa using e
                                           subst e2; revert hk hj; simp only [moI, moJ]; simp; omega)
theorem mo_j (h : moS g mo M I Ai Aj) (k : Nat) (hk : k ∈ moJ) (f : Nat → Int64) : moS (va_up g (M k) (some ([101, k], ar_j (mo_ln k) f))) mo M I Ai (seqJ Aj k f) ∧ hg moL g (va_up g (M k) (some ([101, k], ar_j (mo_ln k) f))) := by
  obtain ⟨h1, h2, h3, h4⟩ := h
  have hk0 := h4 k hk
  refine ⟨⟨up_ne h1 hk0 (by simp), fun j hj => ?_, ?_, fun j hj => ?_⟩, hg_up hg_rf hk0 (Or.inr ⟨_, rfl⟩)⟩
  · exact up_ne (h2 j hj) hk0 (fun e => by have e2 : j = k := by simpa using e
                                           subst e2; revert hk hj; simp only [moI, moJ]; simp; omega)
  · exact up_ne h3 hk0 (fun e => by have e2 : (10 : Nat) = k := by simpa using e
                                    rw [← e2] at hk; revert hk; decide)
  · by_cases e : j = k
    · subst e; rw [seqJ_at]; exact up_at
    · rw [seqJ_ne e]; exact up_ne (h4 j hj) hk0 (by simp [e])
theorem mo_z (h : moS g mo M I Ai Aj) (f : Nat → Int32) : moS (va_up g (M 10) (some ([101, 10], ar_z 100 f))) mo M I (seqU Ai 10 f) Aj ∧ hg moL g (va_up g (M 10) (some ([101, 10], ar_z 100 f))) := by
  obtain ⟨h1, h2, h3, h4⟩ := h
  refine ⟨⟨up_ne h1 h3 (by simp), fun j hj => ?_, ?_, fun j hj => ?_⟩, hg_up hg_rf h3 (Or.inr ⟨_, rfl⟩)⟩
  · have e : j ≠ 10 := fun e => by subst e; revert hj; decide
    rw [seqU_ne e]; exact up_ne (h2 j hj) h3 (by simp [e])
  · rw [seqU_at]; exact up_at
  · have e : j ≠ 10 := fun e => by subst e; revert hj; decide
    exact up_ne (h4 j hj) h3 (by simp [e])
theorem mo_set (k : Nat) (hk : k ∈ moF) (v : Int32) : (mo_fs I M).set k (.inl v) = mo_fs (upd I k v) M := by
  simp only [moF, List.mem_cons, List.not_mem_nil, or_false] at hk
  rcases hk with rfl | rfl | rfl | rfl | rfl | rfl | rfl | rfl | rfl <;> rfl
theorem mo_f (h : moS g mo M I Ai Aj) (k : Nat) (hk : k ∈ moF) (v : Int32) : moS (va_up g mo (some ([100], .inr (12, (mo_fs I M).set k (.inl v))))) mo M (upd I k v) Ai Aj ∧ hg moL g (va_up g mo (some ([100], .inr (12, (mo_fs I M).set k (.inl v))))) := by
  obtain ⟨h1, h2, h3, h4⟩ := h
  refine ⟨⟨?_, fun j hj => up_ne (h2 j hj) h1 (by simp), up_ne h3 h1 (by simp), fun j hj => up_ne (h4 j hj) h1 (by simp)⟩, hg_up hg_rf h1 (Or.inl rfl)⟩
  rw [up_at, mo_set k hk]
end MO
def b01 (b : Bool) : Int32 := if b = true then 1 else 0
theorem b01_z {b : Bool} : b01 b = 0 ↔ b = false := by cases b <;> decide
theorem b01_nz {b : Bool} : ¬ b01 b = 0 ↔ b = true := by cases b <;> decide
theorem b01_01 (b : Bool) : b01 b = 0 ∨ b01 b = 1 := by cases b <;> decide
theorem lc_lt (x y : Int64) : lg_cmp x y < 0 ↔ x < y := by
  unfold lg_cmp
  split
  · rename_i h
    exact ⟨fun q => absurd q (by decide), fun q => absurd (Int64.lt_trans h q) Int64.lt_irrefl⟩
  · split
    · rename_i h1 h2
      subst h2
      exact ⟨fun q => absurd q (by decide), fun q => absurd q Int64.lt_irrefl⟩
    · rename_i h1 h2
      exact ⟨fun _ => Int64.lt_of_le_of_ne (Int64.not_lt.mp h1) h2, fun _ => by decide⟩
theorem lc_gt (x y : Int64) : 0 < lg_cmp x y ↔ y < x := by
  unfold lg_cmp
  split
  · rename_i h
    exact ⟨fun _ => h, fun _ => by decide⟩
  · split
    · rename_i h1 h2
      exact ⟨fun q => absurd q (by decide), fun q => absurd q h1⟩
    · rename_i h1 h2
      exact ⟨fun q => absurd q (by decide), fun q => absurd q h1⟩
theorem lc_ge (x y : Int64) : 0 ≤ lg_cmp x y ↔ y ≤ x := by
  rw [← Int32.not_lt, lc_lt, Int64.not_lt]
theorem lc_le (x y : Int64) : lg_cmp x y ≤ 0 ↔ x ≤ y := by
  rw [← Int32.not_lt, lc_gt, Int64.not_lt]
theorem lc_eq (x y : Int64) : lg_cmp x y = 0 ↔ x = y := by
  unfold lg_cmp
  split
  · rename_i h
    exact ⟨fun q => absurd q (by decide), fun q => by subst q; exact absurd h Int64.lt_irrefl⟩
  · split
    · rename_i h1 h2
      exact ⟨fun _ => h2, fun _ => rfl⟩
    · rename_i h1 h2
      exact ⟨fun q => absurd q (by decide), fun q => absurd q h2⟩
set_option maxRecDepth 20000 in
theorem bX10_within_0 {X : pz_C} (hX : pz_X X cX10_within 6 RX10) : ∀ lv st g c s, (zo_ll 1 0 (zo_ll 1 2 (zo_lcmp (zo_if_lt 17 (pz_Z X 6))))) 0 lv st g c s → pz_Z X 6 0 lv st g c s := (zs_lload_n hX dX10_within_0 rfl (zs_lload_n hX dX10_within_1 rfl (zs_lcmp hX dX10_within_2 (zs_if_lt hX dX10_within_3 (by decide) (fun _ _ _ _ _ _ h => h)))))
set_option maxRecDepth 20000 in
theorem bX10_within_6 {X : pz_C} (hX : pz_X X cX10_within 6 RX10) : ∀ lv st g c s, (zo_ll 1 0 (zo_ll 2 4 (zo_lcmp (zo_if_gt 17 (pz_Z X 6))))) 6 lv st g c s → pz_Z X 6 6 lv st g c s := (zs_lload_n hX dX10_within_6 rfl (zs_lload hX dX10_within_7 (zs_lcmp hX dX10_within_9 (zs_if_gt hX dX10_within_10 (by decide) (fun _ _ _ _ _ _ h => h)))))
set_option maxRecDepth 20000 in
theorem bX10_within_13 {X : pz_C} (hX : pz_X X cX10_within 6 RX10) : ∀ lv st g c s, (zo_ic 1 (1) (zo_goto 18 (pz_Z X 6))) 13 lv st g c s → pz_Z X 6 13 lv st g c s := (zs_iconst hX dX10_within_13 (by decide) (zs_goto hX dX10_within_14 (by decide) (fun _ _ _ _ _ _ h => h)))
set_option maxRecDepth 20000 in
theorem bX10_within_17 {X : pz_C} (hX : pz_X X cX10_within 6 RX10) : ∀ lv st g c s, (zo_ic 1 (0) (pz_Z X 6)) 17 lv st g c s → pz_Z X 6 17 lv st g c s := (zs_iconst hX dX10_within_17 (by decide) (fun _ _ _ _ _ h => h))
set_option maxRecDepth 20000 in
theorem bX10_within_18 {X : pz_C} {rm : Room} {E : Option pz_V → pz_H → Prop} (hX : pz_X X cX10_within 6 RX10) (hR : pz_Rt X cX10_within 6 (some .boolean) rm E) : ∀ lv st g c s, (zo_rz rm E) 18 lv st g c s → pz_Z X 6 18 lv st g c s := (zs_rz hR dX10_within_18)
set_option maxRecDepth 20000 in
theorem bX10_thrown_0 {X : pz_C} {rm : Room} {E : Option pz_V → pz_H → Prop} (hX : pz_X X cX10_thrown 1 RX10) (hR : pz_Rt X cX10_thrown 1 (some .int) rm E) : ∀ lv st g c s, (zo_al 1 0 (zo_get 12 0 (zo_ri rm E))) 0 lv st g c s → pz_Z X 1 0 lv st g c s := (zs_aload_n hX dX10_thrown_0 rfl (zs_get hX (C := RX10) (T := TX10) (N := 37) rfl in_X10 (by decide) mw_98cc72c1 dX10_thrown_1 (zs_ri hR dX10_thrown_4)))
def wi (v lo hi : Int64) : Bool := decide (lo ≤ v) && decide (v ≤ hi)
def rm_X10_within : Room := { frames := 0, cells := 0, slots := 0, locals := 0 }
abbrev gt_X10_within : Type := Int64 × Int64 × Int64
def pr_X10_within : gt_X10_within → List pz_V → pz_H → Prop := fun (v, lo, hi) av _ => av = [.inr (.inl v), .inr (.inl lo), .inr (.inl hi)]
def po_X10_within : gt_X10_within → List pz_V → pz_H → Option pz_V → pz_H → Prop := fun (v, lo, hi) _ g r g' => g' = g ∧ r = some (.inl (b01 (wi v lo hi)))
theorem ct_X10_within {G : pz_Gx} (hOk : pz_OK G) (gh : gt_X10_within) : pz_M G yX10_within cX10_within 6 (some .boolean) rm_X10_within (pr_X10_within gh) (po_X10_within gh) := by
  obtain ⟨v, lo, hi⟩ := gh
  refine pz_ofZ (by decide) hOk.1 (Or.inr (Or.inr (Or.inl rfl))) ?_ ?_
  · rintro av g rfl
    exact Nat.le_of_ble_eq_true rfl
  · rintro X hX hGX hrm - av g rfl hR
    have no : wi v lo hi = false → ∀ lv : pz_L, pz_Z X 6 17 lv [] g 0 0 := by
      intro h lv
      refine bX10_within_17 hX _ _ _ _ _ ?_
      exact bX10_within_18 hX hR _ _ _ _ _ ⟨Or.inl rfl, Nat.le_refl _, Nat.le_refl _, rfl, by rw [h]; rfl⟩
    refine bX10_within_0 hX _ _ _ _ _ ⟨fun q => ?_, fun q => ?_⟩
    · exact no (by unfold wi; rw [decide_eq_false (Int64.not_le.mpr ((lc_lt _ _).mp q))]; rfl) _
    · refine bX10_within_6 hX _ _ _ _ _ ⟨fun q2 => ?_, fun q2 => ?_⟩
      · exact no (by unfold wi; rw [decide_eq_false (Int64.not_le.mpr ((lc_gt _ _).mp q2)), Bool.and_false]) _
      · refine bX10_within_13 hX _ _ _ _ _ ?_
        refine bX10_within_18 hX hR _ _ _ _ _ ⟨Or.inr rfl, Nat.le_refl _, Nat.le_refl _, rfl, ?_⟩
        have h1 : lo ≤ v := Int64.not_lt.mp (fun z => q ((lc_lt _ _).mpr z))
        have h2 : v ≤ hi := Int64.not_lt.mp (fun z => q2 ((lc_gt _ _).mpr z))
        unfold wi
        rw [decide_eq_true h1, decide_eq_true h2]
        rfl
def rm_X10_thrown : Room := { frames := 0, cells := 0, slots := 0, locals := 0 }
abbrev gt_X10_thrown : Type := Nat × (Nat → Nat) × (Nat → Int32)
def pr_X10_thrown : gt_X10_thrown → List pz_V → pz_H → Prop := fun (mo, M, I) av g => av = [.inr (.inr (some mo))] ∧ g mo = some ([100], .inr (12, mo_fs I M))
def po_X10_thrown : gt_X10_thrown → List pz_V → pz_H → Option pz_V → pz_H → Prop := fun (_, _, I) _ g r g' => g' = g ∧ r = some (.inl (I 0))
theorem ct_X10_thrown {G : pz_Gx} (hOk : pz_OK G) (gh : gt_X10_thrown) : pz_M G yX10_thrown cX10_thrown 1 (some .int) rm_X10_thrown (pr_X10_thrown gh) (po_X10_thrown gh) := by
  obtain ⟨mo, M, I⟩ := gh
  refine pz_ofZ (by decide) hOk.1 (Or.inr (Or.inl rfl)) ?_ ?_
  · rintro av g ⟨rfl, -⟩
    exact Nat.le_of_ble_eq_true rfl
  · rintro X hX hGX hrm - av g ⟨rfl, hg⟩ hR
    exact bX10_thrown_0 hX hR _ _ _ _ _ ⟨_, _, _, hg, rfl, Nat.le_refl _, Nat.le_refl _, rfl, rfl⟩
set_option maxRecDepth 20000 in
theorem bX10_isPlace_0 {X : pz_C} (hX : pz_X X cX10_isPlace 1 RX10) : ∀ lv st g c s, (zo_il 1 0 (zo_i2l (zo_lc 1 (0) (zo_lc 3 (99) (pz_Z X 1))))) 0 lv st g c s → pz_Z X 1 0 lv st g c s := (zs_iload_n hX dX10_isPlace_0 rfl (zs_i2l hX dX10_isPlace_1 (zs_lconst hX dX10_isPlace_2 (by decide) (zs_ldc2 hX dX10_isPlace_3 mw_8e42fc09 (fun _ _ _ _ _ h => h)))))
set_option maxRecDepth 20000 in
theorem bX10_isPlace_6 {X : pz_C} {G : pz_Gx} {rm : Room} {E : Option pz_V → pz_H → Prop} (hX : pz_X X cX10_isPlace 1 RX10) (hR : pz_Rt X cX10_isPlace 1 (some .boolean) rm E) (hrm : pz_rm X = rm) (hGX : pz_GX X G) (hOk : pz_OK G) (gh : gt_X10_within) (hr_X10_within : rm_X10_within.frames + 1 ≤ rm.frames ∧ 8 + (6 + 11) + rm_X10_within.locals ≤ rm.locals) : ∀ lv st g c s, (zo_cs rm 3 3 rm_X10_within.cells rm_X10_within.slots (pr_X10_within gh) (po_X10_within gh) (zo_kz (zo_rz rm E))) 6 lv st g c s → pz_Z X 1 6 lv st g c s := by
  subst hrm
  exact (zs_csS hX hGX (ct_X10_within hOk gh) mw_b2fd6b25 mw_bf52c9cc mw_33939a39 mw_fee1cb2c (by decide +kernel) hr_X10_within dX10_isPlace_6 (zs_kz (zs_rz hR dX10_isPlace_9)))
set_option maxRecDepth 20000 in
theorem bX10_isLine_0 {X : pz_C} (hX : pz_X X cX10_isLine 2 RX10) : ∀ lv st g c s, (zo_il 1 1 (zo_i2l (zo_lc 1 (0) (zo_al 1 0 (zo_get 12 1 (zo_ic 1 (1) (zo_isub (zo_i2l (pz_Z X 2))))))))) 0 lv st g c s → pz_Z X 2 0 lv st g c s := (zs_iload_n hX dX10_isLine_0 rfl (zs_i2l hX dX10_isLine_1 (zs_lconst hX dX10_isLine_2 (by decide) (zs_aload_n hX dX10_isLine_3 rfl (zs_get hX (C := RX10) (T := TX10) (N := 37) rfl in_X10 (by decide) mw_479e8e34 dX10_isLine_4 (zs_iconst hX dX10_isLine_7 (by decide) (zs_isub hX dX10_isLine_8 (zs_i2l hX dX10_isLine_9 (fun _ _ _ _ _ h => h)))))))))
set_option maxRecDepth 20000 in
theorem bX10_isLine_10 {X : pz_C} {G : pz_Gx} {rm : Room} {E : Option pz_V → pz_H → Prop} (hX : pz_X X cX10_isLine 2 RX10) (hR : pz_Rt X cX10_isLine 2 (some .boolean) rm E) (hrm : pz_rm X = rm) (hGX : pz_GX X G) (hOk : pz_OK G) (gh : gt_X10_within) (hr_X10_within : rm_X10_within.frames + 1 ≤ rm.frames ∧ 8 + (6 + 11) + rm_X10_within.locals ≤ rm.locals) : ∀ lv st g c s, (zo_cs rm 3 3 rm_X10_within.cells rm_X10_within.slots (pr_X10_within gh) (po_X10_within gh) (zo_kz (zo_rz rm E))) 10 lv st g c s → pz_Z X 2 10 lv st g c s := by
  subst hrm
  exact (zs_csS hX hGX (ct_X10_within hOk gh) mw_b2fd6b25 mw_bf52c9cc mw_33939a39 mw_fee1cb2c (by decide +kernel) hr_X10_within dX10_isLine_10 (zs_kz (zs_rz hR dX10_isLine_13)))
def rm_X10_isPlace : Room := { frames := 1, cells := 0, slots := 0, locals := 25 }
abbrev gt_X10_isPlace : Type := Int32
def pr_X10_isPlace : gt_X10_isPlace → List pz_V → pz_H → Prop := fun p av _ => av = [.inl p]
def po_X10_isPlace : gt_X10_isPlace → List pz_V → pz_H → Option pz_V → pz_H → Prop := fun p _ g r g' => g' = g ∧ r = some (.inl (b01 (wi p.toInt64 0 99)))
theorem ct_X10_isPlace {G : pz_Gx} (hOk : pz_OK G) (gh : gt_X10_isPlace) : pz_M G yX10_isPlace cX10_isPlace 1 (some .boolean) rm_X10_isPlace (pr_X10_isPlace gh) (po_X10_isPlace gh) := by
  refine pz_ofZ (by decide) hOk.1 (Or.inr (Or.inr (Or.inl rfl))) ?_ ?_
  · rintro av g rfl
    exact Nat.le_of_ble_eq_true rfl
  · rintro X hX hGX hrm - av g rfl hR
    refine bX10_isPlace_0 hX _ _ _ _ _ ?_
    refine bX10_isPlace_6 hX hR hrm hGX hOk (gh.toInt64, 0, 99) (by decide) _ _ _ _ _ ⟨Nat.le_of_ble_eq_true rfl, Nat.le_of_ble_eq_true rfl, Nat.le_of_ble_eq_true rfl, Nat.le_of_ble_eq_true rfl, rfl, ?_⟩
    rintro v g2 ⟨rfl, rfl⟩ x hx h01
    cases hx
    exact ⟨h01, Nat.le_refl _, Nat.le_refl _, rfl, rfl⟩
def rm_X10_isLine : Room := { frames := 1, cells := 0, slots := 0, locals := 25 }
abbrev gt_X10_isLine : Type := (Nat × Int32) × (Nat → Nat) × (Nat → Int32)
def pr_X10_isLine : gt_X10_isLine → List pz_V → pz_H → Prop := fun ((mo, l), M, I) av g => av = [.inr (.inr (some mo)), .inl l] ∧ g mo = some ([100], .inr (12, mo_fs I M))
def po_X10_isLine : gt_X10_isLine → List pz_V → pz_H → Option pz_V → pz_H → Prop := fun ((_, l), _, I) _ g r g' => g' = g ∧ r = some (.inl (b01 (wi l.toInt64 0 (I 1 - 1).toInt64)))
theorem ct_X10_isLine {G : pz_Gx} (hOk : pz_OK G) (gh : gt_X10_isLine) : pz_M G yX10_isLine cX10_isLine 2 (some .boolean) rm_X10_isLine (pr_X10_isLine gh) (po_X10_isLine gh) := by
  obtain ⟨⟨mo, l⟩, M, I⟩ := gh
  refine pz_ofZ (by decide) hOk.1 (Or.inr (Or.inr (Or.inl rfl))) ?_ ?_
  · rintro av g ⟨rfl, -⟩
    exact Nat.le_of_ble_eq_true rfl
  · rintro X hX hGX hrm - av g ⟨rfl, hg⟩ hR
    refine bX10_isLine_0 hX _ _ _ _ _ ⟨_, _, _, hg, rfl, ?_⟩
    refine bX10_isLine_10 hX hR hrm hGX hOk (l.toInt64, 0, (I 1 - 1).toInt64) (by decide) _ _ _ _ _ ⟨Nat.le_of_ble_eq_true rfl, Nat.le_of_ble_eq_true rfl, Nat.le_of_ble_eq_true rfl, Nat.le_of_ble_eq_true rfl, rfl, ?_⟩
    rintro v g2 ⟨rfl, rfl⟩ x hx h01
    cases hx
    exact ⟨h01, Nat.le_refl _, Nat.le_refl _, rfl, rfl⟩
set_option maxRecDepth 20000 in
theorem bX10_refused_0 {X : pz_C} (hX : pz_X X cX10_refused 4 RX10) : ∀ lv st g c s, (zo_al 1 0 (zo_il 1 1 (zo_if_eq 9 (pz_Z X 4)))) 0 lv st g c s → pz_Z X 4 0 lv st g c s := (zs_aload_n hX dX10_refused_0 rfl (zs_iload_n hX dX10_refused_1 rfl (zs_if_eq hX dX10_refused_2 (by decide) (fun _ _ _ _ _ _ h => h))))
set_option maxRecDepth 20000 in
theorem bX10_refused_5 {X : pz_C} (hX : pz_X X cX10_refused 4 RX10) : ∀ lv st g c s, (zo_ic 1 (1) (zo_goto 26 (pz_Z X 4))) 5 lv st g c s → pz_Z X 4 5 lv st g c s := (zs_iconst hX dX10_refused_5 (by decide) (zs_goto hX dX10_refused_6 (by decide) (fun _ _ _ _ _ _ h => h)))
set_option maxRecDepth 20000 in
theorem bX10_refused_9 {X : pz_C} (hX : pz_X X cX10_refused 4 RX10) : ∀ lv st g c s, (zo_il 1 2 (zo_if_eq 17 (pz_Z X 4))) 9 lv st g c s → pz_Z X 4 9 lv st g c s := (zs_iload_n hX dX10_refused_9 rfl (zs_if_eq hX dX10_refused_10 (by decide) (fun _ _ _ _ _ _ h => h)))
set_option maxRecDepth 20000 in
theorem bX10_refused_13 {X : pz_C} (hX : pz_X X cX10_refused 4 RX10) : ∀ lv st g c s, (zo_ic 1 (2) (zo_goto 26 (pz_Z X 4))) 13 lv st g c s → pz_Z X 4 13 lv st g c s := (zs_iconst hX dX10_refused_13 (by decide) (zs_goto hX dX10_refused_14 (by decide) (fun _ _ _ _ _ _ h => h)))
set_option maxRecDepth 20000 in
theorem bX10_refused_17 {X : pz_C} (hX : pz_X X cX10_refused 4 RX10) : ∀ lv st g c s, (zo_il 1 3 (zo_if_eq 25 (pz_Z X 4))) 17 lv st g c s → pz_Z X 4 17 lv st g c s := (zs_iload_n hX dX10_refused_17 rfl (zs_if_eq hX dX10_refused_18 (by decide) (fun _ _ _ _ _ _ h => h)))
set_option maxRecDepth 20000 in
theorem bX10_refused_21 {X : pz_C} (hX : pz_X X cX10_refused 4 RX10) : ∀ lv st g c s, (zo_ic 1 (3) (zo_goto 26 (pz_Z X 4))) 21 lv st g c s → pz_Z X 4 21 lv st g c s := (zs_iconst hX dX10_refused_21 (by decide) (zs_goto hX dX10_refused_22 (by decide) (fun _ _ _ _ _ _ h => h)))
set_option maxRecDepth 20000 in
theorem bX10_refused_25 {X : pz_C} (hX : pz_X X cX10_refused 4 RX10) : ∀ lv st g c s, (zo_ic 1 (0) (pz_Z X 4)) 25 lv st g c s → pz_Z X 4 25 lv st g c s := (zs_iconst hX dX10_refused_25 (by decide) (fun _ _ _ _ _ h => h))
set_option maxRecDepth 20000 in
theorem bX10_refused_26 {X : pz_C} (hX : pz_X X cX10_refused 4 RX10) : ∀ lv st g c s, (zo_puti 12 0 (zo_al 1 0 (zo_get 12 0 (zo_if_le 40 (pz_Z X 4))))) 26 lv st g c s → pz_Z X 4 26 lv st g c s := (zs_puti hX (C := RX10) (T := TX10) (N := 37) rfl in_X10 (by decide) mw_98cc72c1 tyX10 tyX10_ok nmX10 (by decide +kernel) rfl dX10_refused_26 (zs_aload_n hX dX10_refused_29 rfl (zs_get hX (C := RX10) (T := TX10) (N := 37) rfl in_X10 (by decide) mw_98cc72c1 dX10_refused_30 (zs_if_le hX dX10_refused_33 (by decide) (fun _ _ _ _ _ _ h => h)))))
set_option maxRecDepth 20000 in
theorem bX10_refused_36 {X : pz_C} (hX : pz_X X cX10_refused 4 RX10) : ∀ lv st g c s, (zo_ic 1 (1) (zo_goto 41 (pz_Z X 4))) 36 lv st g c s → pz_Z X 4 36 lv st g c s := (zs_iconst hX dX10_refused_36 (by decide) (zs_goto hX dX10_refused_37 (by decide) (fun _ _ _ _ _ _ h => h)))
set_option maxRecDepth 20000 in
theorem bX10_refused_40 {X : pz_C} (hX : pz_X X cX10_refused 4 RX10) : ∀ lv st g c s, (zo_ic 1 (0) (pz_Z X 4)) 40 lv st g c s → pz_Z X 4 40 lv st g c s := (zs_iconst hX dX10_refused_40 (by decide) (fun _ _ _ _ _ h => h))
set_option maxRecDepth 20000 in
theorem bX10_refused_41 {X : pz_C} {rm : Room} {E : Option pz_V → pz_H → Prop} (hX : pz_X X cX10_refused 4 RX10) (hR : pz_Rt X cX10_refused 4 (some .boolean) rm E) : ∀ lv st g c s, (zo_rz rm E) 41 lv st g c s → pz_Z X 4 41 lv st g c s := (zs_rz hR dX10_refused_41)
/-- which of three reasons is thrown -/
def rf3 (a b c : Bool) : Int32 := if a = true then 1 else if b = true then 2 else if c = true then 3 else 0
def rm_X10_refused : Room := { frames := 0, cells := 0, slots := 0, locals := 0 }
abbrev gt_X10_refused : Type := (Nat × Bool × Bool × Bool) × (Nat → Nat) × (Nat → Int32)
def pr_X10_refused : gt_X10_refused → List pz_V → pz_H → Prop := fun ((mo, a, b, c), M, I) av g => av = [.inr (.inr (some mo)), .inl (b01 a), .inl (b01 b), .inl (b01 c)] ∧ g mo = some ([100], .inr (12, mo_fs I M))
def po_X10_refused : gt_X10_refused → List pz_V → pz_H → Option pz_V → pz_H → Prop := fun ((mo, a, b, c), M, I) _ g r g' => g' = va_up g mo (some ([100], .inr (12, (mo_fs I M).set 0 (.inl (rf3 a b c))))) ∧ r = some (.inl (b01 (a || (b || c))))
set_option maxRecDepth 20000 in
theorem ct_X10_refused {G : pz_Gx} (hOk : pz_OK G) (gh : gt_X10_refused) : pz_M G yX10_refused cX10_refused 4 (some .boolean) rm_X10_refused (pr_X10_refused gh) (po_X10_refused gh) := by
  obtain ⟨⟨mo, a, b, c⟩, M, I⟩ := gh
  refine pz_ofZ (by decide) hOk.1 (Or.inr (Or.inr (Or.inl rfl))) ?_ ?_
  · rintro av g ⟨rfl, -⟩
    exact Nat.le_of_ble_eq_true rfl
  · rintro X hX hGX hrm - av g ⟨rfl, hg⟩ hR
    have fin : ∀ lv : pz_L, pz_f lv 0 = some (.inr (.inr (some mo))) → pz_Z X 4 26 lv [.inl (rf3 a b c), .inr (.inr (some mo))] g 0 0 := by
      intro lv hlv
      refine pz_lsub (lv' := [(0, .inr (.inr (some mo)))]) ⟨hlv, trivial⟩ ?_
      refine bX10_refused_26 hX _ _ _ _ _ ⟨_, _, hg, Nat.le_of_ble_eq_true rfl, _, _, _, up_at, rfl, fun q => ?_, fun q => ?_⟩
      · refine bX10_refused_40 hX _ _ _ _ _ ?_
        refine bX10_refused_41 hX hR _ _ _ _ _ ⟨Or.inl rfl, Nat.le_refl _, Nat.le_refl _, rfl, ?_⟩
        revert q
        cases a <;> cases b <;> cases c <;> first | (intro _; rfl) | (intro q; exact absurd q (by decide))
      · refine bX10_refused_36 hX _ _ _ _ _ ?_
        refine bX10_refused_41 hX hR _ _ _ _ _ ⟨Or.inr rfl, Nat.le_refl _, Nat.le_refl _, rfl, ?_⟩
        revert q
        cases a <;> cases b <;> cases c <;> first | (intro _; rfl) | (intro q; exact absurd (by decide) q)
    refine bX10_refused_0 hX _ _ _ _ _ ⟨fun q => ?_, fun q => ?_⟩
    · rw [b01_z] at q
      refine bX10_refused_9 hX _ _ _ _ _ ⟨fun q2 => ?_, fun q2 => ?_⟩
      · rw [b01_z] at q2
        refine bX10_refused_17 hX _ _ _ _ _ ⟨fun q3 => ?_, fun q3 => ?_⟩
        · rw [b01_z] at q3
          refine bX10_refused_25 hX _ _ _ _ _ ?_
          have := fin (pz_ar 0 [.inr (.inr (some mo)), .inl (b01 a), .inl (b01 b), .inl (b01 c)]) rfl
          rw [show rf3 a b c = 0 by subst q q2 q3; rfl] at this
          exact this
        · rw [b01_nz] at q3
          refine bX10_refused_21 hX _ _ _ _ _ ?_
          have := fin (pz_ar 0 [.inr (.inr (some mo)), .inl (b01 a), .inl (b01 b), .inl (b01 c)]) rfl
          rw [show rf3 a b c = 3 by subst q q2 q3; rfl] at this
          exact this
      · rw [b01_nz] at q2
        refine bX10_refused_13 hX _ _ _ _ _ ?_
        have := fin (pz_ar 0 [.inr (.inr (some mo)), .inl (b01 a), .inl (b01 b), .inl (b01 c)]) rfl
        rw [show rf3 a b c = 2 by subst q q2; rfl] at this
        exact this
    · rw [b01_nz] at q
      refine bX10_refused_5 hX _ _ _ _ _ ?_
      have := fin (pz_ar 0 [.inr (.inr (some mo)), .inl (b01 a), .inl (b01 b), .inl (b01 c)]) rfl
      rw [show rf3 a b c = 1 by subst q; rfl] at this
      exact this
