/-! the reference: next, days, sign -/
def mn_k (S : (Nat → Int64) → Bool → (Nat → Int64) → Bool × (Nat → Int64)) (t0 b0 : Nat → Int64) : Nat → Option (Nat → Int64)
  | 0 => if (S t0 true b0).1 = true then some (S t0 true b0).2 else none
  | k + 1 => match mn_k S t0 b0 k with
    | none => none
    | some tau => if (S tau false tau).1 = true then some (S tau false tau).2 else none
theorem mn_none {S : (Nat → Int64) → Bool → (Nat → Int64) → Bool × (Nat → Int64)} {t0 b0 : Nat → Int64} {k : Nat} (h : mn_k S t0 b0 k = none) : ∀ m, mn_k S t0 b0 (k + m) = none
  | 0 => h
  | m + 1 => by
    show (match mn_k S t0 b0 (k + m) with | none => none | some tau => if (S tau false tau).1 = true then some (S tau false tau).2 else none) = none
    rw [mn_none h m]
theorem mg_d_ag {Ai : Nat → Nat → Int32} {A B : Nat → Nat → Int64} {ne nz nw : Nat} {cn : Nat → Nat} {from' to T l : Nat} (h : agJ [29, 30, 32, 33, 34] A B) : ∀ (m r : Nat), mg_d Ai B ne nz nw cn from' to T l r m = mg_d Ai A ne nz nw cn from' to T l r m
  | 0, _ => rfl
  | m + 1, r => by
    unfold mg_d
    have e : ∀ b, (fun k => mt_t Ai B nz nw l (dy T r) k b) = fun k => mt_t Ai A nz nw l (dy T r) k b := fun b => funext fun k => mt_ag h (by decide)
    rw [mg_d_ag h m (r + 1), mr_ag h (by decide), e, e]
theorem mg_l_ag {Ai : Nat → Nat → Int32} {A B : Nat → Nat → Int64} {ne nz nw : Nat} {cn : Nat → Nat} {from' to T : Nat} (h : agJ [29, 30, 32, 33, 34] A B) : ∀ (m l : Nat), mg_l Ai B ne nz nw cn from' to T l m = mg_l Ai A ne nz nw cn from' to T l m
  | 0, _ => rfl
  | m + 1, l => by
    unfold mg_l
    rw [mg_l_ag h m (l + 1), mg_d_ag h]
theorem mg_s_ag {Ai : Nat → Nat → Int32} {A B : Nat → Nat → Int64} {ne nz nw : Nat} {cn : Nat → Nat} {from' to T nl : Nat} (h : agJ [29, 30, 32, 33, 34] A B) : mg_s Ai B ne nz nw cn from' to T nl = mg_s Ai A ne nz nw cn from' to T nl := by
  funext tau first b0
  unfold mg_s
  rw [mg_l_ag h]
def mn_v : Option (Nat → Int64) → Int32
  | none => -1
  | some tau => (tau 0).toInt32
set_option maxRecDepth 20000 in
theorem bX10_next_0 {X : pz_C} (hX : pz_X X cX10_next 7 RX10) : ∀ lv st g c s, (zo_al 1 0 (zo_il 1 1 (pz_Z X 7))) 0 lv st g c s → pz_Z X 7 0 lv st g c s := (zs_aload_n hX dX10_next_0 rfl (zs_iload_n hX dX10_next_1 rfl (fun _ _ _ _ _ h => h)))
set_option maxRecDepth 20000 in
theorem bX10_next_2 {X : pz_C} {G : pz_Gx} {rm : Room} (hX : pz_X X cX10_next 7 RX10) (hrm : pz_rm X = rm) (hGX : pz_GX X G) (hOk : pz_OK G) (gh : gt_X10_isPlace) (hr_X10_isPlace : rm_X10_isPlace.frames + 1 ≤ rm.frames ∧ 8 + (1 + 11) + rm_X10_isPlace.locals ≤ rm.locals) : ∀ lv st g c s, (zo_cs rm 1 3 rm_X10_isPlace.cells rm_X10_isPlace.slots (pr_X10_isPlace gh) (po_X10_isPlace gh) (zo_kz (zo_if_eq 15 (pz_Z X 7)))) 2 lv st g c s → pz_Z X 7 2 lv st g c s := by
  subst hrm
  exact (zs_csS hX hGX (ct_X10_isPlace hOk gh) mw_57aced96 mw_2d6024eb mw_33939a39 mw_b2184c85 (by decide +kernel) hr_X10_isPlace dX10_next_2 (zs_kz (zs_if_eq hX dX10_next_5 (by decide) (fun _ _ _ _ _ _ h => h))))
set_option maxRecDepth 20000 in
theorem bX10_next_8 {X : pz_C} (hX : pz_X X cX10_next 7 RX10) : ∀ lv st g c s, (zo_il 1 2 (pz_Z X 7)) 8 lv st g c s → pz_Z X 7 8 lv st g c s := (zs_iload_n hX dX10_next_8 rfl (fun _ _ _ _ _ h => h))
set_option maxRecDepth 20000 in
theorem bX10_next_9 {X : pz_C} {G : pz_Gx} {rm : Room} (hX : pz_X X cX10_next 7 RX10) (hrm : pz_rm X = rm) (hGX : pz_GX X G) (hOk : pz_OK G) (gh : gt_X10_isPlace) (hr_X10_isPlace : rm_X10_isPlace.frames + 1 ≤ rm.frames ∧ 8 + (1 + 11) + rm_X10_isPlace.locals ≤ rm.locals) : ∀ lv st g c s, (zo_cs rm 1 3 rm_X10_isPlace.cells rm_X10_isPlace.slots (pr_X10_isPlace gh) (po_X10_isPlace gh) (zo_kz (zo_if_ne 19 (pz_Z X 7)))) 9 lv st g c s → pz_Z X 7 9 lv st g c s := by
  subst hrm
  exact (zs_csS hX hGX (ct_X10_isPlace hOk gh) mw_57aced96 mw_2d6024eb mw_33939a39 mw_b2184c85 (by decide +kernel) hr_X10_isPlace dX10_next_9 (zs_kz (zs_if_ne hX dX10_next_12 (by decide) (fun _ _ _ _ _ _ h => h))))
set_option maxRecDepth 20000 in
theorem bX10_next_15 {X : pz_C} (hX : pz_X X cX10_next 7 RX10) : ∀ lv st g c s, (zo_ic 1 (1) (zo_goto 20 (pz_Z X 7))) 15 lv st g c s → pz_Z X 7 15 lv st g c s := (zs_iconst hX dX10_next_15 (by decide) (zs_goto hX dX10_next_16 (by decide) (fun _ _ _ _ _ _ h => h)))
set_option maxRecDepth 20000 in
theorem bX10_next_19 {X : pz_C} (hX : pz_X X cX10_next 7 RX10) : ∀ lv st g c s, (zo_ic 1 (0) (pz_Z X 7)) 19 lv st g c s → pz_Z X 7 19 lv st g c s := (zs_iconst hX dX10_next_19 (by decide) (fun _ _ _ _ _ h => h))
set_option maxRecDepth 20000 in
theorem bX10_next_20 {X : pz_C} (hX : pz_X X cX10_next 7 RX10) : ∀ lv st g c s, (zo_ll 1 3 (zo_lc 1 (0) (zo_lc 3 (1700000000) (pz_Z X 7)))) 20 lv st g c s → pz_Z X 7 20 lv st g c s := (zs_lload_n hX dX10_next_20 rfl (zs_lconst hX dX10_next_21 (by decide) (zs_ldc2 hX dX10_next_22 mw_3b033ce7 (fun _ _ _ _ _ h => h))))
set_option maxRecDepth 20000 in
theorem bX10_next_25 {X : pz_C} {G : pz_Gx} {rm : Room} (hX : pz_X X cX10_next 7 RX10) (hrm : pz_rm X = rm) (hGX : pz_GX X G) (hOk : pz_OK G) (gh : gt_X10_within) (hr_X10_within : rm_X10_within.frames + 1 ≤ rm.frames ∧ 8 + (6 + 11) + rm_X10_within.locals ≤ rm.locals) : ∀ lv st g c s, (zo_cs rm 3 3 rm_X10_within.cells rm_X10_within.slots (pr_X10_within gh) (po_X10_within gh) (zo_kz (zo_if_eq 44 (pz_Z X 7)))) 25 lv st g c s → pz_Z X 7 25 lv st g c s := by
  subst hrm
  exact (zs_csS hX hGX (ct_X10_within hOk gh) mw_b2fd6b25 mw_bf52c9cc mw_33939a39 mw_fee1cb2c (by decide +kernel) hr_X10_within dX10_next_25 (zs_kz (zs_if_eq hX dX10_next_28 (by decide) (fun _ _ _ _ _ _ h => h))))
set_option maxRecDepth 20000 in
theorem bX10_next_31 {X : pz_C} (hX : pz_X X cX10_next 7 RX10) : ∀ lv st g c s, (zo_il 2 5 (zo_i2l (zo_lc 1 (0) (zo_lc 3 (100) (pz_Z X 7))))) 31 lv st g c s → pz_Z X 7 31 lv st g c s := (zs_iload hX dX10_next_31 (zs_i2l hX dX10_next_33 (zs_lconst hX dX10_next_34 (by decide) (zs_ldc2 hX dX10_next_35 mw_c57303f6 (fun _ _ _ _ _ h => h)))))
set_option maxRecDepth 20000 in
theorem bX10_next_38 {X : pz_C} {G : pz_Gx} {rm : Room} (hX : pz_X X cX10_next 7 RX10) (hrm : pz_rm X = rm) (hGX : pz_GX X G) (hOk : pz_OK G) (gh : gt_X10_within) (hr_X10_within : rm_X10_within.frames + 1 ≤ rm.frames ∧ 8 + (6 + 11) + rm_X10_within.locals ≤ rm.locals) : ∀ lv st g c s, (zo_cs rm 3 3 rm_X10_within.cells rm_X10_within.slots (pr_X10_within gh) (po_X10_within gh) (zo_kz (zo_if_ne 48 (pz_Z X 7)))) 38 lv st g c s → pz_Z X 7 38 lv st g c s := by
  subst hrm
  exact (zs_csS hX hGX (ct_X10_within hOk gh) mw_b2fd6b25 mw_bf52c9cc mw_33939a39 mw_fee1cb2c (by decide +kernel) hr_X10_within dX10_next_38 (zs_kz (zs_if_ne hX dX10_next_41 (by decide) (fun _ _ _ _ _ _ h => h))))
set_option maxRecDepth 20000 in
theorem bX10_next_44 {X : pz_C} (hX : pz_X X cX10_next 7 RX10) : ∀ lv st g c s, (zo_ic 1 (1) (zo_goto 49 (pz_Z X 7))) 44 lv st g c s → pz_Z X 7 44 lv st g c s := (zs_iconst hX dX10_next_44 (by decide) (zs_goto hX dX10_next_45 (by decide) (fun _ _ _ _ _ _ h => h)))
set_option maxRecDepth 20000 in
theorem bX10_next_48 {X : pz_C} (hX : pz_X X cX10_next 7 RX10) : ∀ lv st g c s, (zo_ic 1 (0) (pz_Z X 7)) 48 lv st g c s → pz_Z X 7 48 lv st g c s := (zs_iconst hX dX10_next_48 (by decide) (fun _ _ _ _ _ h => h))
set_option maxRecDepth 20000 in
theorem bX10_next_49 {X : pz_C} (hX : pz_X X cX10_next 7 RX10) : ∀ lv st g c s, (zo_ic 1 (0) (pz_Z X 7)) 49 lv st g c s → pz_Z X 7 49 lv st g c s := (zs_iconst hX dX10_next_49 (by decide) (fun _ _ _ _ _ h => h))
set_option maxRecDepth 20000 in
theorem bX10_next_50 {X : pz_C} {G : pz_Gx} {rm : Room} (hX : pz_X X cX10_next 7 RX10) (hrm : pz_rm X = rm) (hGX : pz_GX X G) (hOk : pz_OK G) (gh : gt_X10_refused) (hr_X10_refused : rm_X10_refused.frames + 1 ≤ rm.frames ∧ 8 + (4 + 11) + rm_X10_refused.locals ≤ rm.locals) : ∀ lv st g c s, (zo_cV rm 12 3 3 rm_X10_refused.cells rm_X10_refused.slots (pr_X10_refused gh) (po_X10_refused gh) (zo_kz (zo_if_eq 58 (pz_Z X 7)))) 50 lv st g c s → pz_Z X 7 50 lv st g c s := by
  subst hrm
  exact (zs_csV hX hGX (C := RX10) (T := TX10) (N := 37) rfl (ct_X10_refused hOk gh) mw_53c1f8a2 mw_ba17b74c mw_7c91c019 mw_33939a39 mw_471b458e (by decide +kernel) hr_X10_refused dX10_next_50 (zs_kz (zs_if_eq hX dX10_next_53 (by decide) (fun _ _ _ _ _ _ h => h))))
set_option maxRecDepth 20000 in
theorem bX10_next_56 {X : pz_C} {rm : Room} {E : Option pz_V → pz_H → Prop} (hX : pz_X X cX10_next 7 RX10) (hR : pz_Rt X cX10_next 7 (some .int) rm E) : ∀ lv st g c s, (zo_ic 1 (0) (zo_ri rm E)) 56 lv st g c s → pz_Z X 7 56 lv st g c s := (zs_iconst hX dX10_next_56 (by decide) (zs_ri hR dX10_next_57))
set_option maxRecDepth 20000 in
theorem bX10_next_58 {X : pz_C} (hX : pz_X X cX10_next 7 RX10) : ∀ lv st g c s, (zo_ic 1 (0) (zo_is 2 6 (pz_Z X 7))) 58 lv st g c s → pz_Z X 7 58 lv st g c s := (zs_iconst hX dX10_next_58 (by decide) (zs_istore hX dX10_next_59 (by decide) (fun _ _ _ _ _ h => h)))
set_option maxRecDepth 20000 in
theorem bX10_next_61 {X : pz_C} (hX : pz_X X cX10_next 7 RX10) : ∀ lv st g c s, (zo_il 2 6 (zo_il 2 5 (zo_ic_gt 96 (pz_Z X 7)))) 61 lv st g c s → pz_Z X 7 61 lv st g c s := (zs_iload hX dX10_next_61 (zs_iload hX dX10_next_63 (zs_ic_gt hX dX10_next_65 (by decide) (fun _ _ _ _ _ _ h => h))))
set_option maxRecDepth 20000 in
theorem bX10_next_68 {X : pz_C} (hX : pz_X X cX10_next 7 RX10) : ∀ lv st g c s, (zo_al 1 0 (zo_il 1 1 (zo_il 1 2 (zo_ll 1 3 (zo_il 2 6 (zo_if_ne 81 (pz_Z X 7))))))) 68 lv st g c s → pz_Z X 7 68 lv st g c s := (zs_aload_n hX dX10_next_68 rfl (zs_iload_n hX dX10_next_69 rfl (zs_iload_n hX dX10_next_70 rfl (zs_lload_n hX dX10_next_71 rfl (zs_iload hX dX10_next_72 (zs_if_ne hX dX10_next_74 (by decide) (fun _ _ _ _ _ _ h => h)))))))
set_option maxRecDepth 20000 in
theorem bX10_next_77 {X : pz_C} (hX : pz_X X cX10_next 7 RX10) : ∀ lv st g c s, (zo_ic 1 (1) (zo_goto 82 (pz_Z X 7))) 77 lv st g c s → pz_Z X 7 77 lv st g c s := (zs_iconst hX dX10_next_77 (by decide) (zs_goto hX dX10_next_78 (by decide) (fun _ _ _ _ _ _ h => h)))
set_option maxRecDepth 20000 in
theorem bX10_next_81 {X : pz_C} (hX : pz_X X cX10_next 7 RX10) : ∀ lv st g c s, (zo_ic 1 (0) (pz_Z X 7)) 81 lv st g c s → pz_Z X 7 81 lv st g c s := (zs_iconst hX dX10_next_81 (by decide) (fun _ _ _ _ _ h => h))
set_option maxRecDepth 20000 in
theorem bX10_next_82 {X : pz_C} {G : pz_Gx} {rm : Room} (hX : pz_X X cX10_next 7 RX10) (hrm : pz_rm X = rm) (hGX : pz_GX X G) (hOk : pz_OK G) (gh : gt_X10_goOn) (hr_X10_goOn : rm_X10_goOn.frames + 1 ≤ rm.frames ∧ 8 + (16 + 11) + rm_X10_goOn.locals ≤ rm.locals) : ∀ lv st g c s, (zo_cV rm 12 4 3 rm_X10_goOn.cells rm_X10_goOn.slots (pr_X10_goOn gh) (po_X10_goOn gh) (zo_kz (zo_if_ne 90 (pz_Z X 7)))) 82 lv st g c s → pz_Z X 7 82 lv st g c s := by
  subst hrm
  exact (zs_csV hX hGX (C := RX10) (T := TX10) (N := 37) rfl (ct_X10_goOn hOk gh) mw_b3231e0c mw_c0e3401a mw_5e5335cd mw_33939a39 mw_d0701813 (by decide +kernel) hr_X10_goOn dX10_next_82 (zs_kz (zs_if_ne hX dX10_next_85 (by decide) (fun _ _ _ _ _ _ h => h))))
set_option maxRecDepth 20000 in
theorem bX10_next_88 {X : pz_C} {rm : Room} {E : Option pz_V → pz_H → Prop} (hX : pz_X X cX10_next 7 RX10) (hR : pz_Rt X cX10_next 7 (some .int) rm E) : ∀ lv st g c s, (zo_ic 1 (-1) (zo_ri rm E)) 88 lv st g c s → pz_Z X 7 88 lv st g c s := (zs_iconst hX dX10_next_88 (by decide) (zs_ri hR dX10_next_89))
set_option maxRecDepth 20000 in
theorem bX10_next_90 {X : pz_C} (hX : pz_X X cX10_next 7 RX10) : ∀ lv st g c s, (zo_inc 6 (1) (zo_goto 61 (pz_Z X 7))) 90 lv st g c s → pz_Z X 7 90 lv st g c s := (zs_iinc hX dX10_next_90 (by decide) (by decide) (zs_goto hX dX10_next_93 (by decide) (fun _ _ _ _ _ _ h => h)))
set_option maxRecDepth 20000 in
theorem bX10_next_96 {X : pz_C} {rm : Room} {E : Option pz_V → pz_H → Prop} (hX : pz_X X cX10_next 7 RX10) (hR : pz_Rt X cX10_next 7 (some .int) rm E) : ∀ lv st g c s, (zo_al 1 0 (zo_get 12 32 (zo_ic 1 (0) (zo_lald (zo_l2i (zo_ri rm E)))))) 96 lv st g c s → pz_Z X 7 96 lv st g c s := (zs_aload_n hX dX10_next_96 rfl (zs_get hX (C := RX10) (T := TX10) (N := 37) rfl in_X10 (by decide) mw_d201e80b dX10_next_97 (zs_iconst hX dX10_next_100 (by decide) (zs_lald hX dX10_next_101 (zs_l2i hX dX10_next_102 (zs_ri hR dX10_next_103))))))
def mn_b (t : Int64) (i : Int32) : Bool := !wi t 0 1700000000 || !wi i.toInt64 0 100
def rm_X10_next : Room := { frames := 4, cells := 0, slots := 0, locals := 113 }
abbrev gt_X10_next : Type := (Int32 × Int32 × Int64 × Int32) × (Nat × Nat) × (Nat × Nat × Nat × Nat × (Nat → Nat)) × mo_T
def pr_X10_next : gt_X10_next → List pz_V → pz_H → Prop := fun ((p0, p1, t, i), (from', to), (nl, ne, nz, nw, cn), (mo, M, I, Ai, Aj)) av g => av = [.inr (.inr (some (mo))), .inl (p0), .inl (p1), .inr (.inl (t)), .inl (i)] ∧ moW I Ai nl ne nz nw cn ∧ (me_bad p0 p1 = false → p0 = nI from' ∧ from' < 100 ∧ p1 = nI to ∧ to < 100) ∧ moS g mo M I Ai Aj
def po_X10_next : gt_X10_next → List pz_V → pz_H → Option pz_V → pz_H → Prop := fun ((p0, p1, t, i), (from', to), (nl, ne, nz, nw, cn), (mo, M, I, Ai, Aj)) _ g v g' => hg moL g g' ∧ (((me_bad p0 p1 || mn_b t i) = true ∧ v = some (.inl 0) ∧ moS g' mo M (upd I 0 (rf3 (me_bad p0 p1) (mn_b t i) false)) Ai Aj) ∨ ((me_bad p0 p1 || mn_b t i) = false ∧ ∃ T n, T ≤ 1700000000 ∧ t = lN T ∧ n ≤ 100 ∧ i = nI n ∧ v = some (.inl (mn_v (mn_k (mg_s Ai Aj ne nz nw cn from' to T nl) (Aj 32) (Aj 33) n))) ∧ ∃ Aj', moS g' mo M (upd I 0 0) Ai Aj' ∧ agJ [29, 30, 32, 33, 34] Aj Aj'))
theorem wi_lN {t : Int64} {k : Nat} (hk : k < 2147483648) (h : wi t 0 (lN k) = true) : ∃ q, q ≤ k ∧ t = lN q := by
  unfold wi at h
  rw [Bool.and_eq_true] at h
  have h0 := of_decide_eq_true h.1
  have h1 := of_decide_eq_true h.2
  obtain ⟨q, hq, rfl⟩ := pk_lOf (x := t) (Int64.not_lt.mpr h0)
  refine ⟨q, ?_, rfl⟩
  exact (pk_lLE hq (by omega)).mp h1
set_option maxRecDepth 20000 in
set_option maxHeartbeats 8000000 in
theorem ct_X10_next {G : pz_Gx} (hOk : pz_OK G) (gh : gt_X10_next) : pz_M G yX10_next cX10_next 7 (some .int) rm_X10_next (pr_X10_next gh) (po_X10_next gh) := by
  obtain ⟨⟨p0, p1, t, i⟩, ⟨from', to⟩, ⟨nl, ne, nz, nw, cn⟩, mo, M, I, Ai, Aj⟩ := gh
  refine pz_ofZ (by decide) hOk.1 (Or.inr (Or.inl rfl)) ?_ ?_
  · rintro av g ⟨rfl, -⟩
    exact Nat.le_of_ble_eq_true rfl
  · rintro X hX hGX hrm - av g ⟨rfl, hW, hgd, hm⟩ hR
    have h1 := hm.1
    -- accepted
    have acc : ∀ (T n : Nat) (g2 : pz_H), p0 = nI from' → from' < 100 → p1 = nI to → to < 100 → T ≤ 1700000000 → t = lN T → n ≤ 100 → i = nI n → hg moL g g2 → moS g2 mo M (upd I 0 0) Ai Aj → (me_bad p0 p1 || mn_b t i) = false → pz_Z X 7 58 [(0, .inr (.inr (some (mo)))), (1, .inl (p0)), (2, .inl (p1)), (3, .inr (.inl (t))), (5, .inl (i))] [] g2 0 0 := by
      intro T n g2 e0 hfr e1 hto hT e2 hn e3 hS2 hm2 hok
      subst e0 e1 e2 e3
      have hW0 : moW (upd I 0 0) Ai nl ne nz nw cn := moW_I (by decide) hW
      have loop : ∀ (m k : Nat) (gk : pz_H) (A : Nat → Nat → Int64), k + m = n + 1 → hg moL g gk → moS gk mo M (upd I 0 0) Ai A → agJ [29, 30, 32, 33, 34] Aj A → (k = 0 → A = Aj) → (∀ k', k = k' + 1 → ∃ tau, mn_k (mg_s Ai Aj ne nz nw cn from' to T nl) (Aj 32) (Aj 33) k' = some tau ∧ ∀ j, j < 6 → A 32 j = tau j ∧ A 33 j = tau j) → pz_Z X 7 61 [(6, .inl (nI k)), (0, .inr (.inr (some (mo)))), (1, .inl (nI from')), (2, .inl (nI to)), (3, .inr (.inl (lN T))), (5, .inl (nI n))] [] gk 0 0 := by
        intro m
        induction m with
        | zero =>
          intro k gk A hk hS hmk hag h0 hs
          obtain ⟨tau, ht, hA⟩ := hs n (by omega)
          refine bX10_next_61 hX _ _ _ _ _ ⟨fun _ => ?_, fun q => absurd ((ni_lt (by omega) (by omega)).mpr (by omega)) q⟩
          have h32 := hmk.2.2.2 32 (by decide)
          refine bX10_next_96 hX hR _ _ _ _ _ ⟨_, _, _, hmk.1, rfl, _, _, _, h32, ni_in (j := 0) (by decide) (by decide), ?_⟩
          refine ⟨Nat.le_refl _, Nat.le_refl _, hS, Or.inr ⟨hok, T, n, hT, rfl, hn, rfl, ?_, A, hmk, hag⟩⟩
          rw [ht]
          show some (Sum.inl (A 32 0).toInt32) = some (Sum.inl (tau 0).toInt32)
          rw [(hA 0 (by omega)).1]
        | succ m ih =>
          intro k gk A hk hS hmk hag h0 hs
          refine bX10_next_61 hX _ _ _ _ _ ⟨fun q => absurd ((ni_lt (by omega) (by omega)).mp q) (by omega), fun _ => ?_⟩
          have call : ∀ (first : Bool) (tau b0 : Nat → Int64) (lv : pz_L), (∀ j, j < 6 → A 32 j = tau j ∧ A 33 j = b0 j) → mn_k (mg_s Ai Aj ne nz nw cn from' to T nl) (Aj 32) (Aj 33) k = (if (mg_s Ai Aj ne nz nw cn from' to T nl tau first b0).1 = true then some (mg_s Ai Aj ne nz nw cn from' to T nl tau first b0).2 else none) → pz_all lv [(6, .inl (nI k)), (0, .inr (.inr (some (mo)))), (1, .inl (nI from')), (2, .inl (nI to)), (3, .inr (.inl (lN T))), (5, .inl (nI n))] → pz_Z X 7 82 lv [.inl (b01 first), .inr (.inl (lN T)), .inl (nI to), .inl (nI from'), .inr (.inr (some (mo)))] gk 0 0 := by
            intro first tau b0 lv htb hmn hlv
            refine pz_lsub hlv ?_
            refine bX10_next_82 hX hrm hGX hOk ((from', to, T, first), (tau, b0), (nl, ne, nz, nw, cn), (mo, M, upd I 0 0, Ai, A)) (by decide) _ _ _ _ _ ⟨Nat.le_of_ble_eq_true rfl, ⟨mo, [.inl (nI from'), .inl (nI to), .inr (.inl (lN T)), .inl (b01 first)], [100], _, rfl, hmk.1⟩, Nat.le_of_ble_eq_true rfl, Nat.le_of_ble_eq_true rfl, Nat.le_of_ble_eq_true rfl, ⟨rfl, hfr, hto, hT, htb, hW0, hmk⟩, ?_⟩
            rintro v g3 ⟨rfl, hS3, A3, hm3, hag3, ht3⟩ z hz -
            cases hz
            rw [mg_s_ag hag] at ht3 ⊢
            have hag3' := agJ_tr hag hag3
            refine ⟨fun q => ?_, fun q => ?_⟩
            · rw [b01_nz] at q
              refine bX10_next_90 hX _ _ _ _ _ ?_
              refine pz_lsub (lv' := [(6, .inl (nI (k + 1))), (0, .inr (.inr (some (mo)))), (1, .inl (nI from')), (2, .inl (nI to)), (3, .inr (.inl (lN T))), (5, .inl (nI n))]) ⟨ni_inc, rfl, rfl, rfl, rfl, rfl, trivial⟩ ?_
              refine ih (k + 1) g3 A3 (by omega) (hg_tr hS hS3) hm3 hag3' (fun h => absurd h (by omega)) (fun k' hk' => ?_)
              obtain rfl : k' = k := by omega
              exact ⟨_, by rw [hmn, if_pos q], ht3⟩
            · rw [b01_z] at q
              refine bX10_next_88 hX hR _ _ _ _ _ ⟨Nat.le_refl _, Nat.le_refl _, hg_tr hS hS3, Or.inr ⟨hok, T, n, hT, rfl, hn, rfl, ?_, A3, hm3, hag3'⟩⟩
              have hno : mn_k (mg_s Ai Aj ne nz nw cn from' to T nl) (Aj 32) (Aj 33) k = none := by rw [hmn, q, if_neg (by decide)]
              have := mn_none hno (n - k)
              rw [show k + (n - k) = n by omega] at this
              rw [this]
              rfl
          refine bX10_next_68 hX _ _ _ _ _ ⟨fun q => ?_, fun q => ?_⟩
          · have hk0 : k ≠ 0 := fun e => q (by rw [e]; rfl)
            obtain ⟨k', rfl⟩ : ∃ k', k = k' + 1 := ⟨k - 1, by omega⟩
            obtain ⟨tau, ht, hA⟩ := hs k' rfl
            refine bX10_next_81 hX _ _ _ _ _ ?_
            refine call false tau tau _ hA ?_ ⟨rfl, rfl, rfl, rfl, rfl, rfl, trivial⟩
            show (match mn_k (mg_s Ai Aj ne nz nw cn from' to T nl) (Aj 32) (Aj 33) k' with | none => none | some tau => if (mg_s Ai Aj ne nz nw cn from' to T nl tau false tau).1 = true then some (mg_s Ai Aj ne nz nw cn from' to T nl tau false tau).2 else none) = _
            rw [ht]
          · have hk0 : k = 0 := ni_inj (by omega) (by omega) q
            subst hk0
            have hA0 := h0 rfl
            refine bX10_next_77 hX _ _ _ _ _ ?_
            exact call true (Aj 32) (Aj 33) _ (fun j _ => by rw [hA0]; exact ⟨rfl, rfl⟩) rfl ⟨rfl, rfl, rfl, rfl, rfl, rfl, trivial⟩
      refine bX10_next_58 hX _ _ _ _ _ ?_
      refine pz_lsub (lv' := [(6, .inl (nI 0)), (0, .inr (.inr (some (mo)))), (1, .inl (nI from')), (2, .inl (nI to)), (3, .inr (.inl (lN T))), (5, .inl (nI n))]) ⟨rfl, rfl, rfl, rfl, rfl, rfl, trivial⟩ ?_
      exact loop (n + 1) 0 g2 Aj (by omega) hS2 hm2 agJ_rf (fun _ => rfl) (fun k' hk' => absurd hk' (by omega))
    have at49 : ∀ (a b : Bool), a = me_bad p0 p1 → b = mn_b t i → pz_Z X 7 49 [(0, .inr (.inr (some (mo)))), (1, .inl (p0)), (2, .inl (p1)), (3, .inr (.inl (t))), (5, .inl (i))] [.inl (b01 b), .inl (b01 a), .inr (.inr (some (mo)))] g 0 0 := by
      intro a b ha hb
      refine bX10_next_49 hX _ _ _ _ _ ?_
      refine bX10_next_50 hX hrm hGX hOk ((mo, a, b, false), M, I) (by decide) _ _ _ _ _ ⟨Nat.le_of_ble_eq_true rfl, ⟨mo, [.inl (b01 a), .inl (b01 b), .inl 0], [100], _, rfl, h1⟩, Nat.le_of_ble_eq_true rfl, Nat.le_of_ble_eq_true rfl, Nat.le_of_ble_eq_true rfl, ⟨rfl, h1⟩, ?_⟩
      rintro v g2 ⟨rfl, rfl⟩ y hy -
      cases hy
      rw [Bool.or_false]
      obtain ⟨hm2, hS2⟩ := mo_f hm 0 (by decide) (rf3 a b false)
      refine ⟨fun z => ?_, fun z => ?_⟩
      · rw [b01_z] at z
        have hq := Bool.or_eq_false_iff.mp z
        rw [show rf3 a b false = 0 by rw [hq.1, hq.2]; rfl] at hm2 hS2 ⊢
        obtain ⟨c1, c2, c3, c4⟩ := hgd (by rw [← ha]; exact hq.1)
        have hb2 : mn_b t i = false := by rw [← hb]; exact hq.2
        have hb3 := Bool.or_eq_false_iff.mp hb2
        obtain ⟨T, hT, eT⟩ : ∃ q, q ≤ 1700000000 ∧ t = lN q := wi_lN (by decide) (by
          have h9 : wi t 0 1700000000 = true := by
            have := hb3.1
            simpa using this
          exact h9)
        obtain ⟨n, hn, en⟩ : ∃ q, q ≤ 100 ∧ i = nI q := wi_nI (by omega) (by
          have h9 : wi i.toInt64 0 100 = true := by
            have := hb3.2
            simpa using this
          exact h9)
        exact acc T n _ c1 c2 c3 c4 hT eT hn en hS2 hm2 (by rw [← ha, ← hb]; exact z)
      · rw [b01_nz] at z
        exact bX10_next_56 hX hR _ _ _ _ _ ⟨Nat.le_refl _, Nat.le_refl _, hS2, Or.inl ⟨by rw [← ha, ← hb]; exact z, rfl, by rw [← ha, ← hb]; exact hm2⟩⟩
    have at20 : ∀ (a : Bool), a = me_bad p0 p1 → pz_Z X 7 20 [(0, .inr (.inr (some (mo)))), (1, .inl (p0)), (2, .inl (p1)), (3, .inr (.inl (t))), (5, .inl (i))] [.inl (b01 a), .inr (.inr (some (mo)))] g 0 0 := by
      intro a ha
      have bad : mn_b t i = true → pz_Z X 7 44 [(0, .inr (.inr (some (mo)))), (1, .inl (p0)), (2, .inl (p1)), (3, .inr (.inl (t))), (5, .inl (i))] [.inl (b01 a), .inr (.inr (some (mo)))] g 0 0 := by
        intro h
        refine bX10_next_44 hX _ _ _ _ _ ?_
        exact at49 a true ha h.symm
      refine bX10_next_20 hX _ _ _ _ _ ?_
      refine bX10_next_25 hX hrm hGX hOk (t, 0, 1700000000) (by decide) _ _ _ _ _ ⟨Nat.le_of_ble_eq_true rfl, Nat.le_of_ble_eq_true rfl, Nat.le_of_ble_eq_true rfl, Nat.le_of_ble_eq_true rfl, rfl, ?_⟩
      rintro v g2 ⟨rfl, rfl⟩ y hy -
      cases hy
      refine ⟨fun z => ?_, fun z => ?_⟩
      · rw [b01_z] at z
        exact bad (by unfold mn_b; rw [z]; rfl)
      · rw [b01_nz] at z
        refine bX10_next_31 hX _ _ _ _ _ ?_
        refine bX10_next_38 hX hrm hGX hOk (i.toInt64, 0, 100) (by decide) _ _ _ _ _ ⟨Nat.le_of_ble_eq_true rfl, Nat.le_of_ble_eq_true rfl, Nat.le_of_ble_eq_true rfl, Nat.le_of_ble_eq_true rfl, rfl, ?_⟩
        rintro v g2 ⟨rfl, rfl⟩ y hy -
        cases hy
        refine ⟨fun z2 => ?_, fun z2 => ?_⟩
        · rw [b01_nz] at z2
          refine bX10_next_48 hX _ _ _ _ _ ?_
          exact at49 a false ha (by unfold mn_b; rw [z, z2]; rfl)
        · rw [b01_z] at z2
          exact bad (by unfold mn_b; rw [z2]; simp)
    have bad : me_bad p0 p1 = true → pz_Z X 7 15 [(0, .inr (.inr (some (mo)))), (1, .inl (p0)), (2, .inl (p1)), (3, .inr (.inl (t))), (5, .inl (i))] [.inr (.inr (some (mo)))] g 0 0 := by
      intro hb
      refine bX10_next_15 hX _ _ _ _ _ ?_
      exact at20 true hb.symm
    refine bX10_next_0 hX _ _ _ _ _ ?_
    refine bX10_next_2 hX hrm hGX hOk p0 (by decide) _ _ _ _ _ ⟨Nat.le_of_ble_eq_true rfl, Nat.le_of_ble_eq_true rfl, Nat.le_of_ble_eq_true rfl, Nat.le_of_ble_eq_true rfl, rfl, ?_⟩
    rintro v g2 ⟨rfl, rfl⟩ y hy -
    cases hy
    refine ⟨fun z => ?_, fun z => ?_⟩
    · rw [b01_z] at z
      exact bad (by unfold me_bad; rw [z]; rfl)
    · rw [b01_nz] at z
      refine bX10_next_8 hX _ _ _ _ _ ?_
      refine bX10_next_9 hX hrm hGX hOk p1 (by decide) _ _ _ _ _ ⟨Nat.le_of_ble_eq_true rfl, Nat.le_of_ble_eq_true rfl, Nat.le_of_ble_eq_true rfl, Nat.le_of_ble_eq_true rfl, rfl, ?_⟩
      rintro v g2 ⟨rfl, rfl⟩ y hy -
      cases hy
      refine ⟨fun z2 => ?_, fun z2 => ?_⟩
      · rw [b01_nz] at z2
        refine bX10_next_19 hX _ _ _ _ _ ?_
        exact at20 false (by unfold me_bad; rw [z, z2]; rfl)
      · rw [b01_z] at z2
        exact bad (by unfold me_bad; rw [z2]; simp)
set_option maxRecDepth 20000 in
theorem bX10_days_0 {X : pz_C} (hX : pz_X X cX10_days 4 RX10) : ∀ lv st g c s, (zo_al 1 0 (zo_il 1 1 (zo_i2l (zo_lc 1 (1) (zo_lc 3 (12) (pz_Z X 4)))))) 0 lv st g c s → pz_Z X 4 0 lv st g c s := (zs_aload_n hX dX10_days_0 rfl (zs_iload_n hX dX10_days_1 rfl (zs_i2l hX dX10_days_2 (zs_lconst hX dX10_days_3 (by decide) (zs_ldc2 hX dX10_days_4 mw_bac607d1 (fun _ _ _ _ _ h => h))))))
set_option maxRecDepth 20000 in
theorem bX10_days_7 {X : pz_C} {G : pz_Gx} {rm : Room} (hX : pz_X X cX10_days 4 RX10) (hrm : pz_rm X = rm) (hGX : pz_GX X G) (hOk : pz_OK G) (gh : gt_X10_within) (hr_X10_within : rm_X10_within.frames + 1 ≤ rm.frames ∧ 8 + (6 + 11) + rm_X10_within.locals ≤ rm.locals) : ∀ lv st g c s, (zo_cs rm 3 3 rm_X10_within.cells rm_X10_within.slots (pr_X10_within gh) (po_X10_within gh) (zo_kz (zo_if_ne 17 (pz_Z X 4)))) 7 lv st g c s → pz_Z X 4 7 lv st g c s := by
  subst hrm
  exact (zs_csS hX hGX (ct_X10_within hOk gh) mw_b2fd6b25 mw_bf52c9cc mw_33939a39 mw_fee1cb2c (by decide +kernel) hr_X10_within dX10_days_7 (zs_kz (zs_if_ne hX dX10_days_10 (by decide) (fun _ _ _ _ _ _ h => h))))
set_option maxRecDepth 20000 in
theorem bX10_days_13 {X : pz_C} (hX : pz_X X cX10_days 4 RX10) : ∀ lv st g c s, (zo_ic 1 (1) (zo_goto 18 (pz_Z X 4))) 13 lv st g c s → pz_Z X 4 13 lv st g c s := (zs_iconst hX dX10_days_13 (by decide) (zs_goto hX dX10_days_14 (by decide) (fun _ _ _ _ _ _ h => h)))
set_option maxRecDepth 20000 in
theorem bX10_days_17 {X : pz_C} (hX : pz_X X cX10_days 4 RX10) : ∀ lv st g c s, (zo_ic 1 (0) (pz_Z X 4)) 17 lv st g c s → pz_Z X 4 17 lv st g c s := (zs_iconst hX dX10_days_17 (by decide) (fun _ _ _ _ _ h => h))
set_option maxRecDepth 20000 in
theorem bX10_days_18 {X : pz_C} (hX : pz_X X cX10_days 4 RX10) : ∀ lv st g c s, (zo_ic 1 (0) (zo_ic 1 (0) (pz_Z X 4))) 18 lv st g c s → pz_Z X 4 18 lv st g c s := (zs_iconst hX dX10_days_18 (by decide) (zs_iconst hX dX10_days_19 (by decide) (fun _ _ _ _ _ h => h)))
set_option maxRecDepth 20000 in
theorem bX10_days_20 {X : pz_C} {G : pz_Gx} {rm : Room} (hX : pz_X X cX10_days 4 RX10) (hrm : pz_rm X = rm) (hGX : pz_GX X G) (hOk : pz_OK G) (gh : gt_X10_refused) (hr_X10_refused : rm_X10_refused.frames + 1 ≤ rm.frames ∧ 8 + (4 + 11) + rm_X10_refused.locals ≤ rm.locals) : ∀ lv st g c s, (zo_cV rm 12 3 3 rm_X10_refused.cells rm_X10_refused.slots (pr_X10_refused gh) (po_X10_refused gh) (zo_kz (zo_if_eq 28 (pz_Z X 4)))) 20 lv st g c s → pz_Z X 4 20 lv st g c s := by
  subst hrm
  exact (zs_csV hX hGX (C := RX10) (T := TX10) (N := 37) rfl (ct_X10_refused hOk gh) mw_53c1f8a2 mw_ba17b74c mw_7c91c019 mw_33939a39 mw_471b458e (by decide +kernel) hr_X10_refused dX10_days_20 (zs_kz (zs_if_eq hX dX10_days_23 (by decide) (fun _ _ _ _ _ _ h => h))))
set_option maxRecDepth 20000 in
theorem bX10_days_26 {X : pz_C} {rm : Room} {E : Option pz_V → pz_H → Prop} (hX : pz_X X cX10_days 4 RX10) (hR : pz_Rt X cX10_days 4 (some .int) rm E) : ∀ lv st g c s, (zo_ic 1 (0) (zo_ri rm E)) 26 lv st g c s → pz_Z X 4 26 lv st g c s := (zs_iconst hX dX10_days_26 (by decide) (zs_ri hR dX10_days_27))
set_option maxRecDepth 20000 in
theorem bX10_days_28 {X : pz_C} (hX : pz_X X cX10_days 4 RX10) : ∀ lv st g c s, (zo_il 1 2 (zo_ic 1 (4) (zo_irem (zo_if_ne 41 (pz_Z X 4))))) 28 lv st g c s → pz_Z X 4 28 lv st g c s := (zs_iload_n hX dX10_days_28 rfl (zs_iconst hX dX10_days_29 (by decide) (zs_irem hX dX10_days_30 (zs_if_ne hX dX10_days_31 (by decide) (fun _ _ _ _ _ _ h => h)))))
set_option maxRecDepth 20000 in
theorem bX10_days_34 {X : pz_C} (hX : pz_X X cX10_days 4 RX10) : ∀ lv st g c s, (zo_il 1 2 (zo_ic 2 (100) (zo_irem (zo_if_ne 49 (pz_Z X 4))))) 34 lv st g c s → pz_Z X 4 34 lv st g c s := (zs_iload_n hX dX10_days_34 rfl (zs_bipush hX dX10_days_35 (by decide) (zs_irem hX dX10_days_37 (zs_if_ne hX dX10_days_38 (by decide) (fun _ _ _ _ _ _ h => h)))))
set_option maxRecDepth 20000 in
theorem bX10_days_41 {X : pz_C} (hX : pz_X X cX10_days 4 RX10) : ∀ lv st g c s, (zo_il 1 2 (zo_ic 3 (400) (zo_irem (zo_if_ne 53 (pz_Z X 4))))) 41 lv st g c s → pz_Z X 4 41 lv st g c s := (zs_iload_n hX dX10_days_41 rfl (zs_sipush hX dX10_days_42 (by decide) (zs_irem hX dX10_days_45 (zs_if_ne hX dX10_days_46 (by decide) (fun _ _ _ _ _ _ h => h)))))
set_option maxRecDepth 20000 in
theorem bX10_days_49 {X : pz_C} (hX : pz_X X cX10_days 4 RX10) : ∀ lv st g c s, (zo_ic 1 (1) (zo_goto 54 (pz_Z X 4))) 49 lv st g c s → pz_Z X 4 49 lv st g c s := (zs_iconst hX dX10_days_49 (by decide) (zs_goto hX dX10_days_50 (by decide) (fun _ _ _ _ _ _ h => h)))
set_option maxRecDepth 20000 in
theorem bX10_days_53 {X : pz_C} (hX : pz_X X cX10_days 4 RX10) : ∀ lv st g c s, (zo_ic 1 (0) (pz_Z X 4)) 53 lv st g c s → pz_Z X 4 53 lv st g c s := (zs_iconst hX dX10_days_53 (by decide) (fun _ _ _ _ _ h => h))
set_option maxRecDepth 20000 in
theorem bX10_days_54 {X : pz_C} (hX : pz_X X cX10_days 4 RX10) : ∀ lv st g c s, (zo_is 1 3 (zo_il 1 1 (zo_ic 1 (2) (zo_ic_ne 74 (pz_Z X 4))))) 54 lv st g c s → pz_Z X 4 54 lv st g c s := (zs_istore_n hX dX10_days_54 rfl (by decide) (zs_iload_n hX dX10_days_55 rfl (zs_iconst hX dX10_days_56 (by decide) (zs_ic_ne hX dX10_days_57 (by decide) (fun _ _ _ _ _ _ h => h)))))
set_option maxRecDepth 20000 in
theorem bX10_days_60 {X : pz_C} (hX : pz_X X cX10_days 4 RX10) : ∀ lv st g c s, (zo_il 1 3 (zo_if_eq 69 (pz_Z X 4))) 60 lv st g c s → pz_Z X 4 60 lv st g c s := (zs_iload_n hX dX10_days_60 rfl (zs_if_eq hX dX10_days_61 (by decide) (fun _ _ _ _ _ _ h => h)))
set_option maxRecDepth 20000 in
theorem bX10_days_64 {X : pz_C} (hX : pz_X X cX10_days 4 RX10) : ∀ lv st g c s, (zo_ic 2 (29) (zo_goto 104 (pz_Z X 4))) 64 lv st g c s → pz_Z X 4 64 lv st g c s := (zs_bipush hX dX10_days_64 (by decide) (zs_goto hX dX10_days_66 (by decide) (fun _ _ _ _ _ _ h => h)))
set_option maxRecDepth 20000 in
theorem bX10_days_69 {X : pz_C} (hX : pz_X X cX10_days 4 RX10) : ∀ lv st g c s, (zo_ic 2 (28) (zo_goto 104 (pz_Z X 4))) 69 lv st g c s → pz_Z X 4 69 lv st g c s := (zs_bipush hX dX10_days_69 (by decide) (zs_goto hX dX10_days_71 (by decide) (fun _ _ _ _ _ _ h => h)))
set_option maxRecDepth 20000 in
theorem bX10_days_74 {X : pz_C} (hX : pz_X X cX10_days 4 RX10) : ∀ lv st g c s, (zo_il 1 1 (zo_ic 1 (4) (zo_ic_eq 97 (pz_Z X 4)))) 74 lv st g c s → pz_Z X 4 74 lv st g c s := (zs_iload_n hX dX10_days_74 rfl (zs_iconst hX dX10_days_75 (by decide) (zs_ic_eq hX dX10_days_76 (by decide) (fun _ _ _ _ _ _ h => h))))
set_option maxRecDepth 20000 in
theorem bX10_days_79 {X : pz_C} (hX : pz_X X cX10_days 4 RX10) : ∀ lv st g c s, (zo_il 1 1 (zo_ic 2 (6) (zo_ic_eq 97 (pz_Z X 4)))) 79 lv st g c s → pz_Z X 4 79 lv st g c s := (zs_iload_n hX dX10_days_79 rfl (zs_bipush hX dX10_days_80 (by decide) (zs_ic_eq hX dX10_days_82 (by decide) (fun _ _ _ _ _ _ h => h))))
set_option maxRecDepth 20000 in
theorem bX10_days_85 {X : pz_C} (hX : pz_X X cX10_days 4 RX10) : ∀ lv st g c s, (zo_il 1 1 (zo_ic 2 (9) (zo_ic_eq 97 (pz_Z X 4)))) 85 lv st g c s → pz_Z X 4 85 lv st g c s := (zs_iload_n hX dX10_days_85 rfl (zs_bipush hX dX10_days_86 (by decide) (zs_ic_eq hX dX10_days_88 (by decide) (fun _ _ _ _ _ _ h => h))))
set_option maxRecDepth 20000 in
theorem bX10_days_91 {X : pz_C} (hX : pz_X X cX10_days 4 RX10) : ∀ lv st g c s, (zo_il 1 1 (zo_ic 2 (11) (zo_ic_ne 102 (pz_Z X 4)))) 91 lv st g c s → pz_Z X 4 91 lv st g c s := (zs_iload_n hX dX10_days_91 rfl (zs_bipush hX dX10_days_92 (by decide) (zs_ic_ne hX dX10_days_94 (by decide) (fun _ _ _ _ _ _ h => h))))
set_option maxRecDepth 20000 in
theorem bX10_days_97 {X : pz_C} (hX : pz_X X cX10_days 4 RX10) : ∀ lv st g c s, (zo_ic 2 (30) (zo_goto 104 (pz_Z X 4))) 97 lv st g c s → pz_Z X 4 97 lv st g c s := (zs_bipush hX dX10_days_97 (by decide) (zs_goto hX dX10_days_99 (by decide) (fun _ _ _ _ _ _ h => h)))
set_option maxRecDepth 20000 in
theorem bX10_days_102 {X : pz_C} (hX : pz_X X cX10_days 4 RX10) : ∀ lv st g c s, (zo_ic 2 (31) (pz_Z X 4)) 102 lv st g c s → pz_Z X 4 102 lv st g c s := (zs_bipush hX dX10_days_102 (by decide) (fun _ _ _ _ _ h => h))
set_option maxRecDepth 20000 in
theorem bX10_days_104 {X : pz_C} {rm : Room} {E : Option pz_V → pz_H → Prop} (hX : pz_X X cX10_days 4 RX10) (hR : pz_Rt X cX10_days 4 (some .int) rm E) : ∀ lv st g c s, (zo_ri rm E) 104 lv st g c s → pz_Z X 4 104 lv st g c s := (zs_ri hR dX10_days_104)
def md_lp (y : Int32) : Bool := (decide (y - y / 4 * 4 = 0) && !decide (y - y / 100 * 100 = 0)) || decide (y - y / 400 * 400 = 0)
def md_v (m y : Int32) : Int32 := if m = 2 then (if md_lp y = true then 29 else 28) else if m = 4 ∨ m = 6 ∨ m = 9 ∨ m = 11 then 30 else 31
def rm_X10_days : Room := { frames := 1, cells := 0, slots := 0, locals := 25 }
abbrev gt_X10_days : Type := (Int32 × Int32) × mo_T
def pr_X10_days : gt_X10_days → List pz_V → pz_H → Prop := fun ((m, y), (mo, M, I, Ai, Aj)) av g => av = [.inr (.inr (some (mo))), .inl (m), .inl (y)] ∧ moS g mo M I Ai Aj
def po_X10_days : gt_X10_days → List pz_V → pz_H → Option pz_V → pz_H → Prop := fun ((m, y), (mo, M, I, Ai, Aj)) _ g v g' => hg moL g g' ∧ ((wi m.toInt64 1 12 = false ∧ v = some (.inl 0) ∧ moS g' mo M (upd I 0 1) Ai Aj) ∨ (wi m.toInt64 1 12 = true ∧ v = some (.inl (md_v m y)) ∧ moS g' mo M (upd I 0 0) Ai Aj))
set_option maxRecDepth 20000 in
set_option maxHeartbeats 8000000 in
theorem ct_X10_days {G : pz_Gx} (hOk : pz_OK G) (gh : gt_X10_days) : pz_M G yX10_days cX10_days 4 (some .int) rm_X10_days (pr_X10_days gh) (po_X10_days gh) := by
  obtain ⟨⟨m, y⟩, mo, M, I, Ai, Aj⟩ := gh
  refine pz_ofZ (by decide) hOk.1 (Or.inr (Or.inl rfl)) ?_ ?_
  · rintro av g ⟨rfl, -⟩
    exact Nat.le_of_ble_eq_true rfl
  · rintro X hX hGX hrm - av g ⟨rfl, hm⟩ hR
    have h1 := hm.1
    have at18 : ∀ (a : Bool), a = !wi m.toInt64 1 12 → pz_Z X 4 18 [(0, .inr (.inr (some (mo)))), (1, .inl (m)), (2, .inl (y))] [.inl (b01 a), .inr (.inr (some (mo)))] g 0 0 := by
      intro a ha
      refine bX10_days_18 hX _ _ _ _ _ ?_
      refine bX10_days_20 hX hrm hGX hOk ((mo, a, false, false), M, I) (by decide) _ _ _ _ _ ⟨Nat.le_of_ble_eq_true rfl, ⟨mo, [.inl (b01 a), .inl 0, .inl 0], [100], _, rfl, h1⟩, Nat.le_of_ble_eq_true rfl, Nat.le_of_ble_eq_true rfl, Nat.le_of_ble_eq_true rfl, ⟨rfl, h1⟩, ?_⟩
      rintro v g2 ⟨rfl, rfl⟩ z hz -
      cases hz
      rw [Bool.or_false, Bool.or_false]
      obtain ⟨hm2, hS2⟩ := mo_f hm 0 (by decide) (rf3 a false false)
      refine ⟨fun q => ?_, fun q => ?_⟩
      · rw [b01_z] at q
        subst q
        have hw : wi m.toInt64 1 12 = true := by
          cases hc : wi m.toInt64 1 12 with
          | true => rfl
          | false => rw [hc] at ha; cases ha
        rw [show rf3 false false false = 0 from rfl] at hm2 hS2 ⊢
        generalize va_up g mo (some ([100], .inr (12, (mo_fs I M).set 0 (.inl 0)))) = g3 at hm2 hS2 ⊢
        have fin : ∀ (x : Int32) (lv : pz_L), x = md_v m y → pz_Z X 4 104 lv [.inl (x)] g3 0 0 := fun x lv hx => bX10_days_104 hX hR _ _ _ _ _ ⟨Nat.le_refl _, Nat.le_refl _, hS2, Or.inr ⟨hw, by rw [hx], hm2⟩⟩
        have at97 : ∀ lv : pz_L, ¬ m = 2 → (m = 4 ∨ m = 6 ∨ m = 9 ∨ m = 11) → pz_Z X 4 97 lv [] g3 0 0 := fun lv h2 h => bX10_days_97 hX _ _ _ _ _ (fin _ _ (by unfold md_v; rw [if_neg h2, if_pos h]))
        have at54 : ∀ (b : Bool) (lv : pz_L), b = md_lp y → pz_all lv [(0, .inr (.inr (some (mo)))), (1, .inl (m)), (2, .inl (y))] → pz_Z X 4 54 lv [.inl (b01 b)] g3 0 0 := by
          intro b lv hb hlv
          refine pz_lsub hlv ?_
          refine bX10_days_54 hX _ _ _ _ _ ⟨fun q => ?_, fun q => ?_⟩
          · refine bX10_days_74 hX _ _ _ _ _ ⟨fun q4 => at97 _ q (Or.inl q4), fun q4 => ?_⟩
            refine bX10_days_79 hX _ _ _ _ _ ⟨fun q6 => at97 _ q (Or.inr (Or.inl q6)), fun q6 => ?_⟩
            refine bX10_days_85 hX _ _ _ _ _ ⟨fun q9 => at97 _ q (Or.inr (Or.inr (Or.inl q9))), fun q9 => ?_⟩
            refine bX10_days_91 hX _ _ _ _ _ ⟨fun q11 => ?_, fun q11 => at97 _ q (Or.inr (Or.inr (Or.inr q11)))⟩
            refine bX10_days_102 hX _ _ _ _ _ ?_
            exact fin _ _ (by unfold md_v; rw [if_neg q, if_neg (fun z => z.elim q4 (fun z => z.elim q6 (fun z => z.elim q9 q11)))])
          · refine bX10_days_60 hX _ _ _ _ _ ⟨fun q2 => ?_, fun q2 => ?_⟩
            · rw [b01_z] at q2
              refine bX10_days_69 hX _ _ _ _ _ ?_
              exact fin _ _ (by unfold md_v; rw [if_pos q, ← hb, q2, if_neg (by decide)])
            · rw [b01_nz] at q2
              refine bX10_days_64 hX _ _ _ _ _ ?_
              exact fin _ _ (by unfold md_v; rw [if_pos q, ← hb, q2, if_pos rfl])
        have yes : md_lp y = true → ∀ lv : pz_L, pz_all lv [(0, .inr (.inr (some (mo)))), (1, .inl (m)), (2, .inl (y))] → pz_Z X 4 49 lv [] g3 0 0 := by
          intro h lv hlv
          refine pz_lsub hlv ?_
          refine bX10_days_49 hX _ _ _ _ _ ?_
          exact at54 true _ h.symm ⟨rfl, rfl, rfl, trivial⟩
        have at41 : (decide (y - y / 4 * 4 = 0) && !decide (y - y / 100 * 100 = 0)) = false → ∀ lv : pz_L, pz_all lv [(0, .inr (.inr (some (mo)))), (1, .inl (m)), (2, .inl (y))] → pz_Z X 4 41 lv [] g3 0 0 := by
          intro h lv hlv
          refine pz_lsub hlv ?_
          refine bX10_days_41 hX _ _ _ _ _ ⟨by decide, fun q => ?_, fun q => ?_⟩
          · refine bX10_days_53 hX _ _ _ _ _ ?_
            exact at54 false _ (by unfold md_lp; rw [h, decide_eq_false q]; rfl) ⟨rfl, rfl, rfl, trivial⟩
          · exact yes (by unfold md_lp; rw [decide_eq_true q, Bool.or_true]) _ ⟨rfl, rfl, rfl, trivial⟩
        refine bX10_days_28 hX _ _ _ _ _ ⟨by decide, fun q => ?_, fun q => ?_⟩
        · exact at41 (by rw [decide_eq_false q]; rfl) _ ⟨rfl, rfl, rfl, trivial⟩
        · refine bX10_days_34 hX _ _ _ _ _ ⟨by decide, fun q2 => ?_, fun q2 => ?_⟩
          · exact yes (by unfold md_lp; rw [decide_eq_true q, decide_eq_false q2]; rfl) _ ⟨rfl, rfl, rfl, trivial⟩
          · exact at41 (by rw [decide_eq_true q2]; simp) _ ⟨rfl, rfl, rfl, trivial⟩
      · rw [b01_nz] at q
        subst q
        have hw : wi m.toInt64 1 12 = false := by
          cases hc : wi m.toInt64 1 12 with
          | false => rfl
          | true => rw [hc] at ha; cases ha
        exact bX10_days_26 hX hR _ _ _ _ _ ⟨Nat.le_refl _, Nat.le_refl _, hS2, Or.inl ⟨hw, rfl, hm2⟩⟩
    refine bX10_days_0 hX _ _ _ _ _ ?_
    refine bX10_days_7 hX hrm hGX hOk (m.toInt64, 1, 12) (by decide) _ _ _ _ _ ⟨Nat.le_of_ble_eq_true rfl, Nat.le_of_ble_eq_true rfl, Nat.le_of_ble_eq_true rfl, Nat.le_of_ble_eq_true rfl, rfl, ?_⟩
    rintro v g2 ⟨rfl, rfl⟩ z hz -
    cases hz
    refine ⟨fun q => ?_, fun q => ?_⟩
    · rw [b01_nz] at q
      refine bX10_days_17 hX _ _ _ _ _ ?_
      exact at18 false (by rw [q]; rfl)
    · rw [b01_z] at q
      refine bX10_days_13 hX _ _ _ _ _ ?_
      exact at18 true (by rw [q]; rfl)
set_option maxRecDepth 20000 in
theorem bX10_sign_0 {X : pz_C} (hX : pz_X X cX10_sign 2 RX10) : ∀ lv st g c s, (zo_al 1 0 (zo_il 1 1 (zo_i2l (zo_lc 3 (32) (zo_lc 3 (126) (pz_Z X 2)))))) 0 lv st g c s → pz_Z X 2 0 lv st g c s := (zs_aload_n hX dX10_sign_0 rfl (zs_iload_n hX dX10_sign_1 rfl (zs_i2l hX dX10_sign_2 (zs_ldc2 hX dX10_sign_3 mw_7b8bc9b7 (zs_ldc2 hX dX10_sign_6 mw_46989f95 (fun _ _ _ _ _ h => h))))))
set_option maxRecDepth 20000 in
theorem bX10_sign_9 {X : pz_C} {G : pz_Gx} {rm : Room} (hX : pz_X X cX10_sign 2 RX10) (hrm : pz_rm X = rm) (hGX : pz_GX X G) (hOk : pz_OK G) (gh : gt_X10_within) (hr_X10_within : rm_X10_within.frames + 1 ≤ rm.frames ∧ 8 + (6 + 11) + rm_X10_within.locals ≤ rm.locals) : ∀ lv st g c s, (zo_cs rm 3 3 rm_X10_within.cells rm_X10_within.slots (pr_X10_within gh) (po_X10_within gh) (zo_kz (zo_if_ne 19 (pz_Z X 2)))) 9 lv st g c s → pz_Z X 2 9 lv st g c s := by
  subst hrm
  exact (zs_csS hX hGX (ct_X10_within hOk gh) mw_b2fd6b25 mw_bf52c9cc mw_33939a39 mw_fee1cb2c (by decide +kernel) hr_X10_within dX10_sign_9 (zs_kz (zs_if_ne hX dX10_sign_12 (by decide) (fun _ _ _ _ _ _ h => h))))
set_option maxRecDepth 20000 in
theorem bX10_sign_15 {X : pz_C} (hX : pz_X X cX10_sign 2 RX10) : ∀ lv st g c s, (zo_ic 1 (1) (zo_goto 20 (pz_Z X 2))) 15 lv st g c s → pz_Z X 2 15 lv st g c s := (zs_iconst hX dX10_sign_15 (by decide) (zs_goto hX dX10_sign_16 (by decide) (fun _ _ _ _ _ _ h => h)))
set_option maxRecDepth 20000 in
theorem bX10_sign_19 {X : pz_C} (hX : pz_X X cX10_sign 2 RX10) : ∀ lv st g c s, (zo_ic 1 (0) (pz_Z X 2)) 19 lv st g c s → pz_Z X 2 19 lv st g c s := (zs_iconst hX dX10_sign_19 (by decide) (fun _ _ _ _ _ h => h))
set_option maxRecDepth 20000 in
theorem bX10_sign_20 {X : pz_C} (hX : pz_X X cX10_sign 2 RX10) : ∀ lv st g c s, (zo_al 1 0 (zo_get 12 27 (zo_ic 3 (500) (zo_ic_ne 34 (pz_Z X 2))))) 20 lv st g c s → pz_Z X 2 20 lv st g c s := (zs_aload_n hX dX10_sign_20 rfl (zs_get hX (C := RX10) (T := TX10) (N := 37) rfl in_X10 (by decide) mw_a8e9bc22 dX10_sign_21 (zs_sipush hX dX10_sign_24 (by decide) (zs_ic_ne hX dX10_sign_27 (by decide) (fun _ _ _ _ _ _ h => h)))))
set_option maxRecDepth 20000 in
theorem bX10_sign_30 {X : pz_C} (hX : pz_X X cX10_sign 2 RX10) : ∀ lv st g c s, (zo_ic 1 (1) (zo_goto 35 (pz_Z X 2))) 30 lv st g c s → pz_Z X 2 30 lv st g c s := (zs_iconst hX dX10_sign_30 (by decide) (zs_goto hX dX10_sign_31 (by decide) (fun _ _ _ _ _ _ h => h)))
set_option maxRecDepth 20000 in
theorem bX10_sign_34 {X : pz_C} (hX : pz_X X cX10_sign 2 RX10) : ∀ lv st g c s, (zo_ic 1 (0) (pz_Z X 2)) 34 lv st g c s → pz_Z X 2 34 lv st g c s := (zs_iconst hX dX10_sign_34 (by decide) (fun _ _ _ _ _ h => h))
set_option maxRecDepth 20000 in
theorem bX10_sign_35 {X : pz_C} (hX : pz_X X cX10_sign 2 RX10) : ∀ lv st g c s, (zo_ic 1 (0) (pz_Z X 2)) 35 lv st g c s → pz_Z X 2 35 lv st g c s := (zs_iconst hX dX10_sign_35 (by decide) (fun _ _ _ _ _ h => h))
set_option maxRecDepth 20000 in
theorem bX10_sign_36 {X : pz_C} {G : pz_Gx} {rm : Room} (hX : pz_X X cX10_sign 2 RX10) (hrm : pz_rm X = rm) (hGX : pz_GX X G) (hOk : pz_OK G) (gh : gt_X10_refused) (hr_X10_refused : rm_X10_refused.frames + 1 ≤ rm.frames ∧ 8 + (4 + 11) + rm_X10_refused.locals ≤ rm.locals) : ∀ lv st g c s, (zo_cV rm 12 3 3 rm_X10_refused.cells rm_X10_refused.slots (pr_X10_refused gh) (po_X10_refused gh) (zo_kz (zo_if_ne 62 (pz_Z X 2)))) 36 lv st g c s → pz_Z X 2 36 lv st g c s := by
  subst hrm
  exact (zs_csV hX hGX (C := RX10) (T := TX10) (N := 37) rfl (ct_X10_refused hOk gh) mw_53c1f8a2 mw_ba17b74c mw_7c91c019 mw_33939a39 mw_471b458e (by decide +kernel) hr_X10_refused dX10_sign_36 (zs_kz (zs_if_ne hX dX10_sign_39 (by decide) (fun _ _ _ _ _ _ h => h))))
set_option maxRecDepth 20000 in
theorem bX10_sign_42 {X : pz_C} (hX : pz_X X cX10_sign 2 RX10) : ∀ lv st g c s, (zo_al 1 0 (zo_get 12 28 (zo_al 1 0 (zo_get 12 27 (zo_il 1 1 (zo_iast (zo_al 1 0 (zo_dup (zo_get 12 27 (zo_ic 1 (1) (zo_iadd (zo_puti 12 27 (pz_Z X 2))))))))))))) 42 lv st g c s → pz_Z X 2 42 lv st g c s := (zs_aload_n hX dX10_sign_42 rfl (zs_get hX (C := RX10) (T := TX10) (N := 37) rfl in_X10 (by decide) mw_b9007286 dX10_sign_43 (zs_aload_n hX dX10_sign_46 rfl (zs_get hX (C := RX10) (T := TX10) (N := 37) rfl in_X10 (by decide) mw_a8e9bc22 dX10_sign_47 (zs_iload_n hX dX10_sign_50 rfl (zs_iast hX dX10_sign_51 (zs_aload_n hX dX10_sign_52 rfl (zs_dup hX dX10_sign_53 (zs_get hX (C := RX10) (T := TX10) (N := 37) rfl in_X10 (by decide) mw_a8e9bc22 dX10_sign_54 (zs_iconst hX dX10_sign_57 (by decide) (zs_iadd hX dX10_sign_58 (zs_puti hX (C := RX10) (T := TX10) (N := 37) rfl in_X10 (by decide) mw_a8e9bc22 tyX10 tyX10_ok nmX10 (by decide +kernel) rfl dX10_sign_59 (fun _ _ _ _ _ h => h)))))))))))))
set_option maxRecDepth 20000 in
theorem bX10_sign_62 {X : pz_C} {rm : Room} {E : Option pz_V → pz_H → Prop} (hX : pz_X X cX10_sign 2 RX10) (hR : pz_Rt X cX10_sign 2 none rm E) : ∀ lv st g c s, (zo_rv rm E) 62 lv st g c s → pz_Z X 2 62 lv st g c s := (zs_rv hR dX10_sign_62)
def rm_X10_sign : Room := { frames := 1, cells := 0, slots := 0, locals := 25 }
abbrev gt_X10_sign : Type := (Int32 × Nat) × mo_T
def pr_X10_sign : gt_X10_sign → List pz_V → pz_H → Prop := fun ((c, n), (mo, M, I, Ai, Aj)) av g => av = [.inr (.inr (some (mo))), .inl (c)] ∧ I 27 = nI n ∧ n ≤ 500 ∧ moS g mo M I Ai Aj
def po_X10_sign : gt_X10_sign → List pz_V → pz_H → Option pz_V → pz_H → Prop := fun ((c, n), (mo, M, I, Ai, Aj)) _ g v g' => v = none ∧ hg moL g g' ∧ (((!wi c.toInt64 32 126 || decide (n = 500)) = true ∧ moS g' mo M (upd I 0 (rf3 (!wi c.toInt64 32 126) (decide (n = 500)) false)) Ai Aj) ∨ ((!wi c.toInt64 32 126 || decide (n = 500)) = false ∧ moS g' mo M (upd (upd I 0 0) 27 (nI (n + 1))) (seqU Ai 28 (upd (Ai 28) n c)) Aj))
set_option maxRecDepth 20000 in
set_option maxHeartbeats 8000000 in
theorem ct_X10_sign {G : pz_Gx} (hOk : pz_OK G) (gh : gt_X10_sign) : pz_M G yX10_sign cX10_sign 2 none rm_X10_sign (pr_X10_sign gh) (po_X10_sign gh) := by
  obtain ⟨⟨c, n⟩, mo, M, I, Ai, Aj⟩ := gh
  refine pz_ofZ (by decide) hOk.1 (Or.inl rfl) ?_ ?_
  · rintro av g ⟨rfl, -⟩
    exact Nat.le_of_ble_eq_true rfl
  · rintro X hX hGX hrm - av g ⟨rfl, hn, hn5, hm⟩ hR
    have h1 := hm.1
    have at35 : ∀ (a b : Bool), a = (!wi c.toInt64 32 126) → b = decide (n = 500) → pz_Z X 2 35 [(0, .inr (.inr (some (mo)))), (1, .inl (c))] [.inl (b01 b), .inl (b01 a), .inr (.inr (some (mo)))] g 0 0 := by
      intro a b ha hb
      refine bX10_sign_35 hX _ _ _ _ _ ?_
      refine bX10_sign_36 hX hrm hGX hOk ((mo, a, b, false), M, I) (by decide) _ _ _ _ _ ⟨Nat.le_of_ble_eq_true rfl, ⟨mo, [.inl (b01 a), .inl (b01 b), .inl 0], [100], _, rfl, h1⟩, Nat.le_of_ble_eq_true rfl, Nat.le_of_ble_eq_true rfl, Nat.le_of_ble_eq_true rfl, ⟨rfl, h1⟩, ?_⟩
      rintro v g2 ⟨rfl, rfl⟩ z hz -
      cases hz
      rw [Bool.or_false]
      obtain ⟨hm2, hS2⟩ := mo_f hm 0 (by decide) (rf3 a b false)
      refine ⟨fun q => ?_, fun q => ?_⟩
      · rw [b01_nz] at q
        exact bX10_sign_62 hX hR _ _ _ _ _ ⟨Nat.le_refl _, Nat.le_refl _, rfl, hS2, Or.inl ⟨by rw [← ha, ← hb]; exact q, by rw [← ha, ← hb]; exact hm2⟩⟩
      · rw [b01_z] at q
        have hq := Bool.or_eq_false_iff.mp q
        rw [show rf3 a b false = 0 by rw [hq.1, hq.2]; rfl] at hm2 hS2 ⊢
        have e0 : (mo_fs I M).set 0 (.inl 0) = mo_fs (upd I 0 0) M := mo_set 0 (by decide) 0
        rw [e0] at hm2 hS2 ⊢
        have hn1 : n < 500 := by
          have := of_decide_eq_false (hb ▸ hq.2)
          omega
        have hI27 : upd I 0 0 27 = nI n := by rw [pk_un (by decide), hn]
        obtain ⟨hm3, hS3⟩ := mo_i hm2 28 (by decide) (upd (Ai 28) n c)
        obtain ⟨hm4, hS4⟩ := mo_f hm3 27 (by decide) (nI (n + 1))
        refine bX10_sign_42 hX _ _ _ _ _ ⟨_, _, _, hm2.1, rfl, _, _, _, hm2.1, rfl, _, _, _, hm2.2.1 28 (by decide), by rw [hI27]; exact ni_in hn1 (by decide), ?_⟩
        rw [hI27, ni_cl (by omega)]
        refine ⟨rfl, _, _, _, hm3.1, rfl, _, _, hm3.1, Nat.le_of_ble_eq_true rfl, ?_⟩
        rw [hI27, nI_1]
        exact bX10_sign_62 hX hR _ _ _ _ _ ⟨Nat.le_refl _, Nat.le_refl _, rfl, hg_tr hS2 (hg_tr hS3 hS4), Or.inr ⟨by rw [← ha, ← hb]; exact q, hm4⟩⟩
    have at20 : ∀ (a : Bool), a = (!wi c.toInt64 32 126) → pz_Z X 2 20 [(0, .inr (.inr (some (mo)))), (1, .inl (c))] [.inl (b01 a), .inr (.inr (some (mo)))] g 0 0 := by
      intro a ha
      refine bX10_sign_20 hX _ _ _ _ _ ⟨_, _, _, h1, rfl, ?_⟩
      rw [hn]
      refine ⟨fun q => ?_, fun q => ?_⟩
      · refine bX10_sign_34 hX _ _ _ _ _ ?_
        exact at35 a false ha (decide_eq_false (fun e => q (by rw [e]; rfl))).symm
      · refine bX10_sign_30 hX _ _ _ _ _ ?_
        exact at35 a true ha (decide_eq_true (ni_inj (b := 500) (by omega) (by omega) q)).symm
    refine bX10_sign_0 hX _ _ _ _ _ ?_
    refine bX10_sign_9 hX hrm hGX hOk (c.toInt64, 32, 126) (by decide) _ _ _ _ _ ⟨Nat.le_of_ble_eq_true rfl, Nat.le_of_ble_eq_true rfl, Nat.le_of_ble_eq_true rfl, Nat.le_of_ble_eq_true rfl, rfl, ?_⟩
    rintro v g2 ⟨rfl, rfl⟩ z hz -
    cases hz
    refine ⟨fun q => ?_, fun q => ?_⟩
    · rw [b01_nz] at q
      refine bX10_sign_19 hX _ _ _ _ _ ?_
      exact at20 false (by rw [q]; rfl)
    · rw [b01_z] at q
      refine bX10_sign_15 hX _ _ _ _ _ ?_
      exact at20 true (by rw [q]; rfl)
