/-! the reference: order, goOn, next -/
set_option maxRecDepth 20000 in
theorem bX10_order_0 {X : pz_C} (hX : pz_X X cX10_order 3 RX10) : ∀ lv st g c s, (zo_ic 1 (0) (zo_is 1 2 (pz_Z X 3))) 0 lv st g c s → pz_Z X 3 0 lv st g c s := (zs_iconst hX dX10_order_0 (by decide) (zs_istore_n hX dX10_order_1 rfl (by decide) (fun _ _ _ _ _ h => h)))
set_option maxRecDepth 20000 in
theorem bX10_order_2 {X : pz_C} (hX : pz_X X cX10_order 3 RX10) : ∀ lv st g c s, (zo_il 1 2 (zo_ic 2 (6) (zo_ic_ge 40 (pz_Z X 3)))) 2 lv st g c s → pz_Z X 3 2 lv st g c s := (zs_iload_n hX dX10_order_2 rfl (zs_bipush hX dX10_order_3 (by decide) (zs_ic_ge hX dX10_order_5 (by decide) (fun _ _ _ _ _ _ h => h))))
set_option maxRecDepth 20000 in
theorem bX10_order_8 {X : pz_C} (hX : pz_X X cX10_order 3 RX10) : ∀ lv st g c s, (zo_al 1 0 (zo_il 1 2 (zo_lald (zo_al 1 1 (zo_il 1 2 (zo_lald (zo_lcmp (zo_if_eq 34 (pz_Z X 3))))))))) 8 lv st g c s → pz_Z X 3 8 lv st g c s := (zs_aload_n hX dX10_order_8 rfl (zs_iload_n hX dX10_order_9 rfl (zs_lald hX dX10_order_10 (zs_aload_n hX dX10_order_11 rfl (zs_iload_n hX dX10_order_12 rfl (zs_lald hX dX10_order_13 (zs_lcmp hX dX10_order_14 (zs_if_eq hX dX10_order_15 (by decide) (fun _ _ _ _ _ _ h => h)))))))))
set_option maxRecDepth 20000 in
theorem bX10_order_18 {X : pz_C} (hX : pz_X X cX10_order 3 RX10) : ∀ lv st g c s, (zo_al 1 0 (zo_il 1 2 (zo_lald (zo_al 1 1 (zo_il 1 2 (zo_lald (zo_lcmp (zo_if_ge 32 (pz_Z X 3))))))))) 18 lv st g c s → pz_Z X 3 18 lv st g c s := (zs_aload_n hX dX10_order_18 rfl (zs_iload_n hX dX10_order_19 rfl (zs_lald hX dX10_order_20 (zs_aload_n hX dX10_order_21 rfl (zs_iload_n hX dX10_order_22 rfl (zs_lald hX dX10_order_23 (zs_lcmp hX dX10_order_24 (zs_if_ge hX dX10_order_25 (by decide) (fun _ _ _ _ _ _ h => h)))))))))
set_option maxRecDepth 20000 in
theorem bX10_order_28 {X : pz_C} (hX : pz_X X cX10_order 3 RX10) : ∀ lv st g c s, (zo_ic 1 (-1) (zo_goto 33 (pz_Z X 3))) 28 lv st g c s → pz_Z X 3 28 lv st g c s := (zs_iconst hX dX10_order_28 (by decide) (zs_goto hX dX10_order_29 (by decide) (fun _ _ _ _ _ _ h => h)))
set_option maxRecDepth 20000 in
theorem bX10_order_32 {X : pz_C} (hX : pz_X X cX10_order 3 RX10) : ∀ lv st g c s, (zo_ic 1 (1) (pz_Z X 3)) 32 lv st g c s → pz_Z X 3 32 lv st g c s := (zs_iconst hX dX10_order_32 (by decide) (fun _ _ _ _ _ h => h))
set_option maxRecDepth 20000 in
theorem bX10_order_33 {X : pz_C} {rm : Room} {E : Option pz_V → pz_H → Prop} (hX : pz_X X cX10_order 3 RX10) (hR : pz_Rt X cX10_order 3 (some .int) rm E) : ∀ lv st g c s, (zo_ri rm E) 33 lv st g c s → pz_Z X 3 33 lv st g c s := (zs_ri hR dX10_order_33)
set_option maxRecDepth 20000 in
theorem bX10_order_34 {X : pz_C} (hX : pz_X X cX10_order 3 RX10) : ∀ lv st g c s, (zo_inc 2 (1) (zo_goto 2 (pz_Z X 3))) 34 lv st g c s → pz_Z X 3 34 lv st g c s := (zs_iinc hX dX10_order_34 (by decide) (by decide) (zs_goto hX dX10_order_37 (by decide) (fun _ _ _ _ _ _ h => h)))
set_option maxRecDepth 20000 in
theorem bX10_order_40 {X : pz_C} {rm : Room} {E : Option pz_V → pz_H → Prop} (hX : pz_X X cX10_order 3 RX10) (hR : pz_Rt X cX10_order 3 (some .int) rm E) : ∀ lv st g c s, (zo_ic 1 (0) (zo_ri rm E)) 40 lv st g c s → pz_Z X 3 40 lv st g c s := (zs_iconst hX dX10_order_40 (by decide) (zs_ri hR dX10_order_41))
def mg_o (a b : Nat → Int64) : Nat → Nat → Int32
  | _, 0 => 0
  | k, m + 1 => if a k = b k then mg_o a b (k + 1) m else if a k < b k then -1 else 1
theorem mg_oc {a b a' b' : Nat → Int64} : ∀ (m k : Nat), (∀ j, j < k + m → a j = a' j ∧ b j = b' j) → mg_o a b k m = mg_o a' b' k m
  | 0, _, _ => rfl
  | m + 1, k, h => by
    unfold mg_o
    rw [(h k (by omega)).1, (h k (by omega)).2, mg_oc m (k + 1) (fun j hj => h j (by omega))]
def rm_X10_order : Room := { frames := 0, cells := 0, slots := 0, locals := 0 }
abbrev gt_X10_order : Type := (Nat × Nat) × (List Nat × List Nat) × (Nat → Int64) × (Nat → Int64)
def pr_X10_order : gt_X10_order → List pz_V → pz_H → Prop := fun ((a, b), (la, lb), fa, fb) av g => av = [.inr (.inr (some (a))), .inr (.inr (some (b)))] ∧ g a = some (la, ar_j 6 fa) ∧ g b = some (lb, ar_j 6 fb)
def po_X10_order : gt_X10_order → List pz_V → pz_H → Option pz_V → pz_H → Prop := fun (_, _, fa, fb) _ g v g' => g' = g ∧ v = some (.inl (mg_o fa fb 0 6))
set_option maxRecDepth 20000 in
theorem ct_X10_order {G : pz_Gx} (hOk : pz_OK G) (gh : gt_X10_order) : pz_M G yX10_order cX10_order 3 (some .int) rm_X10_order (pr_X10_order gh) (po_X10_order gh) := by
  obtain ⟨⟨a, b⟩, ⟨la, lb⟩, fa, fb⟩ := gh
  refine pz_ofZ (by decide) hOk.1 (Or.inr (Or.inl rfl)) ?_ ?_
  · rintro av g ⟨rfl, -⟩
    exact Nat.le_of_ble_eq_true rfl
  · rintro X hX hGX hrm - av g ⟨rfl, ha, hb⟩ hR
    have loop : ∀ (m k : Nat), k + m = 6 → mg_o fa fb 0 6 = mg_o fa fb k m → pz_Z X 3 2 [(2, .inl (nI k)), (0, .inr (.inr (some (a)))), (1, .inr (.inr (some (b))))] [] g 0 0 := by
      intro m
      induction m with
      | zero =>
        intro k hk he
        obtain rfl : k = 6 := by omega
        refine bX10_order_2 hX _ _ _ _ _ ⟨fun _ => ?_, fun q => absurd (show (6 : Int32) ≤ nI 6 by decide) q⟩
        exact bX10_order_40 hX hR _ _ _ _ _ ⟨Nat.le_refl _, Nat.le_refl _, rfl, by rw [he]; rfl⟩
      | succ m ih =>
        intro k hk he
        have hkc : (nI k).toNatClampNeg = k := ni_cl (by omega)
        have hki : vp_in (nI k) 6 := ni_in (by omega) (by omega)
        have e1 : mg_o fa fb k (m + 1) = if fa k = fb k then mg_o fa fb (k + 1) m else if fa k < fb k then -1 else 1 := rfl
        refine bX10_order_2 hX _ _ _ _ _ ⟨fun q => absurd ((ni_le (a := 6) (by omega) (by omega)).mp q) (by omega), fun _ => ?_⟩
        refine bX10_order_8 hX _ _ _ _ _ ⟨_, _, _, ha, hki, _, _, _, hb, hki, ?_⟩
        rw [hkc]
        refine ⟨fun q => ?_, fun q => ?_⟩
        · refine bX10_order_34 hX _ _ _ _ _ ?_
          refine pz_lsub (lv' := [(2, .inl (nI (k + 1))), (0, .inr (.inr (some (a)))), (1, .inr (.inr (some (b))))]) ⟨ni_inc, rfl, rfl, trivial⟩ ?_
          exact ih (k + 1) (by omega) (by rw [he, e1, if_pos ((lc_eq _ _).mp q)])
        · have hne : ¬ fa k = fb k := fun z => q ((lc_eq _ _).mpr z)
          refine bX10_order_18 hX _ _ _ _ _ ⟨_, _, _, ha, hki, _, _, _, hb, hki, ?_⟩
          rw [hkc]
          refine ⟨fun q2 => ?_, fun q2 => ?_⟩
          · refine bX10_order_32 hX _ _ _ _ _ ?_
            exact bX10_order_33 hX hR _ _ _ _ _ ⟨Nat.le_refl _, Nat.le_refl _, rfl, by rw [he, e1, if_neg hne, if_neg (Int64.not_lt.mpr ((lc_ge _ _).mp q2))]⟩
          · refine bX10_order_28 hX _ _ _ _ _ ?_
            exact bX10_order_33 hX hR _ _ _ _ _ ⟨Nat.le_refl _, Nat.le_refl _, rfl, by rw [he, e1, if_neg hne, if_pos (Int64.not_le.mp (fun z => q2 ((lc_ge _ _).mpr z)))]⟩
    refine bX10_order_0 hX _ _ _ _ _ ?_
    refine pz_lsub (lv' := [(2, .inl (nI 0)), (0, .inr (.inr (some (a)))), (1, .inr (.inr (some (b))))]) ⟨rfl, rfl, rfl, trivial⟩ ?_
    exact loop 6 0 (by omega) rfl
/-- a leg as goOn orders it -/
def mg_pr (T l r i j : Nat) (fi fo : Nat → Int64) : Nat → Int64 := fun k => match k with
  | 0 => fo i
  | 1 => fi j
  | 2 => lN l
  | 3 => dy T r
  | 4 => lN i
  | _ => lN j
def mg_is (tau : Nat → Int64) (first : Bool) (s : Bool × (Nat → Int64)) (p : Nat → Int64) : Bool := (first || decide (0 < mg_o p tau 0 6)) && (!s.1 || decide (mg_o p s.2 0 6 < 0))
def mg_st (tau : Nat → Int64) (first : Bool) (s : Bool × (Nat → Int64)) (p : Nat → Int64) : Bool × (Nat → Int64) := if mg_is tau first s p = true then (true, p) else s
section MG
variable (Ai : Nat → Nat → Int32) (Aj : Nat → Nat → Int64) (ne nz nw : Nat) (cn : Nat → Nat) (from' to T : Nat)
def mg_j (l r i : Nat) (fi fo : Nat → Int64) : Nat → Nat → List (Nat → Int64)
  | _, 0 => []
  | j, m + 1 => (if Ai 4 (12 * l + j) = nI to ∧ fo i ≤ fi j then [mg_pr T l r i j fi fo] else []) ++ mg_j l r i fi fo (j + 1) m
def mg_i (l r : Nat) (fi fo : Nat → Int64) : Nat → Nat → List (Nat → Int64)
  | _, 0 => []
  | i, m + 1 => (if Ai 4 (12 * l + i) = nI from' ∧ lN T ≤ fo i then mg_j Ai to T l r i fi fo (i + 1) (cn l - (i + 1)) else []) ++ mg_i l r fi fo (i + 1) m
def mg_d (l : Nat) : Nat → Nat → List (Nat → Int64)
  | _, 0 => []
  | r, m + 1 => (if mr_run Ai Aj ne l (dy T r) = 1 then mg_i Ai cn from' to T l r (fun k => mt_t Ai Aj nz nw l (dy T r) k false) (fun k => mt_t Ai Aj nz nw l (dy T r) k true) 0 (cn l) else []) ++ mg_d l (r + 1) m
def mg_l : Nat → Nat → List (Nat → Int64)
  | _, 0 => []
  | l, m + 1 => mg_d Ai Aj ne nz nw cn from' to T l 0 13 ++ mg_l (l + 1) m
end MG
set_option maxRecDepth 20000 in
theorem bX10_goOn_0 {X : pz_C} (hX : pz_X X cX10_goOn 16 RX10) : ∀ lv st g c s, (zo_ic 1 (0) (zo_is 2 6 (zo_ic 1 (0) (zo_is 2 7 (pz_Z X 16))))) 0 lv st g c s → pz_Z X 16 0 lv st g c s := (zs_iconst hX dX10_goOn_0 (by decide) (zs_istore hX dX10_goOn_1 (by decide) (zs_iconst hX dX10_goOn_3 (by decide) (zs_istore hX dX10_goOn_4 (by decide) (fun _ _ _ _ _ h => h)))))
set_option maxRecDepth 20000 in
theorem bX10_goOn_6 {X : pz_C} (hX : pz_X X cX10_goOn 16 RX10) : ∀ lv st g c s, (zo_il 2 7 (zo_al 1 0 (zo_get 12 1 (zo_ic_ge 343 (pz_Z X 16))))) 6 lv st g c s → pz_Z X 16 6 lv st g c s := (zs_iload hX dX10_goOn_6 (zs_aload_n hX dX10_goOn_8 rfl (zs_get hX (C := RX10) (T := TX10) (N := 37) rfl in_X10 (by decide) mw_479e8e34 dX10_goOn_9 (zs_ic_ge hX dX10_goOn_12 (by decide) (fun _ _ _ _ _ _ h => h)))))
set_option maxRecDepth 20000 in
theorem bX10_goOn_15 {X : pz_C} (hX : pz_X X cX10_goOn 16 RX10) : ∀ lv st g c s, (zo_ll 1 3 (zo_lc 3 (86400) (zo_ldiv (zo_lc 3 (3) (zo_lsub (zo_lst 2 8 (pz_Z X 16))))))) 15 lv st g c s → pz_Z X 16 15 lv st g c s := (zs_lload_n hX dX10_goOn_15 rfl (zs_ldc2 hX dX10_goOn_16 mw_e93d3cab (zs_ldiv hX dX10_goOn_19 (zs_ldc2 hX dX10_goOn_20 mw_ac79b3bb (zs_lsub hX dX10_goOn_23 (zs_lstore hX dX10_goOn_24 (by decide) (fun _ _ _ _ _ h => h)))))))
set_option maxRecDepth 20000 in
theorem bX10_goOn_26 {X : pz_C} (hX : pz_X X cX10_goOn 16 RX10) : ∀ lv st g c s, (zo_ll 2 8 (zo_ll 1 3 (zo_lc 3 (86400) (zo_ldiv (zo_lc 3 (9) (zo_ladd (zo_lcmp (zo_if_gt 337 (pz_Z X 16))))))))) 26 lv st g c s → pz_Z X 16 26 lv st g c s := (zs_lload hX dX10_goOn_26 (zs_lload_n hX dX10_goOn_28 rfl (zs_ldc2 hX dX10_goOn_29 mw_e93d3cab (zs_ldiv hX dX10_goOn_32 (zs_ldc2 hX dX10_goOn_33 mw_7663b009 (zs_ladd hX dX10_goOn_36 (zs_lcmp hX dX10_goOn_37 (zs_if_gt hX dX10_goOn_38 (by decide) (fun _ _ _ _ _ _ h => h)))))))))
set_option maxRecDepth 20000 in
theorem bX10_goOn_41 {X : pz_C} (hX : pz_X X cX10_goOn 16 RX10) : ∀ lv st g c s, (zo_al 1 0 (zo_il 2 7 (zo_ll 2 8 (pz_Z X 16)))) 41 lv st g c s → pz_Z X 16 41 lv st g c s := (zs_aload_n hX dX10_goOn_41 rfl (zs_iload hX dX10_goOn_42 (zs_lload hX dX10_goOn_44 (fun _ _ _ _ _ h => h))))
set_option maxRecDepth 20000 in
theorem bX10_goOn_46 {X : pz_C} {G : pz_Gx} {rm : Room} (hX : pz_X X cX10_goOn 16 RX10) (hrm : pz_rm X = rm) (hGX : pz_GX X G) (hOk : pz_OK G) (gh : gt_X10_take) (hr_X10_take : rm_X10_take.frames + 1 ≤ rm.frames ∧ 8 + (5 + 11) + rm_X10_take.locals ≤ rm.locals) : ∀ lv st g c s, (zo_cV rm 12 2 3 rm_X10_take.cells rm_X10_take.slots (pr_X10_take gh) (po_X10_take gh) (zo_kz (zo_is 2 10 (zo_ic 1 (0) (zo_is 2 11 (pz_Z X 16)))))) 46 lv st g c s → pz_Z X 16 46 lv st g c s := by
  subst hrm
  exact (zs_csV hX hGX (C := RX10) (T := TX10) (N := 37) rfl (ct_X10_take hOk gh) mw_95669e7d mw_e7ac52cd mw_62cbaf3f mw_33939a39 mw_ca7d03b2 (by decide +kernel) hr_X10_take dX10_goOn_46 (zs_kz (zs_istore hX dX10_goOn_49 (by decide) (zs_iconst hX dX10_goOn_51 (by decide) (zs_istore hX dX10_goOn_52 (by decide) (fun _ _ _ _ _ h => h))))))
set_option maxRecDepth 20000 in
theorem bX10_goOn_54 {X : pz_C} (hX : pz_X X cX10_goOn 16 RX10) : ∀ lv st g c s, (zo_il 2 11 (zo_al 1 0 (zo_get 12 3 (zo_il 2 7 (zo_iald (zo_ic_ge 328 (pz_Z X 16))))))) 54 lv st g c s → pz_Z X 16 54 lv st g c s := (zs_iload hX dX10_goOn_54 (zs_aload_n hX dX10_goOn_56 rfl (zs_get hX (C := RX10) (T := TX10) (N := 37) rfl in_X10 (by decide) mw_6c7416b9 dX10_goOn_57 (zs_iload hX dX10_goOn_60 (zs_iald hX dX10_goOn_62 (zs_ic_ge hX dX10_goOn_63 (by decide) (fun _ _ _ _ _ _ h => h)))))))
set_option maxRecDepth 20000 in
theorem bX10_goOn_66 {X : pz_C} (hX : pz_X X cX10_goOn 16 RX10) : ∀ lv st g c s, (zo_il 2 10 (zo_if_eq 328 (pz_Z X 16))) 66 lv st g c s → pz_Z X 16 66 lv st g c s := (zs_iload hX dX10_goOn_66 (zs_if_eq hX dX10_goOn_68 (by decide) (fun _ _ _ _ _ _ h => h)))
set_option maxRecDepth 20000 in
theorem bX10_goOn_71 {X : pz_C} (hX : pz_X X cX10_goOn 16 RX10) : ∀ lv st g c s, (zo_al 1 0 (zo_get 12 4 (zo_ic 2 (12) (zo_il 2 7 (zo_imul (zo_il 2 11 (zo_iadd (zo_iald (zo_il 1 1 (zo_ic_ne 104 (pz_Z X 16))))))))))) 71 lv st g c s → pz_Z X 16 71 lv st g c s := (zs_aload_n hX dX10_goOn_71 rfl (zs_get hX (C := RX10) (T := TX10) (N := 37) rfl in_X10 (by decide) mw_d81b3427 dX10_goOn_72 (zs_bipush hX dX10_goOn_75 (by decide) (zs_iload hX dX10_goOn_77 (zs_imul hX dX10_goOn_79 (zs_iload hX dX10_goOn_80 (zs_iadd hX dX10_goOn_82 (zs_iald hX dX10_goOn_83 (zs_iload_n hX dX10_goOn_84 rfl (zs_ic_ne hX dX10_goOn_85 (by decide) (fun _ _ _ _ _ _ h => h)))))))))))
set_option maxRecDepth 20000 in
theorem bX10_goOn_88 {X : pz_C} (hX : pz_X X cX10_goOn 16 RX10) : ∀ lv st g c s, (zo_al 1 0 (zo_get 12 30 (zo_il 2 11 (zo_lald (zo_ll 1 3 (zo_lcmp (zo_if_lt 104 (pz_Z X 16)))))))) 88 lv st g c s → pz_Z X 16 88 lv st g c s := (zs_aload_n hX dX10_goOn_88 rfl (zs_get hX (C := RX10) (T := TX10) (N := 37) rfl in_X10 (by decide) mw_664a2ed3 dX10_goOn_89 (zs_iload hX dX10_goOn_92 (zs_lald hX dX10_goOn_94 (zs_lload_n hX dX10_goOn_95 rfl (zs_lcmp hX dX10_goOn_96 (zs_if_lt hX dX10_goOn_97 (by decide) (fun _ _ _ _ _ _ h => h))))))))
set_option maxRecDepth 20000 in
theorem bX10_goOn_100 {X : pz_C} (hX : pz_X X cX10_goOn 16 RX10) : ∀ lv st g c s, (zo_ic 1 (1) (zo_goto 105 (pz_Z X 16))) 100 lv st g c s → pz_Z X 16 100 lv st g c s := (zs_iconst hX dX10_goOn_100 (by decide) (zs_goto hX dX10_goOn_101 (by decide) (fun _ _ _ _ _ _ h => h)))
set_option maxRecDepth 20000 in
theorem bX10_goOn_104 {X : pz_C} (hX : pz_X X cX10_goOn 16 RX10) : ∀ lv st g c s, (zo_ic 1 (0) (pz_Z X 16)) 104 lv st g c s → pz_Z X 16 104 lv st g c s := (zs_iconst hX dX10_goOn_104 (by decide) (fun _ _ _ _ _ h => h))
set_option maxRecDepth 20000 in
theorem bX10_goOn_105 {X : pz_C} (hX : pz_X X cX10_goOn 16 RX10) : ∀ lv st g c s, (zo_is 2 12 (zo_il 2 11 (zo_ic 1 (1) (zo_iadd (zo_is 2 13 (pz_Z X 16)))))) 105 lv st g c s → pz_Z X 16 105 lv st g c s := (zs_istore hX dX10_goOn_105 (by decide) (zs_iload hX dX10_goOn_107 (zs_iconst hX dX10_goOn_109 (by decide) (zs_iadd hX dX10_goOn_110 (zs_istore hX dX10_goOn_111 (by decide) (fun _ _ _ _ _ h => h))))))
set_option maxRecDepth 20000 in
theorem bX10_goOn_113 {X : pz_C} (hX : pz_X X cX10_goOn 16 RX10) : ∀ lv st g c s, (zo_il 2 13 (zo_al 1 0 (zo_get 12 3 (zo_il 2 7 (zo_iald (zo_ic_ge 322 (pz_Z X 16))))))) 113 lv st g c s → pz_Z X 16 113 lv st g c s := (zs_iload hX dX10_goOn_113 (zs_aload_n hX dX10_goOn_115 rfl (zs_get hX (C := RX10) (T := TX10) (N := 37) rfl in_X10 (by decide) mw_6c7416b9 dX10_goOn_116 (zs_iload hX dX10_goOn_119 (zs_iald hX dX10_goOn_121 (zs_ic_ge hX dX10_goOn_122 (by decide) (fun _ _ _ _ _ _ h => h)))))))
set_option maxRecDepth 20000 in
theorem bX10_goOn_125 {X : pz_C} (hX : pz_X X cX10_goOn 16 RX10) : ∀ lv st g c s, (zo_il 2 12 (zo_if_eq 322 (pz_Z X 16))) 125 lv st g c s → pz_Z X 16 125 lv st g c s := (zs_iload hX dX10_goOn_125 (zs_if_eq hX dX10_goOn_127 (by decide) (fun _ _ _ _ _ _ h => h)))
set_option maxRecDepth 20000 in
theorem bX10_goOn_130 {X : pz_C} (hX : pz_X X cX10_goOn 16 RX10) : ∀ lv st g c s, (zo_al 1 0 (zo_get 12 4 (zo_ic 2 (12) (zo_il 2 7 (zo_imul (zo_il 2 13 (zo_iadd (zo_iald (zo_il 1 2 (zo_ic_ne 316 (pz_Z X 16))))))))))) 130 lv st g c s → pz_Z X 16 130 lv st g c s := (zs_aload_n hX dX10_goOn_130 rfl (zs_get hX (C := RX10) (T := TX10) (N := 37) rfl in_X10 (by decide) mw_d81b3427 dX10_goOn_131 (zs_bipush hX dX10_goOn_134 (by decide) (zs_iload hX dX10_goOn_136 (zs_imul hX dX10_goOn_138 (zs_iload hX dX10_goOn_139 (zs_iadd hX dX10_goOn_141 (zs_iald hX dX10_goOn_142 (zs_iload_n hX dX10_goOn_143 rfl (zs_ic_ne hX dX10_goOn_144 (by decide) (fun _ _ _ _ _ _ h => h)))))))))))
set_option maxRecDepth 20000 in
theorem bX10_goOn_147 {X : pz_C} (hX : pz_X X cX10_goOn 16 RX10) : ∀ lv st g c s, (zo_al 1 0 (zo_il 2 11 (zo_il 2 13 (pz_Z X 16)))) 147 lv st g c s → pz_Z X 16 147 lv st g c s := (zs_aload_n hX dX10_goOn_147 rfl (zs_iload hX dX10_goOn_148 (zs_iload hX dX10_goOn_150 (fun _ _ _ _ _ h => h))))
set_option maxRecDepth 20000 in
theorem bX10_goOn_152 {X : pz_C} {G : pz_Gx} {rm : Room} (hX : pz_X X cX10_goOn 16 RX10) (hrm : pz_rm X = rm) (hGX : pz_GX X G) (hOk : pz_OK G) (gh : gt_X10_isLeg) (hr_X10_isLeg : rm_X10_isLeg.frames + 1 ≤ rm.frames ∧ 8 + (3 + 11) + rm_X10_isLeg.locals ≤ rm.locals) : ∀ lv st g c s, (zo_cV rm 12 2 3 rm_X10_isLeg.cells rm_X10_isLeg.slots (pr_X10_isLeg gh) (po_X10_isLeg gh) (zo_kz (zo_if_eq 316 (pz_Z X 16)))) 152 lv st g c s → pz_Z X 16 152 lv st g c s := by
  subst hrm
  exact (zs_csV hX hGX (C := RX10) (T := TX10) (N := 37) rfl (ct_X10_isLeg hOk gh) mw_9fdd040c mw_f42fee7f mw_2eae6606 mw_33939a39 mw_12b9c6e3 (by decide +kernel) hr_X10_isLeg dX10_goOn_152 (zs_kz (zs_if_eq hX dX10_goOn_155 (by decide) (fun _ _ _ _ _ _ h => h))))
set_option maxRecDepth 20000 in
theorem bX10_goOn_158 {X : pz_C} (hX : pz_X X cX10_goOn 16 RX10) : ∀ lv st g c s, (zo_al 1 0 (zo_get 12 34 (zo_ic 1 (0) (zo_al 1 0 (zo_get 12 30 (zo_il 2 11 (zo_lald (zo_last (zo_al 1 0 (zo_get 12 34 (zo_ic 1 (1) (zo_al 1 0 (zo_get 12 29 (zo_il 2 13 (zo_lald (zo_last (zo_al 1 0 (zo_get 12 34 (zo_ic 1 (2) (zo_il 2 7 (zo_i2l (zo_last (zo_al 1 0 (zo_get 12 34 (zo_ic 1 (3) (zo_ll 2 8 (zo_last (zo_al 1 0 (zo_get 12 34 (zo_ic 1 (4) (zo_il 2 11 (zo_i2l (zo_last (zo_al 1 0 (zo_get 12 34 (zo_ic 1 (5) (zo_il 2 13 (zo_i2l (zo_last (zo_il 2 5 (zo_if_ne 238 (pz_Z X 16)))))))))))))))))))))))))))))))))))))))))) 158 lv st g c s → pz_Z X 16 158 lv st g c s := (zs_aload_n hX dX10_goOn_158 rfl (zs_get hX (C := RX10) (T := TX10) (N := 37) rfl in_X10 (by decide) mw_f9a79a2c dX10_goOn_159 (zs_iconst hX dX10_goOn_162 (by decide) (zs_aload_n hX dX10_goOn_163 rfl (zs_get hX (C := RX10) (T := TX10) (N := 37) rfl in_X10 (by decide) mw_664a2ed3 dX10_goOn_164 (zs_iload hX dX10_goOn_167 (zs_lald hX dX10_goOn_169 (zs_last hX dX10_goOn_170 (zs_aload_n hX dX10_goOn_171 rfl (zs_get hX (C := RX10) (T := TX10) (N := 37) rfl in_X10 (by decide) mw_f9a79a2c dX10_goOn_172 (zs_iconst hX dX10_goOn_175 (by decide) (zs_aload_n hX dX10_goOn_176 rfl (zs_get hX (C := RX10) (T := TX10) (N := 37) rfl in_X10 (by decide) mw_4cf35770 dX10_goOn_177 (zs_iload hX dX10_goOn_180 (zs_lald hX dX10_goOn_182 (zs_last hX dX10_goOn_183 (zs_aload_n hX dX10_goOn_184 rfl (zs_get hX (C := RX10) (T := TX10) (N := 37) rfl in_X10 (by decide) mw_f9a79a2c dX10_goOn_185 (zs_iconst hX dX10_goOn_188 (by decide) (zs_iload hX dX10_goOn_189 (zs_i2l hX dX10_goOn_191 (zs_last hX dX10_goOn_192 (zs_aload_n hX dX10_goOn_193 rfl (zs_get hX (C := RX10) (T := TX10) (N := 37) rfl in_X10 (by decide) mw_f9a79a2c dX10_goOn_194 (zs_iconst hX dX10_goOn_197 (by decide) (zs_lload hX dX10_goOn_198 (zs_last hX dX10_goOn_200 (zs_aload_n hX dX10_goOn_201 rfl (zs_get hX (C := RX10) (T := TX10) (N := 37) rfl in_X10 (by decide) mw_f9a79a2c dX10_goOn_202 (zs_iconst hX dX10_goOn_205 (by decide) (zs_iload hX dX10_goOn_206 (zs_i2l hX dX10_goOn_208 (zs_last hX dX10_goOn_209 (zs_aload_n hX dX10_goOn_210 rfl (zs_get hX (C := RX10) (T := TX10) (N := 37) rfl in_X10 (by decide) mw_f9a79a2c dX10_goOn_211 (zs_iconst hX dX10_goOn_214 (by decide) (zs_iload hX dX10_goOn_215 (zs_i2l hX dX10_goOn_217 (zs_last hX dX10_goOn_218 (zs_iload hX dX10_goOn_219 (zs_if_ne hX dX10_goOn_221 (by decide) (fun _ _ _ _ _ _ h => h))))))))))))))))))))))))))))))))))))))))))
set_option maxRecDepth 20000 in
theorem bX10_goOn_224 {X : pz_C} (hX : pz_X X cX10_goOn 16 RX10) : ∀ lv st g c s, (zo_al 1 0 (zo_get 12 34 (zo_al 1 0 (zo_get 12 32 (pz_Z X 16))))) 224 lv st g c s → pz_Z X 16 224 lv st g c s := (zs_aload_n hX dX10_goOn_224 rfl (zs_get hX (C := RX10) (T := TX10) (N := 37) rfl in_X10 (by decide) mw_f9a79a2c dX10_goOn_225 (zs_aload_n hX dX10_goOn_228 rfl (zs_get hX (C := RX10) (T := TX10) (N := 37) rfl in_X10 (by decide) mw_d201e80b dX10_goOn_229 (fun _ _ _ _ _ h => h)))))
set_option maxRecDepth 20000 in
theorem bX10_goOn_232 {X : pz_C} {G : pz_Gx} {rm : Room} (hX : pz_X X cX10_goOn 16 RX10) (hrm : pz_rm X = rm) (hGX : pz_GX X G) (hOk : pz_OK G) (gh : gt_X10_order) (hr_X10_order : rm_X10_order.frames + 1 ≤ rm.frames ∧ 8 + (3 + 11) + rm_X10_order.locals ≤ rm.locals) : ∀ lv st g c s, (zo_cs rm 2 3 rm_X10_order.cells rm_X10_order.slots (pr_X10_order gh) (po_X10_order gh) (zo_ki (zo_if_le 261 (pz_Z X 16)))) 232 lv st g c s → pz_Z X 16 232 lv st g c s := by
  subst hrm
  exact (zs_csS hX hGX (ct_X10_order hOk gh) mw_7383535b mw_971be5ce mw_33939a39 mw_9e49c3f6 (by decide +kernel) hr_X10_order dX10_goOn_232 (zs_ki (zs_if_le hX dX10_goOn_235 (by decide) (fun _ _ _ _ _ _ h => h))))
set_option maxRecDepth 20000 in
theorem bX10_goOn_238 {X : pz_C} (hX : pz_X X cX10_goOn 16 RX10) : ∀ lv st g c s, (zo_il 2 6 (zo_if_eq 257 (pz_Z X 16))) 238 lv st g c s → pz_Z X 16 238 lv st g c s := (zs_iload hX dX10_goOn_238 (zs_if_eq hX dX10_goOn_240 (by decide) (fun _ _ _ _ _ _ h => h)))
set_option maxRecDepth 20000 in
theorem bX10_goOn_243 {X : pz_C} (hX : pz_X X cX10_goOn 16 RX10) : ∀ lv st g c s, (zo_al 1 0 (zo_get 12 34 (zo_al 1 0 (zo_get 12 33 (pz_Z X 16))))) 243 lv st g c s → pz_Z X 16 243 lv st g c s := (zs_aload_n hX dX10_goOn_243 rfl (zs_get hX (C := RX10) (T := TX10) (N := 37) rfl in_X10 (by decide) mw_f9a79a2c dX10_goOn_244 (zs_aload_n hX dX10_goOn_247 rfl (zs_get hX (C := RX10) (T := TX10) (N := 37) rfl in_X10 (by decide) mw_a87c2e50 dX10_goOn_248 (fun _ _ _ _ _ h => h)))))
set_option maxRecDepth 20000 in
theorem bX10_goOn_251 {X : pz_C} {G : pz_Gx} {rm : Room} (hX : pz_X X cX10_goOn 16 RX10) (hrm : pz_rm X = rm) (hGX : pz_GX X G) (hOk : pz_OK G) (gh : gt_X10_order) (hr_X10_order : rm_X10_order.frames + 1 ≤ rm.frames ∧ 8 + (3 + 11) + rm_X10_order.locals ≤ rm.locals) : ∀ lv st g c s, (zo_cs rm 2 3 rm_X10_order.cells rm_X10_order.slots (pr_X10_order gh) (po_X10_order gh) (zo_ki (zo_if_ge 261 (pz_Z X 16)))) 251 lv st g c s → pz_Z X 16 251 lv st g c s := by
  subst hrm
  exact (zs_csS hX hGX (ct_X10_order hOk gh) mw_7383535b mw_971be5ce mw_33939a39 mw_9e49c3f6 (by decide +kernel) hr_X10_order dX10_goOn_251 (zs_ki (zs_if_ge hX dX10_goOn_254 (by decide) (fun _ _ _ _ _ _ h => h))))
set_option maxRecDepth 20000 in
theorem bX10_goOn_257 {X : pz_C} (hX : pz_X X cX10_goOn 16 RX10) : ∀ lv st g c s, (zo_ic 1 (1) (zo_goto 262 (pz_Z X 16))) 257 lv st g c s → pz_Z X 16 257 lv st g c s := (zs_iconst hX dX10_goOn_257 (by decide) (zs_goto hX dX10_goOn_258 (by decide) (fun _ _ _ _ _ _ h => h)))
set_option maxRecDepth 20000 in
theorem bX10_goOn_261 {X : pz_C} (hX : pz_X X cX10_goOn 16 RX10) : ∀ lv st g c s, (zo_ic 1 (0) (pz_Z X 16)) 261 lv st g c s → pz_Z X 16 261 lv st g c s := (zs_iconst hX dX10_goOn_261 (by decide) (fun _ _ _ _ _ h => h))
set_option maxRecDepth 20000 in
theorem bX10_goOn_262 {X : pz_C} (hX : pz_X X cX10_goOn 16 RX10) : ∀ lv st g c s, (zo_is 2 14 (zo_ic 1 (0) (zo_is 2 15 (pz_Z X 16)))) 262 lv st g c s → pz_Z X 16 262 lv st g c s := (zs_istore hX dX10_goOn_262 (by decide) (zs_iconst hX dX10_goOn_264 (by decide) (zs_istore hX dX10_goOn_265 (by decide) (fun _ _ _ _ _ h => h))))
set_option maxRecDepth 20000 in
theorem bX10_goOn_267 {X : pz_C} (hX : pz_X X cX10_goOn 16 RX10) : ∀ lv st g c s, (zo_il 2 15 (zo_ic 2 (6) (zo_ic_ge 299 (pz_Z X 16)))) 267 lv st g c s → pz_Z X 16 267 lv st g c s := (zs_iload hX dX10_goOn_267 (zs_bipush hX dX10_goOn_269 (by decide) (zs_ic_ge hX dX10_goOn_271 (by decide) (fun _ _ _ _ _ _ h => h))))
set_option maxRecDepth 20000 in
theorem bX10_goOn_274 {X : pz_C} (hX : pz_X X cX10_goOn 16 RX10) : ∀ lv st g c s, (zo_il 2 14 (zo_if_eq 299 (pz_Z X 16))) 274 lv st g c s → pz_Z X 16 274 lv st g c s := (zs_iload hX dX10_goOn_274 (zs_if_eq hX dX10_goOn_276 (by decide) (fun _ _ _ _ _ _ h => h)))
set_option maxRecDepth 20000 in
theorem bX10_goOn_279 {X : pz_C} (hX : pz_X X cX10_goOn 16 RX10) : ∀ lv st g c s, (zo_al 1 0 (zo_get 12 33 (zo_il 2 15 (zo_al 1 0 (zo_get 12 34 (zo_il 2 15 (zo_lald (zo_last (zo_inc 15 (1) (zo_goto 267 (pz_Z X 16))))))))))) 279 lv st g c s → pz_Z X 16 279 lv st g c s := (zs_aload_n hX dX10_goOn_279 rfl (zs_get hX (C := RX10) (T := TX10) (N := 37) rfl in_X10 (by decide) mw_a87c2e50 dX10_goOn_280 (zs_iload hX dX10_goOn_283 (zs_aload_n hX dX10_goOn_285 rfl (zs_get hX (C := RX10) (T := TX10) (N := 37) rfl in_X10 (by decide) mw_f9a79a2c dX10_goOn_286 (zs_iload hX dX10_goOn_289 (zs_lald hX dX10_goOn_291 (zs_last hX dX10_goOn_292 (zs_iinc hX dX10_goOn_293 (by decide) (by decide) (zs_goto hX dX10_goOn_296 (by decide) (fun _ _ _ _ _ _ h => h)))))))))))
set_option maxRecDepth 20000 in
theorem bX10_goOn_299 {X : pz_C} (hX : pz_X X cX10_goOn 16 RX10) : ∀ lv st g c s, (zo_il 2 6 (zo_if_ne 309 (pz_Z X 16))) 299 lv st g c s → pz_Z X 16 299 lv st g c s := (zs_iload hX dX10_goOn_299 (zs_if_ne hX dX10_goOn_301 (by decide) (fun _ _ _ _ _ _ h => h)))
set_option maxRecDepth 20000 in
theorem bX10_goOn_304 {X : pz_C} (hX : pz_X X cX10_goOn 16 RX10) : ∀ lv st g c s, (zo_il 2 14 (zo_if_eq 313 (pz_Z X 16))) 304 lv st g c s → pz_Z X 16 304 lv st g c s := (zs_iload hX dX10_goOn_304 (zs_if_eq hX dX10_goOn_306 (by decide) (fun _ _ _ _ _ _ h => h)))
set_option maxRecDepth 20000 in
theorem bX10_goOn_309 {X : pz_C} (hX : pz_X X cX10_goOn 16 RX10) : ∀ lv st g c s, (zo_ic 1 (1) (zo_goto 314 (pz_Z X 16))) 309 lv st g c s → pz_Z X 16 309 lv st g c s := (zs_iconst hX dX10_goOn_309 (by decide) (zs_goto hX dX10_goOn_310 (by decide) (fun _ _ _ _ _ _ h => h)))
set_option maxRecDepth 20000 in
theorem bX10_goOn_313 {X : pz_C} (hX : pz_X X cX10_goOn 16 RX10) : ∀ lv st g c s, (zo_ic 1 (0) (pz_Z X 16)) 313 lv st g c s → pz_Z X 16 313 lv st g c s := (zs_iconst hX dX10_goOn_313 (by decide) (fun _ _ _ _ _ h => h))
set_option maxRecDepth 20000 in
theorem bX10_goOn_314 {X : pz_C} (hX : pz_X X cX10_goOn 16 RX10) : ∀ lv st g c s, (zo_is 2 6 (pz_Z X 16)) 314 lv st g c s → pz_Z X 16 314 lv st g c s := (zs_istore hX dX10_goOn_314 (by decide) (fun _ _ _ _ _ h => h))
set_option maxRecDepth 20000 in
theorem bX10_goOn_316 {X : pz_C} (hX : pz_X X cX10_goOn 16 RX10) : ∀ lv st g c s, (zo_inc 13 (1) (zo_goto 113 (pz_Z X 16))) 316 lv st g c s → pz_Z X 16 316 lv st g c s := (zs_iinc hX dX10_goOn_316 (by decide) (by decide) (zs_goto hX dX10_goOn_319 (by decide) (fun _ _ _ _ _ _ h => h)))
set_option maxRecDepth 20000 in
theorem bX10_goOn_322 {X : pz_C} (hX : pz_X X cX10_goOn 16 RX10) : ∀ lv st g c s, (zo_inc 11 (1) (zo_goto 54 (pz_Z X 16))) 322 lv st g c s → pz_Z X 16 322 lv st g c s := (zs_iinc hX dX10_goOn_322 (by decide) (by decide) (zs_goto hX dX10_goOn_325 (by decide) (fun _ _ _ _ _ _ h => h)))
set_option maxRecDepth 20000 in
theorem bX10_goOn_328 {X : pz_C} (hX : pz_X X cX10_goOn 16 RX10) : ∀ lv st g c s, (zo_ll 2 8 (zo_lc 1 (1) (zo_ladd (zo_lst 2 8 (zo_goto 26 (pz_Z X 16)))))) 328 lv st g c s → pz_Z X 16 328 lv st g c s := (zs_lload hX dX10_goOn_328 (zs_lconst hX dX10_goOn_330 (by decide) (zs_ladd hX dX10_goOn_331 (zs_lstore hX dX10_goOn_332 (by decide) (zs_goto hX dX10_goOn_334 (by decide) (fun _ _ _ _ _ _ h => h))))))
set_option maxRecDepth 20000 in
theorem bX10_goOn_337 {X : pz_C} (hX : pz_X X cX10_goOn 16 RX10) : ∀ lv st g c s, (zo_inc 7 (1) (zo_goto 6 (pz_Z X 16))) 337 lv st g c s → pz_Z X 16 337 lv st g c s := (zs_iinc hX dX10_goOn_337 (by decide) (by decide) (zs_goto hX dX10_goOn_340 (by decide) (fun _ _ _ _ _ _ h => h)))
set_option maxRecDepth 20000 in
theorem bX10_goOn_343 {X : pz_C} (hX : pz_X X cX10_goOn 16 RX10) : ∀ lv st g c s, (zo_ic 1 (0) (zo_is 2 7 (pz_Z X 16))) 343 lv st g c s → pz_Z X 16 343 lv st g c s := (zs_iconst hX dX10_goOn_343 (by decide) (zs_istore hX dX10_goOn_344 (by decide) (fun _ _ _ _ _ h => h)))
set_option maxRecDepth 20000 in
theorem bX10_goOn_346 {X : pz_C} (hX : pz_X X cX10_goOn 16 RX10) : ∀ lv st g c s, (zo_il 2 7 (zo_ic 2 (6) (zo_ic_ge 373 (pz_Z X 16)))) 346 lv st g c s → pz_Z X 16 346 lv st g c s := (zs_iload hX dX10_goOn_346 (zs_bipush hX dX10_goOn_348 (by decide) (zs_ic_ge hX dX10_goOn_350 (by decide) (fun _ _ _ _ _ _ h => h))))
set_option maxRecDepth 20000 in
theorem bX10_goOn_353 {X : pz_C} (hX : pz_X X cX10_goOn 16 RX10) : ∀ lv st g c s, (zo_al 1 0 (zo_get 12 32 (zo_il 2 7 (zo_al 1 0 (zo_get 12 33 (zo_il 2 7 (zo_lald (zo_last (zo_inc 7 (1) (zo_goto 346 (pz_Z X 16))))))))))) 353 lv st g c s → pz_Z X 16 353 lv st g c s := (zs_aload_n hX dX10_goOn_353 rfl (zs_get hX (C := RX10) (T := TX10) (N := 37) rfl in_X10 (by decide) mw_d201e80b dX10_goOn_354 (zs_iload hX dX10_goOn_357 (zs_aload_n hX dX10_goOn_359 rfl (zs_get hX (C := RX10) (T := TX10) (N := 37) rfl in_X10 (by decide) mw_a87c2e50 dX10_goOn_360 (zs_iload hX dX10_goOn_363 (zs_lald hX dX10_goOn_365 (zs_last hX dX10_goOn_366 (zs_iinc hX dX10_goOn_367 (by decide) (by decide) (zs_goto hX dX10_goOn_370 (by decide) (fun _ _ _ _ _ _ h => h)))))))))))
set_option maxRecDepth 20000 in
theorem bX10_goOn_373 {X : pz_C} {rm : Room} {E : Option pz_V → pz_H → Prop} (hX : pz_X X cX10_goOn 16 RX10) (hR : pz_Rt X cX10_goOn 16 (some .boolean) rm E) : ∀ lv st g c s, (zo_il 2 6 (zo_rz rm E)) 373 lv st g c s → pz_Z X 16 373 lv st g c s := (zs_iload hX dX10_goOn_373 (zs_rz hR dX10_goOn_375))
def rm_X10_goOn : Room := { frames := 3, cells := 0, slots := 0, locals := 78 }
abbrev gt_X10_goOn : Type := (Nat × Nat × Nat × Bool) × ((Nat → Int64) × (Nat → Int64)) × (Nat × Nat × Nat × Nat × (Nat → Nat)) × mo_T
def pr_X10_goOn : gt_X10_goOn → List pz_V → pz_H → Prop := fun ((from', to, T, first), (tau, b0), (nl, ne, nz, nw, cn), (mo, M, I, Ai, Aj)) av g => av = [.inr (.inr (some (mo))), .inl (nI from'), .inl (nI to), .inr (.inl (lN T)), .inl (b01 first)] ∧ from' < 100 ∧ to < 100 ∧ T ≤ 1700000000 ∧ (∀ k, k < 6 → Aj 32 k = tau k ∧ Aj 33 k = b0 k) ∧ moW I Ai nl ne nz nw cn ∧ moS g mo M I Ai Aj
def mg_s (Ai : Nat → Nat → Int32) (Aj : Nat → Nat → Int64) (ne nz nw : Nat) (cn : Nat → Nat) (from' to T nl : Nat) (tau : Nat → Int64) (first : Bool) (b0 : Nat → Int64) : Bool × (Nat → Int64) := (mg_l Ai Aj ne nz nw cn from' to T 0 nl).foldl (mg_st tau first) (false, b0)
def po_X10_goOn : gt_X10_goOn → List pz_V → pz_H → Option pz_V → pz_H → Prop := fun ((from', to, T, first), (tau, b0), (nl, ne, nz, nw, cn), (mo, M, I, Ai, Aj)) _ g v g' => v = some (.inl (b01 (mg_s Ai Aj ne nz nw cn from' to T nl tau first b0).1)) ∧ hg moL g g' ∧ ∃ Aj', moS g' mo M I Ai Aj' ∧ agJ [29, 30, 32, 33, 34] Aj Aj' ∧ ∀ k, k < 6 → Aj' 32 k = (mg_s Ai Aj ne nz nw cn from' to T nl tau first b0).2 k ∧ Aj' 33 k = (mg_s Ai Aj ne nz nw cn from' to T nl tau first b0).2 k
set_option maxRecDepth 20000 in
set_option maxHeartbeats 8000000 in
theorem ct_X10_goOn {G : pz_Gx} (hOk : pz_OK G) (gh : gt_X10_goOn) : pz_M G yX10_goOn cX10_goOn 16 (some .boolean) rm_X10_goOn (pr_X10_goOn gh) (po_X10_goOn gh) := by
  obtain ⟨⟨from', to, T, first⟩, ⟨tau, b0⟩, ⟨nl, ne, nz, nw, cn⟩, mo, M, I, Ai, Aj⟩ := gh
  refine pz_ofZ (by decide) hOk.1 (Or.inr (Or.inr (Or.inl rfl))) ?_ ?_
  · rintro av g ⟨rfl, -⟩
    exact Nat.le_of_ble_eq_true rfl
  · rintro X hX hGX hrm - av g ⟨rfl, hfr, hto, hT, htb, ⟨⟨hnl, hnl40⟩, ⟨hne, hne100, h01⟩, ⟨hnz, hnz100⟩, ⟨hnw, hnw100⟩, hcn⟩, hm⟩ hR
    have htau : ∀ {A : Nat → Nat → Int64}, agJ [29, 30, 33, 34] Aj A → ∀ k, k < 6 → A 32 k = tau k := fun h k hk => by rw [h 32 (by decide)]; exact (htb k hk).1
    -- a leg
    have leg : ∀ (l r i j : Nat) (Fi Fo : Nat → Int64) (gk : pz_H) (A : Nat → Nat → Int64) (s : Bool × (Nat → Int64)), l < nl → i < cn l → j < cn l → hg moL g gk → moS gk mo M I Ai A → agJ [29, 30, 33, 34] Aj A → (∀ k, k < cn l → A 29 k = Fi k ∧ A 30 k = Fo k) → (∀ k, k < 6 → A 33 k = s.2 k) → (∀ (g2 : pz_H) (A2 : Nat → Nat → Int64), hg moL g g2 → moS g2 mo M I Ai A2 → agJ [29, 30, 33, 34] Aj A2 → (∀ k, k < cn l → A2 29 k = Fi k ∧ A2 30 k = Fo k) → (∀ k, k < 6 → A2 33 k = (mg_st tau first s (mg_pr T l r i j Fi Fo)).2 k) → pz_Z X 16 316 [(13, .inl (nI j)), (12, .inl 1), (11, .inl (nI i)), (10, .inl 1), (8, .inr (.inl (dy T r))), (7, .inl (nI l)), (6, .inl (b01 (mg_st tau first s (mg_pr T l r i j Fi Fo)).1)), (5, .inl (b01 first)), (0, .inr (.inr (some (mo)))), (1, .inl (nI from')), (2, .inl (nI to)), (3, .inr (.inl (lN T)))] [] g2 0 0) → pz_Z X 16 158 [(13, .inl (nI j)), (12, .inl 1), (11, .inl (nI i)), (10, .inl 1), (8, .inr (.inl (dy T r))), (7, .inl (nI l)), (6, .inl (b01 s.1)), (5, .inl (b01 first)), (0, .inr (.inr (some (mo)))), (1, .inl (nI from')), (2, .inl (nI to)), (3, .inr (.inl (lN T)))] [] gk 0 0 := by
      intro l r i j Fi Fo gk A s hl hi hj hS hmk hag hf hb kont
      obtain ⟨hc3, hc12, hcp⟩ := hcn l hl
      have hic : (nI i).toNatClampNeg = i := ni_cl (by omega)
      have hii : vp_in (nI i) 12 := ni_in (by omega) (by omega)
      have hjc : (nI j).toNatClampNeg = j := ni_cl (by omega)
      have hji : vp_in (nI j) 12 := ni_in (by omega) (by omega)
      have i0 : ∀ n : Nat, n < 6 → vp_in (nI n) 6 := fun n h => ni_in h (by omega)
      obtain ⟨m1, S1⟩ := mo_j hmk 34 (by decide) (vp_updL (A 34) 0 (Fo i))
      obtain ⟨m2, S2⟩ := mo_j m1 34 (by decide) (vp_updL (vp_updL (A 34) 0 (Fo i)) 1 (Fi j))
      obtain ⟨m3, S3⟩ := mo_j m2 34 (by decide) (vp_updL (vp_updL (vp_updL (A 34) 0 (Fo i)) 1 (Fi j)) 2 (lN l))
      obtain ⟨m4, S4⟩ := mo_j m3 34 (by decide) (vp_updL (vp_updL (vp_updL (vp_updL (A 34) 0 (Fo i)) 1 (Fi j)) 2 (lN l)) 3 (dy T r))
      obtain ⟨m5, S5⟩ := mo_j m4 34 (by decide) (vp_updL (vp_updL (vp_updL (vp_updL (vp_updL (A 34) 0 (Fo i)) 1 (Fi j)) 2 (lN l)) 3 (dy T r)) 4 (lN i))
      obtain ⟨m6, S6⟩ := mo_j m5 34 (by decide) (vp_updL (vp_updL (vp_updL (vp_updL (vp_updL (vp_updL (A 34) 0 (Fo i)) 1 (Fi j)) 2 (lN l)) 3 (dy T r)) 4 (lN i)) 5 (lN j))
      have h34 : gk (M 34) = some ([101, 34], ar_j (mo_ln 34) (A 34)) := hmk.2.2.2 34 (by decide)
      refine bX10_goOn_158 hX _ _ _ _ _ ⟨_, _, _, hmk.1, rfl, _, _, _, hmk.1, rfl, _, _, _, hmk.2.2.2 30 (by decide), hii, _, _, _, h34, i0 0 (by omega), ?_⟩
      rw [hic, (hf i hi).2, show (0 : Int32).toNatClampNeg = 0 from rfl]
      refine ⟨_, _, _, m1.1, rfl, _, _, _, m1.1, rfl, _, _, _, m1.2.2.2 29 (by decide), hji, _, _, _, m1.2.2.2 34 (by decide), i0 1 (by omega), ?_⟩
      rw [hjc, seqJ_ne (show (29 : Nat) ≠ 34 by decide), (hf j hj).1, seqJ_at, show (1 : Int32).toNatClampNeg = 1 from rfl]
      refine ⟨_, _, _, m2.1, rfl, _, _, _, m2.2.2.2 34 (by decide), i0 2 (by omega), ?_⟩
      rw [seqJ_at, show (2 : Int32).toNatClampNeg = 2 from rfl, nI_l (by omega)]
      refine ⟨_, _, _, m3.1, rfl, _, _, _, m3.2.2.2 34 (by decide), i0 3 (by omega), ?_⟩
      rw [seqJ_at, show (3 : Int32).toNatClampNeg = 3 from rfl]
      refine ⟨_, _, _, m4.1, rfl, _, _, _, m4.2.2.2 34 (by decide), i0 4 (by omega), ?_⟩
      rw [seqJ_at, show (4 : Int32).toNatClampNeg = 4 from rfl, nI_l (by omega)]
      refine ⟨_, _, _, m5.1, rfl, _, _, _, m5.2.2.2 34 (by decide), i0 5 (by omega), ?_⟩
      rw [seqJ_at, show (5 : Int32).toNatClampNeg = 5 from rfl, nI_l (by omega)]
      have hSS := hg_tr hS (hg_tr S1 (hg_tr S2 (hg_tr S3 (hg_tr S4 (hg_tr S5 S6)))))
      have hpr : ∀ k, k < 6 → vp_updL (vp_updL (vp_updL (vp_updL (vp_updL (vp_updL (A 34) 0 (Fo i)) 1 (Fi j)) 2 (lN l)) 3 (dy T r)) 4 (lN i)) 5 (lN j) k = mg_pr T l r i j Fi Fo k := by
        intro k hk
        rcases (show k = 0 ∨ k = 1 ∨ k = 2 ∨ k = 3 ∨ k = 4 ∨ k = 5 by omega) with rfl | rfl | rfl | rfl | rfl | rfl
        · rw [pk_uLn (by omega), pk_uLn (by omega), pk_uLn (by omega), pk_uLn (by omega), pk_uLn (by omega), pk_uLs]; rfl
        · rw [pk_uLn (by omega), pk_uLn (by omega), pk_uLn (by omega), pk_uLn (by omega), pk_uLs]; rfl
        · rw [pk_uLn (by omega), pk_uLn (by omega), pk_uLn (by omega), pk_uLs]; rfl
        · rw [pk_uLn (by omega), pk_uLn (by omega), pk_uLs]; rfl
        · rw [pk_uLn (by omega), pk_uLs]; rfl
        · rw [pk_uLs]; rfl
      generalize hP : mg_pr T l r i j Fi Fo = P at hpr kont
      generalize vp_updL (vp_updL (vp_updL (vp_updL (vp_updL (vp_updL (A 34) 0 (Fo i)) 1 (Fi j)) 2 (lN l)) 3 (dy T r)) 4 (lN i)) 5 (lN j) = P6 at m6 hSS hpr ⊢
      generalize vp_updL (vp_updL (vp_updL (vp_updL (vp_updL (A 34) 0 (Fo i)) 1 (Fi j)) 2 (lN l)) 3 (dy T r)) 4 (lN i) = P5 at m5 m6 hSS ⊢
      generalize vp_updL (vp_updL (vp_updL (vp_updL (A 34) 0 (Fo i)) 1 (Fi j)) 2 (lN l)) 3 (dy T r) = P4 at m4 m5 m6 hSS ⊢
      generalize vp_updL (vp_updL (vp_updL (A 34) 0 (Fo i)) 1 (Fi j)) 2 (lN l) = P3 at m3 m4 m5 m6 hSS ⊢
      generalize vp_updL (vp_updL (A 34) 0 (Fo i)) 1 (Fi j) = P2 at m2 m3 m4 m5 m6 hSS ⊢
      generalize vp_updL (A 34) 0 (Fo i) = P1 at m1 m2 m3 m4 m5 m6 hSS ⊢
      have hA6 : ∃ A6, A6 = seqJ (seqJ (seqJ (seqJ (seqJ (seqJ A 34 P1) 34 P2) 34 P3) 34 P4) 34 P5) 34 P6 := ⟨_, rfl⟩
      obtain ⟨A6, hA6⟩ := hA6
      rw [← hA6] at m6
      have hag6 : agJ [29, 30, 33, 34] Aj A6 := by rw [hA6]; exact agJ_sq (agJ_sq (agJ_sq (agJ_sq (agJ_sq (agJ_sq hag (by decide)) (by decide)) (by decide)) (by decide)) (by decide)) (by decide)
      have h6_34 : A6 34 = P6 := by rw [hA6, seqJ_at]
      have h6_33 : ∀ k, k < 6 → A6 33 k = s.2 k := fun k hk => by rw [hA6]; exact hb k hk
      have h6_f : ∀ k, k < cn l → A6 29 k = Fi k ∧ A6 30 k = Fo k := fun k hk => by rw [hA6]; exact hf k hk
      generalize va_up (va_up (va_up (va_up (va_up (va_up gk (M 34) _) (M 34) _) (M 34) _) (M 34) _) (M 34) _) (M 34) _ = g6 at m6 hSS ⊢
      have n34 : g6 (M 34) = some ([101, 34], ar_j 6 P6) := by rw [← h6_34]; exact m6.2.2.2 34 (by decide)
      have n33 : g6 (M 33) = some ([101, 33], ar_j 6 (A6 33)) := m6.2.2.2 33 (by decide)
      have n32 : g6 (M 32) = some ([101, 32], ar_j 6 (A6 32)) := m6.2.2.2 32 (by decide)
      -- taken or not
      have fin : ∀ (b : Bool) (lv : pz_L), b = mg_is tau first s P → pz_all lv [(13, .inl (nI j)), (12, .inl 1), (11, .inl (nI i)), (10, .inl 1), (8, .inr (.inl (dy T r))), (7, .inl (nI l)), (6, .inl (b01 s.1)), (5, .inl (b01 first)), (0, .inr (.inr (some (mo)))), (1, .inl (nI from')), (2, .inl (nI to)), (3, .inr (.inl (lN T)))] → pz_Z X 16 262 lv [.inl (b01 b)] g6 0 0 := by
        intro b lv hbb hlv
        refine pz_lsub hlv ?_
        refine bX10_goOn_262 hX _ _ _ _ _ ?_
        refine pz_lsub (lv' := [(15, .inl (nI 0)), (14, .inl (b01 b)), (13, .inl (nI j)), (12, .inl 1), (11, .inl (nI i)), (10, .inl 1), (8, .inr (.inl (dy T r))), (7, .inl (nI l)), (6, .inl (b01 s.1)), (5, .inl (b01 first)), (0, .inr (.inr (some (mo)))), (1, .inl (nI from')), (2, .inl (nI to)), (3, .inr (.inl (lN T)))]) ⟨rfl, rfl, rfl, rfl, rfl, rfl, rfl, rfl, rfl, rfl, rfl, rfl, rfl, rfl, trivial⟩ ?_
        -- found
        have at299 : ∀ (g7 : pz_H) (A7 : Nat → Nat → Int64) (k : Nat), hg moL g g7 → moS g7 mo M I Ai A7 → agJ [29, 30, 33, 34] Aj A7 → (∀ k, k < cn l → A7 29 k = Fi k ∧ A7 30 k = Fo k) → (∀ k, k < 6 → A7 33 k = (mg_st tau first s P).2 k) → pz_Z X 16 299 [(15, .inl (nI k)), (14, .inl (b01 b)), (13, .inl (nI j)), (12, .inl 1), (11, .inl (nI i)), (10, .inl 1), (8, .inr (.inl (dy T r))), (7, .inl (nI l)), (6, .inl (b01 s.1)), (5, .inl (b01 first)), (0, .inr (.inr (some (mo)))), (1, .inl (nI from')), (2, .inl (nI to)), (3, .inr (.inl (lN T)))] [] g7 0 0 := by
          intro g7 A7 k c1 c2 c3 c4 c5
          have e1 : (mg_st tau first s P).1 = (s.1 || b) := by
            unfold mg_st
            rw [hbb]
            cases hh : mg_is tau first s P
            · rw [if_neg (by decide), Bool.or_false]
            · rw [if_pos rfl, Bool.or_true]
          have done : ∀ (x : Int32) (lv : pz_L), x = b01 (mg_st tau first s P).1 → pz_all lv [(13, .inl (nI j)), (12, .inl 1), (11, .inl (nI i)), (10, .inl 1), (8, .inr (.inl (dy T r))), (7, .inl (nI l)), (5, .inl (b01 first)), (0, .inr (.inr (some (mo)))), (1, .inl (nI from')), (2, .inl (nI to)), (3, .inr (.inl (lN T)))] → pz_Z X 16 314 lv [.inl (x)] g7 0 0 := by
            intro x lv hx hlv
            subst hx
            refine pz_lsub hlv ?_
            refine bX10_goOn_314 hX _ _ _ _ _ ?_
            exact pz_lsub (by exact ⟨rfl, rfl, rfl, rfl, rfl, rfl, rfl, rfl, rfl, rfl, rfl, rfl, trivial⟩) (kont g7 A7 c1 c2 c3 c4 c5)
          refine bX10_goOn_299 hX _ _ _ _ _ ⟨fun q => ?_, fun q => ?_⟩
          · rw [b01_nz] at q
            refine bX10_goOn_309 hX _ _ _ _ _ ?_
            refine done 1 _ (by rw [e1, q]; rfl) ?_
            exact ⟨rfl, rfl, rfl, rfl, rfl, rfl, rfl, rfl, rfl, rfl, rfl, trivial⟩
          · rw [b01_z] at q
            refine bX10_goOn_304 hX _ _ _ _ _ ⟨fun q2 => ?_, fun q2 => ?_⟩
            · rw [b01_z] at q2
              refine bX10_goOn_313 hX _ _ _ _ _ ?_
              refine done 0 _ (by rw [e1, q, q2]; rfl) ?_
              exact ⟨rfl, rfl, rfl, rfl, rfl, rfl, rfl, rfl, rfl, rfl, rfl, trivial⟩
            · rw [b01_nz] at q2
              refine bX10_goOn_309 hX _ _ _ _ _ ?_
              refine done 1 _ (by rw [e1, q, q2]; rfl) ?_
              exact ⟨rfl, rfl, rfl, rfl, rfl, rfl, rfl, rfl, rfl, rfl, rfl, trivial⟩
        cases hb2 : b with
        | false =>
          have e2 : (mg_st tau first s P).2 = s.2 := by
            unfold mg_st
            rw [← hbb, hb2, if_neg (by decide)]
          refine bX10_goOn_267 hX _ _ _ _ _ ⟨fun q => absurd q (by decide), fun _ => ?_⟩
          refine bX10_goOn_274 hX _ _ _ _ _ ⟨fun _ => ?_, fun q => absurd rfl q⟩
          have := at299 g6 A6 0 hSS m6 hag6 h6_f (by rw [e2]; exact h6_33)
          rw [hb2] at this
          exact this
        | true =>
          have e2 : (mg_st tau first s P).2 = P := by
            unfold mg_st
            rw [← hbb, hb2, if_pos rfl]
          have loopK : ∀ (m k : Nat) (g7 : pz_H) (A7 : Nat → Nat → Int64), k + m = 6 → hg moL g g7 → moS g7 mo M I Ai A7 → agJ [29, 30, 33, 34] Aj A7 → A7 34 = P6 → (∀ k, k < cn l → A7 29 k = Fi k ∧ A7 30 k = Fo k) → (∀ n, n < k → A7 33 n = P n) → pz_Z X 16 267 [(15, .inl (nI k)), (14, .inl (b01 true)), (13, .inl (nI j)), (12, .inl 1), (11, .inl (nI i)), (10, .inl 1), (8, .inr (.inl (dy T r))), (7, .inl (nI l)), (6, .inl (b01 s.1)), (5, .inl (b01 first)), (0, .inr (.inr (some (mo)))), (1, .inl (nI from')), (2, .inl (nI to)), (3, .inr (.inl (lN T)))] [] g7 0 0 := by
            intro m
            induction m with
            | zero =>
              intro k g7 A7 hk c1 c2 c3 c4 c5 c6
              obtain rfl : k = 6 := by omega
              refine bX10_goOn_267 hX _ _ _ _ _ ⟨fun _ => ?_, fun q => absurd (show (6 : Int32) ≤ nI 6 by decide) q⟩
              have := at299 g7 A7 6 c1 c2 c3 c5 (by rw [e2]; exact c6)
              rw [hb2] at this
              exact this
            | succ m ih =>
              intro k g7 A7 hk c1 c2 c3 c4 c5 c6
              have hkc : (nI k).toNatClampNeg = k := ni_cl (by omega)
              have hki : vp_in (nI k) 6 := ni_in (by omega) (by omega)
              refine bX10_goOn_267 hX _ _ _ _ _ ⟨fun q => absurd ((ni_le (a := 6) (by omega) (by omega)).mp q) (by omega), fun _ => ?_⟩
              refine bX10_goOn_274 hX _ _ _ _ _ ⟨fun q => absurd q (by decide), fun _ => ?_⟩
              refine bX10_goOn_279 hX _ _ _ _ _ ⟨_, _, _, c2.1, rfl, _, _, _, c2.1, rfl, _, _, _, c2.2.2.2 34 (by decide), hki, _, _, _, c2.2.2.2 33 (by decide), hki, ?_⟩
              rw [hkc, c4, hpr k (by omega)]
              obtain ⟨m8, S8⟩ := mo_j c2 33 (by decide) (vp_updL (A7 33) k (P k))
              refine pz_lsub (lv' := [(15, .inl (nI (k + 1))), (14, .inl (b01 true)), (13, .inl (nI j)), (12, .inl 1), (11, .inl (nI i)), (10, .inl 1), (8, .inr (.inl (dy T r))), (7, .inl (nI l)), (6, .inl (b01 s.1)), (5, .inl (b01 first)), (0, .inr (.inr (some (mo)))), (1, .inl (nI from')), (2, .inl (nI to)), (3, .inr (.inl (lN T)))]) ⟨ni_inc, rfl, rfl, rfl, rfl, rfl, rfl, rfl, rfl, rfl, rfl, rfl, rfl, rfl, trivial⟩ ?_
              refine ih (k + 1) _ _ (by omega) (hg_tr c1 S8) m8 (agJ_sq c3 (by decide)) c4 c5 (fun n hn => ?_)
              rw [seqJ_at]
              by_cases e : n = k
              · subst e; exact pk_uLs
              · rw [pk_uLn e]; exact c6 n (by omega)
          exact loopK 6 0 g6 A6 (by omega) hSS m6 hag6 h6_34 h6_f (fun n hn => absurd hn (Nat.not_lt_zero n))
      have no : mg_is tau first s P = false → ∀ lv : pz_L, pz_all lv [(13, .inl (nI j)), (12, .inl 1), (11, .inl (nI i)), (10, .inl 1), (8, .inr (.inl (dy T r))), (7, .inl (nI l)), (6, .inl (b01 s.1)), (5, .inl (b01 first)), (0, .inr (.inr (some (mo)))), (1, .inl (nI from')), (2, .inl (nI to)), (3, .inr (.inl (lN T)))] → pz_Z X 16 261 lv [] g6 0 0 := by
        intro h lv hlv
        refine pz_lsub hlv ?_
        refine bX10_goOn_261 hX _ _ _ _ _ ?_
        exact fin false _ h.symm ⟨rfl, rfl, rfl, rfl, rfl, rfl, rfl, rfl, rfl, rfl, rfl, rfl, trivial⟩
      have yes : mg_is tau first s P = true → ∀ lv : pz_L, pz_all lv [(13, .inl (nI j)), (12, .inl 1), (11, .inl (nI i)), (10, .inl 1), (8, .inr (.inl (dy T r))), (7, .inl (nI l)), (6, .inl (b01 s.1)), (5, .inl (b01 first)), (0, .inr (.inr (some (mo)))), (1, .inl (nI from')), (2, .inl (nI to)), (3, .inr (.inl (lN T)))] → pz_Z X 16 257 lv [] g6 0 0 := by
        intro h lv hlv
        refine pz_lsub hlv ?_
        refine bX10_goOn_257 hX _ _ _ _ _ ?_
        exact fin true _ h.symm ⟨rfl, rfl, rfl, rfl, rfl, rfl, rfl, rfl, rfl, rfl, rfl, rfl, trivial⟩
      have at238 : (first || decide (0 < mg_o P tau 0 6)) = true → ∀ lv : pz_L, pz_all lv [(13, .inl (nI j)), (12, .inl 1), (11, .inl (nI i)), (10, .inl 1), (8, .inr (.inl (dy T r))), (7, .inl (nI l)), (6, .inl (b01 s.1)), (5, .inl (b01 first)), (0, .inr (.inr (some (mo)))), (1, .inl (nI from')), (2, .inl (nI to)), (3, .inr (.inl (lN T)))] → pz_Z X 16 238 lv [] g6 0 0 := by
        intro h lv hlv
        refine pz_lsub hlv ?_
        refine bX10_goOn_238 hX _ _ _ _ _ ⟨fun q => ?_, fun q => ?_⟩
        · rw [b01_z] at q
          exact yes (by unfold mg_is; rw [h, q]; rfl) _ ⟨rfl, rfl, rfl, rfl, rfl, rfl, rfl, rfl, rfl, rfl, rfl, rfl, trivial⟩
        · rw [b01_nz] at q
          refine bX10_goOn_243 hX _ _ _ _ _ ⟨_, _, _, m6.1, rfl, _, _, _, m6.1, rfl, ?_⟩
          refine bX10_goOn_251 hX hrm hGX hOk ((M 34, M 33), ([101, 34], [101, 33]), P6, A6 33) (by decide) _ _ _ _ _ ⟨Nat.le_of_ble_eq_true rfl, Nat.le_of_ble_eq_true rfl, Nat.le_of_ble_eq_true rfl, Nat.le_of_ble_eq_true rfl, ⟨rfl, n34, n33⟩, ?_⟩
          rintro v g7 ⟨rfl, rfl⟩ z hz
          cases hz
          rw [mg_oc (a' := P) (b' := s.2) 6 0 (fun k hk => ⟨hpr k (by omega), h6_33 k (by omega)⟩)]
          refine ⟨fun q2 => ?_, fun q2 => ?_⟩
          · exact no (by unfold mg_is; rw [h, q, decide_eq_false (Int32.not_lt.mpr q2)]; rfl) _ ⟨rfl, rfl, rfl, rfl, rfl, rfl, rfl, rfl, rfl, rfl, rfl, rfl, trivial⟩
          · exact yes (by unfold mg_is; rw [h, q, decide_eq_true (Int32.not_le.mp q2)]; rfl) _ ⟨rfl, rfl, rfl, rfl, rfl, rfl, rfl, rfl, rfl, rfl, rfl, rfl, trivial⟩
      refine ⟨fun q => ?_, fun q => ?_⟩
      · rw [b01_nz] at q
        refine at238 (by rw [q]; rfl) _ ?_
        exact ⟨rfl, rfl, rfl, rfl, rfl, rfl, rfl, rfl, rfl, rfl, rfl, rfl, trivial⟩
      · rw [b01_z] at q
        refine bX10_goOn_224 hX _ _ _ _ _ ⟨_, _, _, m6.1, rfl, _, _, _, m6.1, rfl, ?_⟩
        refine bX10_goOn_232 hX hrm hGX hOk ((M 34, M 32), ([101, 34], [101, 32]), P6, A6 32) (by decide) _ _ _ _ _ ⟨Nat.le_of_ble_eq_true rfl, Nat.le_of_ble_eq_true rfl, Nat.le_of_ble_eq_true rfl, Nat.le_of_ble_eq_true rfl, ⟨rfl, n34, n32⟩, ?_⟩
        rintro v g7 ⟨rfl, rfl⟩ z hz
        cases hz
        rw [mg_oc (a' := P) (b' := tau) 6 0 (fun k hk => ⟨hpr k (by omega), htau hag6 k (by omega)⟩)]
        refine ⟨fun q2 => ?_, fun q2 => ?_⟩
        · exact no (by unfold mg_is; rw [q, decide_eq_false (Int32.not_lt.mpr q2)]; rfl) _ ⟨rfl, rfl, rfl, rfl, rfl, rfl, rfl, rfl, rfl, rfl, rfl, rfl, trivial⟩
        · exact at238 (by rw [decide_eq_true (Int32.not_le.mp q2), Bool.or_true]) _ ⟨rfl, rfl, rfl, rfl, rfl, rfl, rfl, rfl, rfl, rfl, rfl, rfl, trivial⟩
    -- j
    have loopJ : ∀ (l r i : Nat) (Fi Fo : Nat → Int64), l < nl → i < cn l → ∀ (m j : Nat) (gk : pz_H) (A : Nat → Nat → Int64) (s : Bool × (Nat → Int64)), j + m = cn l → hg moL g gk → moS gk mo M I Ai A → agJ [29, 30, 33, 34] Aj A → (∀ k, k < cn l → A 29 k = Fi k ∧ A 30 k = Fo k) → (∀ k, k < 6 → A 33 k = s.2 k) → (∀ (g2 : pz_H) (A2 : Nat → Nat → Int64) (s2 : Bool × (Nat → Int64)), s2 = (mg_j Ai to T l r i Fi Fo j m).foldl (mg_st tau first) s → hg moL g g2 → moS g2 mo M I Ai A2 → agJ [29, 30, 33, 34] Aj A2 → (∀ k, k < cn l → A2 29 k = Fi k ∧ A2 30 k = Fo k) → (∀ k, k < 6 → A2 33 k = s2.2 k) → pz_Z X 16 322 [(11, .inl (nI i)), (10, .inl 1), (8, .inr (.inl (dy T r))), (7, .inl (nI l)), (6, .inl (b01 s2.1)), (5, .inl (b01 first)), (0, .inr (.inr (some (mo)))), (1, .inl (nI from')), (2, .inl (nI to)), (3, .inr (.inl (lN T)))] [] g2 0 0) → pz_Z X 16 113 [(13, .inl (nI j)), (12, .inl 1), (11, .inl (nI i)), (10, .inl 1), (8, .inr (.inl (dy T r))), (7, .inl (nI l)), (6, .inl (b01 s.1)), (5, .inl (b01 first)), (0, .inr (.inr (some (mo)))), (1, .inl (nI from')), (2, .inl (nI to)), (3, .inr (.inl (lN T)))] [] gk 0 0 := by
      intro l r i Fi Fo hl hi m
      obtain ⟨hc3, hc12, hcp⟩ := hcn l hl
      have hli : vp_in (nI l) 40 := ni_in (by omega) (by omega)
      have hlc : (nI l).toNatClampNeg = l := ni_cl (by omega)
      induction m with
      | zero =>
        intro j gk A s hj hS hmk hag hf hb kont
        have h3 : gk (M 3) = some ([101, 3], ar_i 40 (Ai 3)) := hmk.2.1 3 (by decide)
        refine bX10_goOn_113 hX _ _ _ _ _ ⟨_, _, _, hmk.1, rfl, _, _, _, h3, hli, ?_⟩
        rw [hlc, hc3]
        refine ⟨fun _ => ?_, fun q => absurd ((ni_le (by omega) (by omega)).mpr (by omega)) q⟩
        exact pz_lsub (by exact ⟨rfl, rfl, rfl, rfl, rfl, rfl, rfl, rfl, rfl, rfl, trivial⟩) (kont gk A s rfl hS hmk hag hf hb)
      | succ m ih =>
        intro j gk A s hj hS hmk hag hf hb kont
        have h3 : gk (M 3) = some ([101, 3], ar_i 40 (Ai 3)) := hmk.2.1 3 (by decide)
        have h4 : gk (M 4) = some ([101, 4], ar_i 480 (Ai 4)) := hmk.2.1 4 (by decide)
        have e1 : mg_j Ai to T l r i Fi Fo j (m + 1) = (if Ai 4 (12 * l + j) = nI to ∧ Fo i ≤ Fi j then [mg_pr T l r i j Fi Fo] else []) ++ mg_j Ai to T l r i Fi Fo (j + 1) m := rfl
        have nx : ∀ (g3 : pz_H) (A3 : Nat → Nat → Int64) (s3 : Bool × (Nat → Int64)) (lv : pz_L), s3 = (if Ai 4 (12 * l + j) = nI to ∧ Fo i ≤ Fi j then [mg_pr T l r i j Fi Fo] else []).foldl (mg_st tau first) s → hg moL g g3 → moS g3 mo M I Ai A3 → agJ [29, 30, 33, 34] Aj A3 → (∀ k, k < cn l → A3 29 k = Fi k ∧ A3 30 k = Fo k) → (∀ k, k < 6 → A3 33 k = s3.2 k) → pz_all lv [(13, .inl (nI j)), (12, .inl 1), (11, .inl (nI i)), (10, .inl 1), (8, .inr (.inl (dy T r))), (7, .inl (nI l)), (6, .inl (b01 s3.1)), (5, .inl (b01 first)), (0, .inr (.inr (some (mo)))), (1, .inl (nI from')), (2, .inl (nI to)), (3, .inr (.inl (lN T)))] → pz_Z X 16 316 lv [] g3 0 0 := by
          intro g3 A3 s3 lv hs3 a1 a2 a3 a4 a5 hlv
          refine pz_lsub hlv ?_
          refine bX10_goOn_316 hX _ _ _ _ _ ?_
          refine pz_lsub (lv' := [(13, .inl (nI (j + 1))), (12, .inl 1), (11, .inl (nI i)), (10, .inl 1), (8, .inr (.inl (dy T r))), (7, .inl (nI l)), (6, .inl (b01 s3.1)), (5, .inl (b01 first)), (0, .inr (.inr (some (mo)))), (1, .inl (nI from')), (2, .inl (nI to)), (3, .inr (.inl (lN T)))]) ⟨ni_inc, rfl, rfl, rfl, rfl, rfl, rfl, rfl, rfl, rfl, rfl, rfl, trivial⟩ ?_
          refine ih (j + 1) g3 A3 s3 (by omega) a1 a2 a3 a4 a5 (fun g4 A4 s4 hs4 c1 c2 c3 c4 c5 => kont g4 A4 s4 ?_ c1 c2 c3 c4 c5)
          rw [hs4, hs3, e1, List.foldl_append]
        refine bX10_goOn_113 hX _ _ _ _ _ ⟨_, _, _, hmk.1, rfl, _, _, _, h3, hli, ?_⟩
        rw [hlc, hc3]
        refine ⟨fun q => absurd ((ni_le (by omega) (by omega)).mp q) (by omega), fun _ => ?_⟩
        refine bX10_goOn_125 hX _ _ _ _ _ ⟨fun q => absurd q (by decide), fun _ => ?_⟩
        refine bX10_goOn_130 hX _ _ _ _ _ ⟨_, _, _, hmk.1, rfl, _, _, _, h4, by rw [ix_12]; exact ni_in (by omega) (by omega), ?_⟩
        rw [ix_12, ni_cl (j := 12 * l + j) (by omega)]
        refine ⟨fun q => ?_, fun q => ?_⟩
        · exact nx gk A s _ (by rw [if_neg (fun z => q z.1)]; rfl) hS hmk hag hf hb ⟨rfl, rfl, rfl, rfl, rfl, rfl, rfl, rfl, rfl, rfl, rfl, rfl, trivial⟩
        · refine bX10_goOn_147 hX _ _ _ _ _ ?_
          refine bX10_goOn_152 hX hrm hGX hOk ((i, j), (mo, M, I, Ai, A)) (by decide) _ _ _ _ _ ⟨Nat.le_of_ble_eq_true rfl, ⟨mo, [.inl (nI i), .inl (nI j)], [100], _, rfl, hmk.1⟩, Nat.le_of_ble_eq_true rfl, Nat.le_of_ble_eq_true rfl, Nat.le_of_ble_eq_true rfl, ⟨rfl, by omega, by omega, hmk⟩, ?_⟩
          rintro v g2 ⟨rfl, rfl⟩ y hy -
          cases hy
          refine ⟨fun q2 => ?_, fun q2 => ?_⟩
          · rw [b01_z, (hf i hi).2, (hf j (by omega)).1] at q2
            exact nx g2 A s _ (by rw [if_neg (fun z => of_decide_eq_false q2 z.2)]; rfl) hS hmk hag hf hb ⟨rfl, rfl, rfl, rfl, rfl, rfl, rfl, rfl, rfl, rfl, rfl, rfl, trivial⟩
          · rw [b01_nz, (hf i hi).2, (hf j (by omega)).1] at q2
            refine leg l r i j Fi Fo g2 A s hl hi (by omega) hS hmk hag hf hb (fun g3 A3 a1 a2 a3 a4 a5 => ?_)
            exact nx g3 A3 _ _ (by rw [if_pos ⟨q, of_decide_eq_true q2⟩]; rfl) a1 a2 a3 a4 a5 ⟨rfl, rfl, rfl, rfl, rfl, rfl, rfl, rfl, rfl, rfl, rfl, rfl, trivial⟩
    -- i
    have loopI : ∀ (l r : Nat) (Fi Fo : Nat → Int64), l < nl → ∀ (m i : Nat) (gk : pz_H) (A : Nat → Nat → Int64) (s : Bool × (Nat → Int64)), i + m = cn l → hg moL g gk → moS gk mo M I Ai A → agJ [29, 30, 33, 34] Aj A → (∀ k, k < cn l → A 29 k = Fi k ∧ A 30 k = Fo k) → (∀ k, k < 6 → A 33 k = s.2 k) → (∀ (g2 : pz_H) (A2 : Nat → Nat → Int64) (s2 : Bool × (Nat → Int64)), s2 = (mg_i Ai cn from' to T l r Fi Fo i m).foldl (mg_st tau first) s → hg moL g g2 → moS g2 mo M I Ai A2 → agJ [29, 30, 33, 34] Aj A2 → (∀ k, k < 6 → A2 33 k = s2.2 k) → pz_Z X 16 328 [(8, .inr (.inl (dy T r))), (7, .inl (nI l)), (6, .inl (b01 s2.1)), (5, .inl (b01 first)), (0, .inr (.inr (some (mo)))), (1, .inl (nI from')), (2, .inl (nI to)), (3, .inr (.inl (lN T)))] [] g2 0 0) → pz_Z X 16 54 [(11, .inl (nI i)), (10, .inl 1), (8, .inr (.inl (dy T r))), (7, .inl (nI l)), (6, .inl (b01 s.1)), (5, .inl (b01 first)), (0, .inr (.inr (some (mo)))), (1, .inl (nI from')), (2, .inl (nI to)), (3, .inr (.inl (lN T)))] [] gk 0 0 := by
      intro l r Fi Fo hl m
      obtain ⟨hc3, hc12, hcp⟩ := hcn l hl
      have hli : vp_in (nI l) 40 := ni_in (by omega) (by omega)
      have hlc : (nI l).toNatClampNeg = l := ni_cl (by omega)
      induction m with
      | zero =>
        intro i gk A s hi hS hmk hag hf hb kont
        have h3 : gk (M 3) = some ([101, 3], ar_i 40 (Ai 3)) := hmk.2.1 3 (by decide)
        refine bX10_goOn_54 hX _ _ _ _ _ ⟨_, _, _, hmk.1, rfl, _, _, _, h3, hli, ?_⟩
        rw [hlc, hc3]
        refine ⟨fun _ => ?_, fun q => absurd ((ni_le (by omega) (by omega)).mpr (by omega)) q⟩
        exact pz_lsub (by exact ⟨rfl, rfl, rfl, rfl, rfl, rfl, rfl, rfl, trivial⟩) (kont gk A s rfl hS hmk hag hb)
      | succ m ih =>
        intro i gk A s hi hS hmk hag hf hb kont
        have h3 : gk (M 3) = some ([101, 3], ar_i 40 (Ai 3)) := hmk.2.1 3 (by decide)
        have h4 : gk (M 4) = some ([101, 4], ar_i 480 (Ai 4)) := hmk.2.1 4 (by decide)
        have h30 : gk (M 30) = some ([101, 30], ar_j 12 (A 30)) := hmk.2.2.2 30 (by decide)
        have hic : (nI i).toNatClampNeg = i := ni_cl (by omega)
        have hii : vp_in (nI i) 12 := ni_in (by omega) (by omega)
        have e1 : mg_i Ai cn from' to T l r Fi Fo i (m + 1) = (if Ai 4 (12 * l + i) = nI from' ∧ lN T ≤ Fo i then mg_j Ai to T l r i Fi Fo (i + 1) (cn l - (i + 1)) else []) ++ mg_i Ai cn from' to T l r Fi Fo (i + 1) m := rfl
        have nx : ∀ (g3 : pz_H) (A3 : Nat → Nat → Int64) (s3 : Bool × (Nat → Int64)) (lv : pz_L), s3 = (if Ai 4 (12 * l + i) = nI from' ∧ lN T ≤ Fo i then mg_j Ai to T l r i Fi Fo (i + 1) (cn l - (i + 1)) else []).foldl (mg_st tau first) s → hg moL g g3 → moS g3 mo M I Ai A3 → agJ [29, 30, 33, 34] Aj A3 → (∀ k, k < cn l → A3 29 k = Fi k ∧ A3 30 k = Fo k) → (∀ k, k < 6 → A3 33 k = s3.2 k) → pz_all lv [(11, .inl (nI i)), (10, .inl 1), (8, .inr (.inl (dy T r))), (7, .inl (nI l)), (6, .inl (b01 s3.1)), (5, .inl (b01 first)), (0, .inr (.inr (some (mo)))), (1, .inl (nI from')), (2, .inl (nI to)), (3, .inr (.inl (lN T)))] → pz_Z X 16 322 lv [] g3 0 0 := by
          intro g3 A3 s3 lv hs3 a1 a2 a3 a4 a5 hlv
          refine pz_lsub hlv ?_
          refine bX10_goOn_322 hX _ _ _ _ _ ?_
          refine pz_lsub (lv' := [(11, .inl (nI (i + 1))), (10, .inl 1), (8, .inr (.inl (dy T r))), (7, .inl (nI l)), (6, .inl (b01 s3.1)), (5, .inl (b01 first)), (0, .inr (.inr (some (mo)))), (1, .inl (nI from')), (2, .inl (nI to)), (3, .inr (.inl (lN T)))]) ⟨ni_inc, rfl, rfl, rfl, rfl, rfl, rfl, rfl, rfl, rfl, trivial⟩ ?_
          refine ih (i + 1) g3 A3 s3 (by omega) a1 a2 a3 a4 a5 (fun g4 A4 s4 hs4 c1 c2 c3 c4 => kont g4 A4 s4 ?_ c1 c2 c3 c4)
          rw [hs4, hs3, e1, List.foldl_append]
        have noM : ¬ (Ai 4 (12 * l + i) = nI from' ∧ lN T ≤ Fo i) → ∀ lv : pz_L, pz_all lv [(11, .inl (nI i)), (10, .inl 1), (8, .inr (.inl (dy T r))), (7, .inl (nI l)), (6, .inl (b01 s.1)), (5, .inl (b01 first)), (0, .inr (.inr (some (mo)))), (1, .inl (nI from')), (2, .inl (nI to)), (3, .inr (.inl (lN T)))] → pz_Z X 16 104 lv [] gk 0 0 := by
          intro h lv hlv
          refine pz_lsub hlv ?_
          refine bX10_goOn_104 hX _ _ _ _ _ ?_
          refine bX10_goOn_105 hX _ _ _ _ _ ?_
          have hs : s = (if Ai 4 (12 * l + i) = nI from' ∧ lN T ≤ Fo i then mg_j Ai to T l r i Fi Fo (i + 1) (cn l - (i + 1)) else []).foldl (mg_st tau first) s := by rw [if_neg h]; rfl
          refine pz_lsub (lv' := [(13, .inl (nI (i + 1))), (12, .inl 0), (11, .inl (nI i)), (10, .inl 1), (8, .inr (.inl (dy T r))), (7, .inl (nI l)), (6, .inl (b01 s.1)), (5, .inl (b01 first)), (0, .inr (.inr (some (mo)))), (1, .inl (nI from')), (2, .inl (nI to)), (3, .inr (.inl (lN T)))]) ⟨ni_inc, rfl, rfl, rfl, rfl, rfl, rfl, rfl, rfl, rfl, rfl, rfl, trivial⟩ ?_
          refine bX10_goOn_113 hX _ _ _ _ _ ⟨_, _, _, hmk.1, rfl, _, _, _, h3, hli, fun _ => ?_, fun _ => ?_⟩
          · exact nx gk A s _ hs hS hmk hag hf hb ⟨rfl, rfl, rfl, rfl, rfl, rfl, rfl, rfl, rfl, rfl, trivial⟩
          · refine bX10_goOn_125 hX _ _ _ _ _ ⟨fun _ => ?_, fun q => absurd rfl q⟩
            exact nx gk A s _ hs hS hmk hag hf hb ⟨rfl, rfl, rfl, rfl, rfl, rfl, rfl, rfl, rfl, rfl, trivial⟩
        refine bX10_goOn_54 hX _ _ _ _ _ ⟨_, _, _, hmk.1, rfl, _, _, _, h3, hli, ?_⟩
        rw [hlc, hc3]
        refine ⟨fun q => absurd ((ni_le (by omega) (by omega)).mp q) (by omega), fun _ => ?_⟩
        refine bX10_goOn_66 hX _ _ _ _ _ ⟨fun q => absurd q (by decide), fun _ => ?_⟩
        refine bX10_goOn_71 hX _ _ _ _ _ ⟨_, _, _, hmk.1, rfl, _, _, _, h4, by rw [ix_12]; exact ni_in (by omega) (by omega), ?_⟩
        rw [ix_12, ni_cl (j := 12 * l + i) (by omega)]
        refine ⟨fun q => ?_, fun q => ?_⟩
        · exact noM (fun z => q z.1) _ ⟨rfl, rfl, rfl, rfl, rfl, rfl, rfl, rfl, rfl, rfl, trivial⟩
        · refine bX10_goOn_88 hX _ _ _ _ _ ⟨_, _, _, hmk.1, rfl, _, _, _, h30, hii, ?_⟩
          rw [hic, (hf i (by omega)).2]
          refine ⟨fun q2 => ?_, fun q2 => ?_⟩
          · exact noM (fun z => absurd z.2 (Int64.not_le.mpr ((lc_lt _ _).mp q2))) _ ⟨rfl, rfl, rfl, rfl, rfl, rfl, rfl, rfl, rfl, rfl, trivial⟩
          · have hle := Int64.not_lt.mp (fun z => q2 ((lc_lt _ _).mpr z))
            refine bX10_goOn_100 hX _ _ _ _ _ ?_
            refine bX10_goOn_105 hX _ _ _ _ _ ?_
            refine pz_lsub (lv' := [(13, .inl (nI (i + 1))), (12, .inl 1), (11, .inl (nI i)), (10, .inl 1), (8, .inr (.inl (dy T r))), (7, .inl (nI l)), (6, .inl (b01 s.1)), (5, .inl (b01 first)), (0, .inr (.inr (some (mo)))), (1, .inl (nI from')), (2, .inl (nI to)), (3, .inr (.inl (lN T)))]) ⟨ni_inc, rfl, rfl, rfl, rfl, rfl, rfl, rfl, rfl, rfl, rfl, rfl, trivial⟩ ?_
            refine loopJ l r i Fi Fo hl (by omega) (cn l - (i + 1)) (i + 1) gk A s (by omega) hS hmk hag hf hb (fun g3 A3 s3 hs3 a1 a2 a3 a4 a5 => ?_)
            exact nx g3 A3 s3 _ (by rw [hs3, if_pos ⟨q, hle⟩]) a1 a2 a3 a4 a5 ⟨rfl, rfl, rfl, rfl, rfl, rfl, rfl, rfl, rfl, rfl, trivial⟩
    -- days
    have loopD : ∀ (l : Nat), l < nl → ∀ (m r : Nat) (gk : pz_H) (A : Nat → Nat → Int64) (s : Bool × (Nat → Int64)), r + m = 13 → hg moL g gk → moS gk mo M I Ai A → agJ [29, 30, 33, 34] Aj A → (∀ k, k < 6 → A 33 k = s.2 k) → (∀ (g2 : pz_H) (A2 : Nat → Nat → Int64) (s2 : Bool × (Nat → Int64)), s2 = (mg_d Ai Aj ne nz nw cn from' to T l r m).foldl (mg_st tau first) s → hg moL g g2 → moS g2 mo M I Ai A2 → agJ [29, 30, 33, 34] Aj A2 → (∀ k, k < 6 → A2 33 k = s2.2 k) → pz_Z X 16 337 [(7, .inl (nI l)), (6, .inl (b01 s2.1)), (5, .inl (b01 first)), (0, .inr (.inr (some (mo)))), (1, .inl (nI from')), (2, .inl (nI to)), (3, .inr (.inl (lN T)))] [] g2 0 0) → pz_Z X 16 26 [(8, .inr (.inl (dy T r))), (7, .inl (nI l)), (6, .inl (b01 s.1)), (5, .inl (b01 first)), (0, .inr (.inr (some (mo)))), (1, .inl (nI from')), (2, .inl (nI to)), (3, .inr (.inl (lN T)))] [] gk 0 0 := by
      intro l hl m
      obtain ⟨hc3, hc12, hcp⟩ := hcn l hl
      have hli : vp_in (nI l) 40 := ni_in (by omega) (by omega)
      have hlc : (nI l).toNatClampNeg = l := ni_cl (by omega)
      induction m with
      | zero =>
        intro r gk A s hr hS hmk hag hb kont
        obtain rfl : r = 13 := by omega
        refine bX10_goOn_26 hX _ _ _ _ _ ⟨by decide, fun _ => ?_, fun q => absurd ((dy_gt hT (Nat.le_refl _)).mpr (Nat.le_refl _)) q⟩
        exact pz_lsub (by exact ⟨rfl, rfl, rfl, rfl, rfl, rfl, rfl, trivial⟩) (kont gk A s rfl hS hmk hag hb)
      | succ m ih =>
        intro r gk A s hr hS hmk hag hb kont
        have e1 : mg_d Ai Aj ne nz nw cn from' to T l r (m + 1) = (if mr_run Ai Aj ne l (dy T r) = 1 then mg_i Ai cn from' to T l r (fun k => mt_t Ai Aj nz nw l (dy T r) k false) (fun k => mt_t Ai Aj nz nw l (dy T r) k true) 0 (cn l) else []) ++ mg_d Ai Aj ne nz nw cn from' to T l (r + 1) m := rfl
        refine bX10_goOn_26 hX _ _ _ _ _ ⟨by decide, fun q => absurd ((dy_gt hT (by omega)).mp q) (by omega), fun _ => ?_⟩
        refine bX10_goOn_41 hX _ _ _ _ _ ?_
        refine bX10_goOn_46 hX hrm hGX hOk ((l, dy T r), (ne, nz, nw, cn l), (mo, M, I, Ai, A)) (by decide) _ _ _ _ _ ⟨Nat.le_of_ble_eq_true rfl, ⟨mo, [.inl (nI l), .inr (.inl (dy T r))], [100], _, rfl, hmk.1⟩, Nat.le_of_ble_eq_true rfl, Nat.le_of_ble_eq_true rfl, Nat.le_of_ble_eq_true rfl, ⟨rfl, by omega, hne, hne100, h01, hnz, hnz100, hnw, hnw100, hc3, hc12, hmk⟩, ?_⟩
        rintro v g2 ⟨rfl, hS2, fi, fo, hm2, hft⟩ y hy hy01
        cases hy
        rw [mr_ag hag (by decide)] at hft hy01 ⊢
        have hag2 : agJ [29, 30, 33, 34] Aj (seqJ (seqJ A 29 fi) 30 fo) := agJ_sq (agJ_sq hag (by decide)) (by decide)
        have hb2 : ∀ k, k < 6 → seqJ (seqJ A 29 fi) 30 fo 33 k = s.2 k := hb
        have nx : ∀ (g3 : pz_H) (A3 : Nat → Nat → Int64) (s3 : Bool × (Nat → Int64)) (lv : pz_L), s3 = (if mr_run Ai Aj ne l (dy T r) = 1 then mg_i Ai cn from' to T l r (fun k => mt_t Ai Aj nz nw l (dy T r) k false) (fun k => mt_t Ai Aj nz nw l (dy T r) k true) 0 (cn l) else []).foldl (mg_st tau first) s → hg moL g g3 → moS g3 mo M I Ai A3 → agJ [29, 30, 33, 34] Aj A3 → (∀ k, k < 6 → A3 33 k = s3.2 k) → pz_all lv [(8, .inr (.inl (dy T r))), (7, .inl (nI l)), (6, .inl (b01 s3.1)), (5, .inl (b01 first)), (0, .inr (.inr (some (mo)))), (1, .inl (nI from')), (2, .inl (nI to)), (3, .inr (.inl (lN T)))] → pz_Z X 16 328 lv [] g3 0 0 := by
          intro g3 A3 s3 lv hs3 a1 a2 a3 a4 hlv
          refine pz_lsub hlv ?_
          refine bX10_goOn_328 hX _ _ _ _ _ ?_
          refine pz_lsub (lv' := [(8, .inr (.inl (dy T (r + 1)))), (7, .inl (nI l)), (6, .inl (b01 s3.1)), (5, .inl (b01 first)), (0, .inr (.inr (some (mo)))), (1, .inl (nI from')), (2, .inl (nI to)), (3, .inr (.inl (lN T)))]) ⟨dy_inc, rfl, rfl, rfl, rfl, rfl, rfl, rfl, trivial⟩ ?_
          refine ih (r + 1) g3 A3 s3 (by omega) a1 a2 a3 a4 (fun g4 A4 s4 hs4 c1 c2 c3 c4 => kont g4 A4 s4 ?_ c1 c2 c3 c4)
          rw [hs4, hs3, e1, List.foldl_append]
        rcases hy01 with hz | hz
        · rw [hz]
          have h3 : g2 (M 3) = some ([101, 3], ar_i 40 (Ai 3)) := hm2.2.1 3 (by decide)
          have hs : s = (if mr_run Ai Aj ne l (dy T r) = 1 then mg_i Ai cn from' to T l r (fun k => mt_t Ai Aj nz nw l (dy T r) k false) (fun k => mt_t Ai Aj nz nw l (dy T r) k true) 0 (cn l) else []).foldl (mg_st tau first) s := by rw [hz, if_neg (by decide)]; rfl
          refine bX10_goOn_54 hX _ _ _ _ _ ⟨_, _, _, hm2.1, rfl, _, _, _, h3, hli, fun _ => ?_, fun _ => ?_⟩
          · exact nx g2 _ s _ hs (hg_tr hS hS2) hm2 hag2 hb2 ⟨rfl, rfl, rfl, rfl, rfl, rfl, rfl, rfl, trivial⟩
          · refine bX10_goOn_66 hX _ _ _ _ _ ⟨fun _ => ?_, fun q => absurd rfl q⟩
            exact nx g2 _ s _ hs (hg_tr hS hS2) hm2 hag2 hb2 ⟨rfl, rfl, rfl, rfl, rfl, rfl, rfl, rfl, trivial⟩
        · rw [hz]
          refine pz_lsub (lv' := [(11, .inl (nI 0)), (10, .inl 1), (8, .inr (.inl (dy T r))), (7, .inl (nI l)), (6, .inl (b01 s.1)), (5, .inl (b01 first)), (0, .inr (.inr (some (mo)))), (1, .inl (nI from')), (2, .inl (nI to)), (3, .inr (.inl (lN T)))]) ⟨rfl, rfl, rfl, rfl, rfl, rfl, rfl, rfl, rfl, rfl, trivial⟩ ?_
          refine loopI l r (fun k => mt_t Ai Aj nz nw l (dy T r) k false) (fun k => mt_t Ai Aj nz nw l (dy T r) k true) hl (cn l) 0 g2 _ s (by omega) (hg_tr hS hS2) hm2 hag2 (fun k hk => ?_) hb2 (fun g3 A3 s3 hs3 a1 a2 a3 a4 => nx g3 A3 s3 _ ?_ a1 a2 a3 a4 ⟨rfl, rfl, rfl, rfl, rfl, rfl, rfl, rfl, trivial⟩)
          · have := hft hz k hk
            rw [mt_ag hag (by decide), mt_ag hag (by decide)] at this
            exact this
          · rw [hs3, hz, if_pos rfl]
    -- told
    have loopT : ∀ (s : Bool × (Nat → Int64)) (m k : Nat) (gk : pz_H) (A : Nat → Nat → Int64), s = mg_s Ai Aj ne nz nw cn from' to T nl tau first b0 → k + m = 6 → hg moL g gk → moS gk mo M I Ai A → agJ [29, 30, 32, 33, 34] Aj A → (∀ k, k < 6 → A 33 k = s.2 k) → (∀ j, j < k → A 32 j = s.2 j) → pz_Z X 16 346 [(7, .inl (nI k)), (6, .inl (b01 s.1)), (0, .inr (.inr (some (mo))))] [] gk 0 0 := by
      intro s m
      induction m with
      | zero =>
        intro k gk A hs hk hS hmk hag hb ht
        obtain rfl : k = 6 := by omega
        refine bX10_goOn_346 hX _ _ _ _ _ ⟨fun _ => ?_, fun q => absurd (show (6 : Int32) ≤ nI 6 by decide) q⟩
        exact bX10_goOn_373 hX hR _ _ _ _ _ ⟨b01_01 _, Nat.le_refl _, Nat.le_refl _, by rw [hs], hS, A, hmk, hag, fun k hk => by rw [← hs]; exact ⟨ht k hk, hb k hk⟩⟩
      | succ m ih =>
        intro k gk A hs hk hS hmk hag hb ht
        have hkc : (nI k).toNatClampNeg = k := ni_cl (by omega)
        have hki : vp_in (nI k) 6 := ni_in (by omega) (by omega)
        refine bX10_goOn_346 hX _ _ _ _ _ ⟨fun q => absurd ((ni_le (a := 6) (by omega) (by omega)).mp q) (by omega), fun _ => ?_⟩
        refine bX10_goOn_353 hX _ _ _ _ _ ⟨_, _, _, hmk.1, rfl, _, _, _, hmk.1, rfl, _, _, _, hmk.2.2.2 33 (by decide), hki, _, _, _, hmk.2.2.2 32 (by decide), hki, ?_⟩
        rw [hkc, hb k (by omega)]
        obtain ⟨m8, S8⟩ := mo_j hmk 32 (by decide) (vp_updL (A 32) k (s.2 k))
        refine pz_lsub (lv' := [(7, .inl (nI (k + 1))), (6, .inl (b01 s.1)), (0, .inr (.inr (some (mo))))]) ⟨ni_inc, rfl, rfl, trivial⟩ ?_
        refine ih (k + 1) _ _ hs (by omega) (hg_tr hS S8) m8 (agJ_sq hag (by decide)) hb (fun n hn => ?_)
        rw [seqJ_at]
        by_cases e : n = k
        · subst e; exact pk_uLs
        · rw [pk_uLn e]; exact ht n (by omega)
    -- lines
    have loopL : ∀ (m l : Nat) (gk : pz_H) (A : Nat → Nat → Int64) (s : Bool × (Nat → Int64)), l + m = nl → hg moL g gk → moS gk mo M I Ai A → agJ [29, 30, 33, 34] Aj A → (∀ k, k < 6 → A 33 k = s.2 k) → mg_s Ai Aj ne nz nw cn from' to T nl tau first b0 = (mg_l Ai Aj ne nz nw cn from' to T l m).foldl (mg_st tau first) s → pz_Z X 16 6 [(7, .inl (nI l)), (6, .inl (b01 s.1)), (5, .inl (b01 first)), (0, .inr (.inr (some (mo)))), (1, .inl (nI from')), (2, .inl (nI to)), (3, .inr (.inl (lN T)))] [] gk 0 0 := by
      intro m
      induction m with
      | zero =>
        intro l gk A s hl hS hmk hag hb hE
        obtain rfl : l = nl := by omega
        refine bX10_goOn_6 hX _ _ _ _ _ ⟨_, _, _, hmk.1, rfl, fun _ => ?_, fun q => absurd (by rw [hnl]; exact Int32.le_refl _) q⟩
        refine bX10_goOn_343 hX _ _ _ _ _ ?_
        refine pz_lsub (lv' := [(7, .inl (nI 0)), (6, .inl (b01 s.1)), (0, .inr (.inr (some (mo))))]) ⟨rfl, rfl, rfl, trivial⟩ ?_
        exact loopT s 6 0 gk A hE.symm (by omega) hS hmk (agJ_mono hag (by decide)) hb (fun j hj => absurd hj (Nat.not_lt_zero j))
      | succ m ih =>
        intro l gk A s hl hS hmk hag hb hE
        refine bX10_goOn_6 hX _ _ _ _ _ ⟨_, _, _, hmk.1, rfl, fun q => absurd ((ni_le (by omega) (by omega)).mp (hnl ▸ q)) (by omega), fun _ => ?_⟩
        refine bX10_goOn_15 hX _ _ _ _ _ ⟨by decide, ?_⟩
        refine pz_lsub (lv' := [(8, .inr (.inl (dy T 0))), (7, .inl (nI l)), (6, .inl (b01 s.1)), (5, .inl (b01 first)), (0, .inr (.inr (some (mo)))), (1, .inl (nI from')), (2, .inl (nI to)), (3, .inr (.inl (lN T)))]) ⟨dy_ini, rfl, rfl, rfl, rfl, rfl, rfl, rfl, trivial⟩ ?_
        refine loopD l (by omega) 13 0 gk A s (by omega) hS hmk hag hb (fun g2 A2 s2 hs2 a1 a2 a3 a4 => ?_)
        refine bX10_goOn_337 hX _ _ _ _ _ ?_
        refine pz_lsub (lv' := [(7, .inl (nI (l + 1))), (6, .inl (b01 s2.1)), (5, .inl (b01 first)), (0, .inr (.inr (some (mo)))), (1, .inl (nI from')), (2, .inl (nI to)), (3, .inr (.inl (lN T)))]) ⟨ni_inc, rfl, rfl, rfl, rfl, rfl, rfl, trivial⟩ ?_
        refine ih (l + 1) g2 A2 s2 (by omega) a1 a2 a3 a4 ?_
        rw [hE, hs2, ← List.foldl_append]
        rfl
    refine bX10_goOn_0 hX _ _ _ _ _ ?_
    refine pz_lsub (lv' := [(7, .inl (nI 0)), (6, .inl (b01 false)), (5, .inl (b01 first)), (0, .inr (.inr (some (mo)))), (1, .inl (nI from')), (2, .inl (nI to)), (3, .inr (.inl (lN T)))]) ⟨rfl, rfl, rfl, rfl, rfl, rfl, rfl, trivial⟩ ?_
    exact loopL nl 0 g Aj (false, b0) (by omega) hg_rf hm agJ_rf (fun k hk => (htb k hk).2) rfl
