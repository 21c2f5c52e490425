/-! the law's entry: what the Statement gives -/
theorem va_AOA.moved {t : FieldType} {u U : State} (hvm : u.vm.Alike U.vm) (h : va_AOA t u) : va_AOA t U := by
  obtain ⟨comp, c, k, h1, h2, h3, h4, h5⟩ := arrayOverA_spec h
  obtain ⟨k', hk', he⟩ := hvm.2.2 _ _ h3
  have hi : (U.vm.classes.findIdx? fun (x : Class) => match x.kind with | .array component _ => component == comp | _ => false) = some c := by
    refine Eq.trans (va_idx_bare U.vm comp).symm ?_
    first | rw [hvm.bare_eq] | rw [← hvm.bare_eq]
    exact (va_idx_bare u.vm comp).trans h2
  have hkind : k'.kind = .array comp (.array t) := by rw [he]; exact h4
  have f1 : U.vm.findClass (FieldType.array t).toString = some comp := by rw [hvm.findClass]; exact h1
  have f2 : U.vm.findClass ("[" ++ (FieldType.array t).toString) = some c := by rw [hvm.findClass]; exact h5
  unfold va_AOA Cond.before Cond.holds
  simp only [Cond.value]
  rw [f1, Option.bind_some]
  refine (congrArg (fun o : Option Nat => (o.bind (fun c => (U.vm.classes[c]?).map fun (k : Class) => match k.kind with | .array _ ty => decide (ty = FieldType.array t) && decide (U.vm.findClass ("[" ++ (FieldType.array t).toString) = some c) | _ => false) == some true)) hi).trans ?_
  simp [hk', hkind, f2]
theorem va_Nw.face {w : Cond} (ho : w.onTables = true) (hk : w.keepsFace = true) {s U : State} (hW : s.WarmedH U.vm) (h : va_Nw w s) : va_Nw w U := va_tabs ho (rfl : (s.setVm U.vm).vm = U.vm) (Cond.before_shiftedFace (State.Shifted.of_warmed hW) w hk h)
theorem bw_face : ∀ w ∈ bwA, w.keepsFace = true := by decide +kernel
def lw_En (l : Launch) (sa md mi bS LS : Nat) (xs : Nat → Int32) : (Nat → Prop) → State → Heap → Prop := fun B U J => (va_Fw RJx4a65c ⟨"java/util/List", "size", "()I"⟩ yJx4a65c_size_8abf5 U ∧ va_Fw RJx4a65c ⟨"java/util/List", "get", "(I)Ljava/lang/Object;"⟩ yJx4a65c_get_915e3 U ∧ va_Fw RJx4a65c ⟨"java/util/List", "add", "(Ljava/lang/Object;)Z"⟩ yJx4a65c_add_9ea2d U ∧ va_Fw RJx4a65c ⟨"java/util/List", "clear", "()V"⟩ yJx4a65c_clear_da8c8 U ∧ va_Fw RJx4a65c ⟨"java/util/List", "isEmpty", "()Z"⟩ yJx4a65c_isEmpty_aae02 U) ∧ pz_Ex sa md mi B U J ∧ pz_Ey l B U J ∧ pz_Ez U ∧ va_T .int bS LS (fun j => .int (xs j)) B U J
theorem lw_EnOk {l : Launch} {sa md mi bS LS : Nat} {xs : Nat → Int32} : pz_Ok (lw_En l sa md mi bS LS xs) := by
  rintro A B U V H K ⟨⟨f1, f2, f3, f4, f5⟩, ⟨x1, x2, x3, x4, x5, ⟨x6, x7⟩, x8, x9, x10, x11, x12, x13, x14⟩, ⟨y1, y2, ⟨a3, y3⟩, ⟨a4, y4⟩, ⟨a5, y5⟩, ⟨a6, y6⟩, y7, y8⟩, ⟨z1, z2, z3, z4⟩, t⟩ hW hAB hq
  have hv := hW.alike
  refine ⟨⟨va_Fw.moved ⟨by decide, by decide⟩ hv f1, va_Fw.moved ⟨by decide, by decide⟩ hv f2, va_Fw.moved ⟨by decide, by decide⟩ hv f3, va_Fw.moved ⟨by decide, by decide⟩ hv f4, va_Fw.moved ⟨by decide, by decide⟩ hv f5⟩, ⟨va_AOA.moved hv x1, va_AO.moved hv x2, va_AO.moved hv x3, ((x4.moved hv).kept hq).narrow hAB, ((x5.moved hv).kept hq).narrow hAB, ⟨((x6.moved hv).kept hq).narrow hAB, ((x7.moved hv).kept hq).narrow hAB⟩, va_Nw.warmM hW x8, va_Nw.warmM hW x9, va_Nw.warmM hW x10, va_Nw.warmM hW x11, va_Mi.moved hv x12, va_Dc.moved hv x13, va_Nw.warmC hW x14⟩, ⟨y1, fun w hw => va_Nw.face (bw_ot w hw) (bw_face w hw) hW (y2 w hw), ⟨a3, vk_R.warm hW y3⟩, ⟨a4, vk_R.warm hW y4⟩, ⟨a5, vk_R.warm hW y5⟩, ⟨a6, vk_R.warm hW y6⟩, ((y7.moved hv).kept hq).narrow hAB, ((y8.moved hv).kept hq).narrow hAB⟩, ⟨fun E hE => va_Nw.warmC hW (z1 E hE), va_Nc.moved hv z2, va_Nc.moved hv z3, va_Nc.moved hv z4⟩, ((t.moved hv).kept hq).narrow hAB⟩
theorem lw_O5 {l : Launch} {D : va_G} {cy : Nat → ClassId} {sa md mi bS LS : Nat} {xs : Nat → Int32} : pz_O5 (l, D, cy, lw_En l sa md mi bS LS xs) sa md mi bS LS xs := ⟨⟨⟨⟨⟨lw_EnOk, fun B U J h => h.1.1, fun B U J h => h.1.2.1, fun B U J h => h.1.2.2.1, fun B U J h => h.1.2.2.2.1, fun B U J h => h.1.2.2.2.2⟩, fun B U J h => h.2.1⟩, fun B U J h => h.2.2.1⟩, fun B U J h => h.2.2.2.1⟩, fun B U J h => h.2.2.2.2⟩
