/-! the law's entry: the facts at the start -/
theorem lw_K {s : State} {args : Array Value} (hts : ∀ w ∈ lw_tbl, w.before args s = true) : ∃ (D : va_G) (cy : Nat → ClassId), va_K D vwCl (pz_ty cy) s := by
  have hp : ∀ w ∈ pz_W, w.before args s = true := fun w hw => hts w (List.mem_filter.mp hw).1
  obtain ⟨c0, i0, k0⟩ := u_known (C := RJx00060) (T := TJx00060) (N := 6) (n := 6) hts (by decide +kernel) (hts (.instantiable RJx00060 6) (by decide +kernel))
  obtain ⟨c1, i1, k1⟩ := u_known (C := RJx4a65c) (T := TJx4a65c) (N := 3) (n := 3) hp in_Jx4a65c (hts (.instantiable RJx4a65c 3) (by decide +kernel))
  obtain ⟨c2, i2, k2⟩ := u_known (C := RX0) (T := TX0) (N := 3) (n := 3) hp in_X0 (hts (.instantiable RX0 3) (by decide +kernel))
  obtain ⟨c3, i3, k3⟩ := u_known (C := RX1) (T := TX1) (N := 4) (n := 4) hp in_X1 (hts (.instantiable RX1 4) (by decide +kernel))
  obtain ⟨c4, i4, k4⟩ := u_known (C := RX2) (T := TX2) (N := 3) (n := 3) hp in_X2 (hts (.instantiable RX2 3) (by decide +kernel))
  obtain ⟨c5, i5, k5⟩ := u_known (C := RX3) (T := TX3) (N := 11) (n := 11) hp in_X3 (hts (.instantiable RX3 11) (by decide +kernel))
  obtain ⟨c6, i6, k6⟩ := u_known (C := RX4) (T := TX4) (N := 5) (n := 5) hp in_X4 (hts (.instantiable RX4 5) (by decide +kernel))
  obtain ⟨c7, i7, k7⟩ := u_known (C := RX5) (T := TX5) (N := 3) (n := 3) hp in_X5 (hts (.instantiable RX5 3) (by decide +kernel))
  obtain ⟨c8, i8, k8⟩ := u_known (C := RX6) (T := TX6) (N := 6) (n := 6) hp in_X6 (hts (.instantiable RX6 6) (by decide +kernel))
  obtain ⟨c9, i9, k9⟩ := u_known (C := RX7) (T := TX7) (N := 2) (n := 2) hp in_X7 (hts (.instantiable RX7 2) (by decide +kernel))
  obtain ⟨c10, i10, k10⟩ := u_known (C := RX8) (T := TX8) (N := 3) (n := 3) hp in_X8 (hts (.instantiable RX8 3) (by decide +kernel))
  obtain ⟨c11, i11, k11⟩ := u_known (C := RX9) (T := TX9) (N := 7) (n := 7) hp in_X9 (hts (.instantiable RX9 7) (by decide +kernel))
  obtain ⟨c12, i12, k12⟩ := u_known (C := RX10) (T := TX10) (N := 37) (n := 37) hp in_X10 (hts (.instantiable RX10 37) (by decide +kernel))
  obtain ⟨a0, q0, m0, e0, f0, g0⟩ := Cond.arrayClass_spec (hts (.arrayClass .int) (by decide +kernel))
  obtain ⟨a1, q1, m1, e1, f1, g1⟩ := Cond.arrayClass_spec (hts (.arrayClass .long) (by decide +kernel))
  obtain ⟨a2, q2, m2, e2, f2, g2⟩ := Cond.arrayClass_spec (hts (.arrayClass .boolean) (by decide +kernel))
  obtain ⟨a3, q3, m3, e3, f3, g3⟩ := Cond.arrayClass_spec (hts (.arrayClass .char) (by decide +kernel))
  obtain ⟨m4, a4, q4, d4, -, f4, g4, e4⟩ := Cond.arrayOver_spec (hts (.arrayOver (.object "LineTimes$Place")) (by decide +kernel))
  obtain ⟨m5, a5, q5, d5, -, f5, g5, e5⟩ := Cond.arrayOver_spec (hts (.arrayOver (.object "java/lang/Object")) (by decide +kernel))
  obtain ⟨m6, a6, q6, d6, -, f6, g6, e6⟩ := arrayOverA_spec (hts (.arrayOver (.array .int)) (by decide +kernel))
  refine ⟨(fun k => [c0, c1, c2, c3, c4, c5, c6, c7, c8, c9, c10, c11, c12].getD k c0, fun k => [i0, i1, i2, i3, i4, i5, i6, i7, i8, i9, i10, i11, i12].getD k i0), fun k => [a0, a1, a2, a3, a4, a5, a6].getD k a0, fun k q hq => ?_, fun k q hq => ?_⟩
  · match k, hq with
    | 0, hq => cases hq; exact k0
    | 1, hq => cases hq; exact k1
    | 2, hq => cases hq; exact k2
    | 3, hq => cases hq; exact k3
    | 4, hq => cases hq; exact k4
    | 5, hq => cases hq; exact k5
    | 6, hq => cases hq; exact k6
    | 7, hq => cases hq; exact k7
    | 8, hq => cases hq; exact k8
    | 9, hq => cases hq; exact k9
    | 10, hq => cases hq; exact k10
    | 11, hq => cases hq; exact k11
    | 12, hq => cases hq; exact k12
    | k + 13, hq => simp [vwCl] at hq
  · match k, hq with
    | 0, hq => cases hq; exact ⟨fun n z => ⟨fun k h => (by cases h), q0, f0, m0, g0⟩, e0⟩
    | 1, hq => cases hq; exact ⟨fun n z => ⟨fun k h => (by cases h), q1, f1, m1, g1⟩, e1⟩
    | 2, hq => cases hq; exact ⟨fun n z => ⟨fun k h => (by cases h), q2, f2, m2, g2⟩, e2⟩
    | 3, hq => cases hq; exact ⟨fun n z => ⟨fun k h => (by cases h), q3, f3, m3, g3⟩, e3⟩
    | 4, hq => cases hq; exact ⟨fun n z => ⟨fun k h => (by cases h), q4, f4, m4, g4⟩, ⟨q4, m4, f4, g4, d4, e4⟩⟩
    | 5, hq => cases hq; exact ⟨fun n z => ⟨fun k h => (by cases h), q5, f5, m5, g5⟩, ⟨q5, m5, f5, g5, d5, e5⟩⟩
    | 6, hq => cases hq; exact ⟨fun n z => ⟨fun k h => (by cases h), q6, f6, m6, g6⟩, e6⟩
    | k + 7, hq => simp [pz_ty] at hq
theorem lw_strR {s : State} {args : Array Value} {k : Nat} {tx : String} (h1 : (Cond.stringRef RX9 k tx).before args s = true) (h2 : (Cond.exactly (.string RX9 k) "java/lang/String").before args s = true) : ∃ a, vk_R RX9 k tx a s := by
  obtain ⟨a, c, cell, k', he, -⟩ := Cond.exactly_spec h2
  exact ⟨a, vk_R.of h1 he⟩
theorem lw_Xof {s : State} {b L : Nat} {xs : Nat → Int32} (h : va_X b L xs s s.heap) (hbl : b < s.heap.size) : va_T .int b L (fun j => .int (xs j)) (fun q => s.heap.size ≤ q) s s.heap := by
  obtain ⟨scr, h1, h2, h3, h4, h5⟩ := h
  exact ⟨scr, h1, h2, h3, by omega, by rw [h4], h5, fun q => absurd hbl (by omega)⟩
theorem lw_Fw5 {s : State} {args : Array Value} (hts : ∀ w ∈ lw_tbl, w.before args s = true) : va_Fw RJx4a65c ⟨"java/util/List", "size", "()I"⟩ yJx4a65c_size_8abf5 s ∧ va_Fw RJx4a65c ⟨"java/util/List", "get", "(I)Ljava/lang/Object;"⟩ yJx4a65c_get_915e3 s ∧ va_Fw RJx4a65c ⟨"java/util/List", "add", "(Ljava/lang/Object;)Z"⟩ yJx4a65c_add_9ea2d s ∧ va_Fw RJx4a65c ⟨"java/util/List", "clear", "()V"⟩ yJx4a65c_clear_da8c8 s ∧ va_Fw RJx4a65c ⟨"java/util/List", "isEmpty", "()Z"⟩ yJx4a65c_isEmpty_aae02 s := ⟨va_Fw.of (hts _ (by decide +kernel)) (hts _ (by decide +kernel)) (hts _ (by decide +kernel)) (hts _ (by decide +kernel)) (hts _ (by decide +kernel)), va_Fw.of (hts _ (by decide +kernel)) (hts _ (by decide +kernel)) (hts _ (by decide +kernel)) (hts _ (by decide +kernel)) (hts _ (by decide +kernel)), va_Fw.of (hts _ (by decide +kernel)) (hts _ (by decide +kernel)) (hts _ (by decide +kernel)) (hts _ (by decide +kernel)) (hts _ (by decide +kernel)), va_Fw.of (hts _ (by decide +kernel)) (hts _ (by decide +kernel)) (hts _ (by decide +kernel)) (hts _ (by decide +kernel)) (hts _ (by decide +kernel)), va_Fw.of (hts _ (by decide +kernel)) (hts _ (by decide +kernel)) (hts _ (by decide +kernel)) (hts _ (by decide +kernel)) (hts _ (by decide +kernel))⟩
set_option maxRecDepth 100000 in
theorem lw_facts {s : State} {args : Array Value} {l : Launch} {b L : Nat} {xs : Nat → Int32} (hst : l.stackTraces = false) (hts : ∀ w ∈ lw_tbl, w.before args s = true) (hX : va_X b L xs s s.heap) (hbl : b < s.heap.size) (hgv : (Jvm.Cond.and given_1 narrow_1).before args s = true) : ∃ sa md mi, lw_En l sa md mi b L xs (fun q => s.heap.size ≤ q) s s.heap := by
  have hs := flat_of_before _ hgv
  have hA : ∀ a : Nat, a < s.heap.size → ¬ (fun q => s.heap.size ≤ q) a := fun a h q => absurd h (Nat.not_lt.mpr q)
  obtain ⟨sa, ha1, ha2⟩ := va_Tof (tm := .static "java/util/ArrayList" "DEFAULTCAPACITY_EMPTY_ELEMENTDATA" "[Ljava/lang/Object;") (ty := .object "java/lang/Object") (N := 0) (f := fun _ => .null) (A := fun q => s.heap.size ≤ q) (by decide) (hs _ (by decide +kernel)) (va_eqt (hs _ (by decide +kernel))) (fun j hj => absurd hj (Nat.not_lt_zero j)) hA
  obtain ⟨md, hd1, hd2⟩ := va_Tof (tm := .static "LineTimes" "MONTH_DAYS" "[I") (ty := .int) (N := 12) (f := fun i => .int (mdF i)) (A := fun q => s.heap.size ≤ q) (by decide) (hs _ (by decide +kernel)) (va_eqt (hs _ (by decide +kernel))) (fun j hj => by
    match j, hj with
    | 0, _ => exact va_eqt (hs _ (by decide +kernel))
    | 1, _ => exact va_eqt (hs _ (by decide +kernel))
    | 2, _ => exact va_eqt (hs _ (by decide +kernel))
    | 3, _ => exact va_eqt (hs _ (by decide +kernel))
    | 4, _ => exact va_eqt (hs _ (by decide +kernel))
    | 5, _ => exact va_eqt (hs _ (by decide +kernel))
    | 6, _ => exact va_eqt (hs _ (by decide +kernel))
    | 7, _ => exact va_eqt (hs _ (by decide +kernel))
    | 8, _ => exact va_eqt (hs _ (by decide +kernel))
    | 9, _ => exact va_eqt (hs _ (by decide +kernel))
    | 10, _ => exact va_eqt (hs _ (by decide +kernel))
    | 11, _ => exact va_eqt (hs _ (by decide +kernel))
    | j + 12, hj => omega) hA
  obtain ⟨mi, hmi⟩ := va_Mi.of (C := "[Ljava/lang/Object;") (hs _ (by decide +kernel))
  refine ⟨sa, md, mi, lw_Fw5 hts, ⟨hts (.arrayOver (.array .int)) (by decide +kernel), va_AO.of (hts _ (by decide +kernel)), va_AO.of (hts _ (by decide +kernel)), va_Zof (hts _ (by decide +kernel)) (hts _ (by decide +kernel)) ha1 hA, va_Zof (hts _ (by decide +kernel)) (hts _ (by decide +kernel)) hd1 hA, ⟨ha2, hd2⟩, va_Nw.of rfl (hts _ (by decide +kernel)), va_Nw.of rfl (hts _ (by decide +kernel)), va_Nw.of rfl (hts _ (by decide +kernel)), va_Nw.of rfl (hts _ (by decide +kernel)), hmi, va_Dc.of (hts _ (by decide +kernel)), va_Nw.of rfl (hts _ (by decide +kernel))⟩, ⟨hst, fun w hw => va_Nw.of (bw_ot w hw) (hts w ((by decide +kernel : ∀ w ∈ bwA, w ∈ lw_tbl) w hw)), lw_strR (hts _ (by decide +kernel)) (hs _ (by decide +kernel)), lw_strR (hts _ (by decide +kernel)) (hs _ (by decide +kernel)), lw_strR (hts _ (by decide +kernel)) (hs _ (by decide +kernel)), lw_strR (hts _ (by decide +kernel)) (hs _ (by decide +kernel)), vx_Zqof (hts _ (by decide +kernel)) (hts _ (by decide +kernel)) (hs _ (by decide +kernel)) hA, vx_Zqof (hts _ (by decide +kernel)) (hts _ (by decide +kernel)) (hs _ (by decide +kernel)) hA⟩, ⟨fun E hE => va_Nw.of rfl (hts (.castable E E) ((by decide +kernel : ∀ E ∈ [nIOB, nIAE, nUOE, nAIO], Cond.castable E E ∈ lw_tbl) E hE)), va_Nc.of (hs _ (by decide +kernel)), va_Nc.of (hs _ (by decide +kernel)), va_Nc.of (hs _ (by decide +kernel))⟩, lw_Xof hX hbl⟩
