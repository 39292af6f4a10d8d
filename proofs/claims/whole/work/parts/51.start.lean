section START
variable {p : Program} {l : Launch} {e : Env} {R : Room} {s : State} {m : MethodId} {args : Array Value} {below : List Frame} {meth : Method} {c : Code} {H : Heap} {locs : List Loc} {cells slots : Nat} {Q : State → Prop}
variable {cc : ByteArray} {pc : Nat} {ls : Array Slot} {rest : List Value} {D : va_G} {A : Nat → Prop} {tys : tyL}
variable {nL maxL index n mc ms k : Nat} {own : String} {Ts ws : List Cond} {y : MethodName} {bytes : ByteArray} {ret0 : Option FieldType} {b : Addr} {As st0 : List Value} {wc wR : va_W}
/-- a constructor's call: its object first -/
theorem ci_p {S : Type} {post : S → Prop} {w1 : S → va_W} {n1 : Nat} (hlen : ∀ u, (w1 u).length = n1) (Sx : CallFix p m c cc nL s args Ts own) (hM : CV l y ws k mc ms (.ref b :: As) D tys wc post w1) (cw : CallB R s args own index y bytes maxL none ws (rK k mc ms) mc ms n ∧ y.name = "<init>" ∧ (Cond.instanceMethod y).before args s = true)
    (hK : va_K D vwCl tys s) (hNW : NW s) (hP : va_P D vwCl (wc ++ wR) H) (hD : va_D A (wc ++ wR)) (hS : va_S A s.heap H locs) (hA : ∀ q, s.heap.size ≤ q → A q)
    (hn : As.length = n) (hsize : ls.size = nL) (hstack : st0 = As.reverse ++ .ref b :: rest) (hW : (rest.map fun v => v.category).sum ≤ 8) (hdg : decode cc pc = .ok (.invokespecial index, 3)) (hf : cells + mc ≤ R.cells ∧ slots + ms ≤ R.slots)
    (kk : ∀ (u : S) (H1 : Heap) (locs1 : List Loc), post u → va_P D vwCl (w1 u ++ wR) H1 → va_D A (w1 u ++ wR) → va_S A s.heap H1 locs1 → W p l e R s m args below meth c H1 locs1 (cells + mc) (slots + ms) Q (F0 m (pc + 3) ls rest)) : W p l e R s m args below meth c H locs cells slots Q (F0 m pc ls st0) :=
  ci_v (isC := List.range wc.length) (isR := (List.range wR.length).map (fun i => wc.length + i)) (isN := ((List.range n1).map (fun i => wR.length + i)) ++ List.range wR.length) (wr := wR) (wn := fun u => w1 u ++ wR) Sx hM cw hK hNW hP hD hS hA (ix_l _ _) (ix_r _ _) (nd_of _ List.nodup_range) (nd_of _ (nd_r _ _)) (nd_dis _ _) (fun u => by rw [← hlen u]; exact ix_s _ _) (nd_of _ (nd_s _ _)) hn hsize hstack hW hdg hf kk
end START
/-- the script's k-th int, or 0 -/
def cxA (xs : Nat → Int32) (N k : Nat) : Int := (if k < N then xs k else 0).toInt
theorem cxA_b (xs : Nat → Int32) (N k : Nat) : -2147483648 ≤ cxA xs N k ∧ cxA xs N k < 2147483648 := ib_of _
set_option maxRecDepth 100000 in
set_option maxHeartbeats 1000000 in
theorem c_L_cell {l : Launch} {b N : Nat} {xs : Nat → Int32} (k : Nat) (hk : k < 3) (hN : N ≤ 2051) : Met l yL_cell wsL_cell (rK 0 0 0) (va_Pc [.ref b, .int (iI (k : Int))] (fun U => va_X b N xs U U.heap ∧ b < U.heap.size)) (va_Qi (fun r (_ : Unit) => r = iI (cxA xs N k)) (fun _ _ => True) (fun _ => False)) 0 0 (fun _ => False) := by
  refine Met_ofWF (cc := cL_cell) (maxL := 2) (ret := some .int) (plainFor_of_name (by decide)) rfl ?_
  intro p e s m args below meth c s₁ B hml hv
  obtain ⟨rfl, hX, hbl⟩ := hv
  have hx := B.exec
  have hb := B.bytes
  have hr := B.returns
  have hlocks := B.notSynchronized
  have hl := lv_entry ([.ref b, .int (iI (k : Int))]) (n := 2) (Nat.le_of_ble_eq_true rfl)
  rw [lg_entry_eq]
  generalize (lg_sl ([.ref b, .int (iI (k : Int))]) ++ List.replicate (2 - (lg_sl ([.ref b, .int (iI (k : Int))])).length) Slot.unset).toArray = ls at hl ⊢
  have hl : lv_has ls 2 [(0, .ref b), (1, .int (iI (k : Int)))] := hl
  have hS : va_S (fun _ => False) s.heap s.heap [] := va_S.rf
  refine lv_iload_n hx hb dL_cell_0 rfl (lv_at hl 1 rfl) ?_
  refine lv_aload_n hx hb dL_cell_1 rfl (lv_at hl 0 rfl) ?_
  refine va_slen hx hb hX hbl (fun h => h) hS dL_cell_2 ?_
  rw [iI_len]
  refine li_icmp_ge (tgt := 12) hx hb dL_cell_3 (by decide) (ib_i (by omega) (by omega)) (ib_i (by omega) (by omega)) (fun c_3 => ?_) (fun c_3 => ?_)
  · refine li_const hx hb dL_cell_12 ?_
    have e1 : iI 0 = iI (cxA xs N k) := by unfold cxA; rw [if_neg (by omega)]; rfl
    exact W.iret hx hb hr (fun t ht hW => ⟨⟨_, (), rfl, e1, trivial⟩, hS.F ht⟩) hS.2.2 dL_cell_13 (hlocks := hlocks)
  · refine lv_aload_n hx hb dL_cell_6 rfl (lv_at hl 0 rfl) ?_
    refine lv_iload_n hx hb dL_cell_7 rfl (lv_at hl 1 rfl) ?_
    refine va_sld hx hb hX hbl (fun h => h) hS (bz_in (by omega) c_3 (ib_i (by omega) (by omega))) dL_cell_8 ?_
    refine lv_goto (tgt := 13) hx hb dL_cell_9 (by decide) ?_
    have e1 : xs (iI (k : Int)).toNatClampNeg = iI (cxA xs N k) := by
      rw [iI_cl (by omega) (ib_i (by omega) (by omega))]
      unfold cxA
      rw [iI_of, if_pos (by omega), Int.toNat_natCast]
    exact W.iret hx hb hr (fun t ht hW => ⟨⟨_, (), rfl, e1, trivial⟩, hS.F ht⟩) hS.2.2 dL_cell_13 (hlocks := hlocks)
section START2
variable {p : Program} {l : Launch} {e : Env} {s : State} {m : MethodId} {args : Array Value} {below : List Frame} {meth : Method} {c : Code} {H : Heap} {locs : List Loc} {cells slots : Nat} {Q : State → Prop} {ls : Array Slot} {rest : List Value} {D : va_G} {A : Nat → Prop} {w : va_W} {b N : Nat} {xs : Nat → Int32}
/-- the law calls cell -/
theorem li_cell {pc : Nat} (k : Nat) (hk : k < 3) (hN : N ≤ 2051) (hx : p.tables.exec = Jvm.exec) (hb : c.code = cL_law) (hml : c.maxLocals = 9) (hown : s.vm.findClass RL = some m.cls) (hts : ∀ w ∈ wsL_law, w.before args s = true) (hX : va_X b N xs s s.heap) (hbl : b < s.heap.size) (hbA : ¬ A b) (hP : va_P D vwCl w H) (hS : va_S A s.heap H locs) (hsize : ls.size = 9) (hW : (rest.map fun v => v.category).sum ≤ 8) (hdg : decode cL_law pc = .ok (.invokestatic 77, 3)) (hf : cells ≤ room_1.cells ∧ slots ≤ room_1.slots)
    (kk : ∀ (H1 : Heap) (locs1 : List Loc), va_P D vwCl w H1 → va_S A s.heap H1 locs1 → W p l e room_1 s m args below meth c H1 locs1 cells slots Q (F0 m (pc + 3) ls (.int (iI (cxA xs N k)) :: rest))) : W p l e room_1 s m args below meth c H locs cells slots Q (F0 m pc ls (.int (iI (k : Int)) :: .ref b :: rest)) := by
  have hq : H[b]? = s.heap[b]? := hS.2.1 b hbl hbA
  have hbl2 : b < H.size := Nat.lt_of_lt_of_le hbl hS.1
  refine va_calli (S := Unit) (va_runS (As := [.ref b, .int (iI (k : Int))]) (rest := rest) ⟨hx, hb, hml, hown, hts⟩ (c_L_cell (b := b) (N := N) (xs := xs) k hk hN) (va_cwS 2 hts gL_law_L_cell rfl rfl rfl (by decide +kernel) ⟨Nat.le_of_ble_eq_true rfl, Nat.le_of_ble_eq_true rfl⟩) ⟨fun a U g mk q => ⟨q.1, va_X.moved (u := U) (U := U.calling g mk a) (Vm.Alike.refl U.vm) q.2.1, q.2.2⟩, fun U hU hW => ⟨rfl, by rw [hU]; exact (hX.kept hq).moved hW.alike, by rw [hU]; exact hbl2⟩⟩ rfl rfl hsize rfl (lv_room hW) hdg hf) hS (fun q _ h => h.elim) (fun q h => h.elim) (fun r u t H1 locs1 ht hvm hw hB hz1 hk1 hS1 => ?_)
  subst hw
  exact kk H1 locs1 (hP.kept (fun j q hj => hk1 q.1 (hP j q hj).lt (fun h => h))) hS1
end START2
theorem wq_g {α : Type} (s1 l1 g1 f1 r1 w1 l2 g2 f2 r2 w2 md ou : List α) : ((md ++ (s1 ++ l1 ++ g1 ++ f1 ++ r1 ++ w1 ++ l2 ++ g2 ++ f2 ++ r2 ++ w2)) ++ ou).Perm ((((s1 ++ l1 ++ w1 ++ g1 ++ f1 ++ r1) ++ (l2 ++ w2 ++ g2 ++ f2 ++ r2)) ++ ou) ++ md) := by
  classical
  exact List.perm_iff_count.mpr (fun q => by simp only [List.count_append]; omega)
theorem wq_i (s1 l1 g1 f1 r1 w1 l2 g2 f2 r2 w2 md ou : va_W) : ((md ++ (s1 ++ l1 ++ g1 ++ f1 ++ r1 ++ w1 ++ l2 ++ g2 ++ f2 ++ r2 ++ w2)) ++ ou).Perm ((((s1 ++ l1 ++ w1 ++ g1 ++ f1 ++ r1) ++ (l2 ++ w2 ++ g2 ++ f2 ++ r2)) ++ ou) ++ md) := wq_g s1 l1 g1 f1 r1 w1 l2 g2 f2 r2 w2 md ou
/-- the start keeps what stays true -/
theorem LI_0 {n L a : Int} (hn : 1 ≤ n ∧ n ≤ 6) (hL : 5 ≤ L ∧ L ≤ 40) (ha : 1 ≤ a ∧ a ≤ 50) : LI n L a (20 * a, 0, 0, fun _ => 0) (fun _ => 0) (fun _ => 0) 0 (fun _ => 0) (fun _ => 0) (fun _ => 0) (-1, -1, 0, -1) (-1, -1, 0, -1) 0 0 0 (fun _ => 0) (fun _ => 0) := by
  have hri : RI (-1, -1, 0, -1) := by unfold RI; decide
  refine ⟨hn, hL, ha, ⟨⟨?_, Int.le_refl _⟩, fun q h0 h1 => ⟨Int.le_refl _, ?_⟩⟩, fun _ => Or.inl rfl, fun _ _ => rfl, fun _ => ⟨Int.le_refl _, (by show (0 : Int) ≤ 5; decide)⟩, fun _ _ => rfl, ⟨Int.le_refl _, by decide⟩, fun _ => ⟨Int.le_refl _, (by show (0 : Int) ≤ 60; decide)⟩, fun _ => ⟨Int.le_refl _, (by show (0 : Int) ≤ 60; decide)⟩, fun _ => ⟨Int.le_refl _, ?_⟩, fun g h0 h1 h2 => ?_, fun x h0 h1 => ?_, ?_, ⟨hri, rfl, ⟨Int.le_refl _, by decide⟩, fun i h0 h1 => absurd h0 (by omega)⟩, hri⟩
  · show -1000 ≤ 20 * a; omega
  · show (0 : Int) ≤ L; omega
  · show (0 : Int) ≤ n + 1; omega
  · exact absurd h2 (by unfold isO; simp)
  · show sumZ (lenP (fun _ => 0) (fun _ => 0) x) (0 : Int).toNat ≤ 60
    rw [sumZ_0]; decide
  · show 20 * a + 0 + sumZ (fun _ => 0) n.toNat + 0 - 0 = 20 * a
    have h9 := sumZ_b (f := fun _ => 0) (lo := 0) (hi := 0) (fun _ => ⟨Int.le_refl _, Int.le_refl _⟩) n.toNat
    omega
set_option maxRecDepth 100000 in
set_option maxHeartbeats 1000000 in
/-- the tables' classes -/
theorem K_0 {s : State} {A : Array Value} (hts : ∀ w ∈ wsL_law, w.before A s = true) (hts0 : ∀ w ∈ lw_tbl, w.before A s = true) : ∃ (D : va_G) (cI cZ cJ : ClassId), va_K D vwCl (ty3 cI cZ cJ) s := by
  have arr : ∀ ty : FieldType, (∀ C, ty ≠ .object C) → (Cond.arrayClass ty).before A s = true → ∃ cA, ArrOfT s cA ty ∧ va_RA s cA ty := by
    intro ty hty h
    obtain ⟨cA, kA, comp, h1, h2, h3⟩ := Cond.arrayClass_spec h
    refine ⟨cA, fun n z => ⟨fun k h => (by cases h), kA, h2, comp, h3⟩, ?_⟩
    cases ty <;> first | exact absurd rfl (hty _) | exact h1
  obtain ⟨c0, i0, k0⟩ := u_known (C := RX0) (T := TX0) (N := 4) (n := 4) hts0 inX0 (hts0 (.instantiable RX0 4) (by decide +kernel))
  obtain ⟨c1, i1, k1⟩ := u_known (C := RX1) (T := TX1) (N := 2) (n := 2) hts0 inX1 (hts0 (.instantiable RX1 2) (by decide +kernel))
  obtain ⟨c2, i2, k2⟩ := u_known (C := RX2) (T := TX2) (N := 4) (n := 4) hts0 inX2 (hts0 (.instantiable RX2 4) (by decide +kernel))
  obtain ⟨c3, i3, k3⟩ := u_known (C := RX3) (T := TX3) (N := 4) (n := 4) hts0 inX3 (hts0 (.instantiable RX3 4) (by decide +kernel))
  obtain ⟨c4, i4, k4⟩ := u_known (C := RX4) (T := TX4) (N := 8) (n := 8) hts0 inX4 (hts0 (.instantiable RX4 8) (by decide +kernel))
  obtain ⟨c5, i5, k5⟩ := u_known (C := RX5) (T := TX5) (N := 2) (n := 2) hts0 inX5 (hts0 (.instantiable RX5 2) (by decide +kernel))
  obtain ⟨c6, i6, k6⟩ := u_known (C := RX6) (T := TX6) (N := 11) (n := 11) hts0 inX6 (hts0 (.instantiable RX6 11) (by decide +kernel))
  obtain ⟨cI, aI, rI⟩ := arr .int (fun _ h => nomatch h) (hts0 (.arrayClass .int) (by decide +kernel))
  obtain ⟨cZ, aZ1, rZ⟩ := arr .boolean (fun _ h => nomatch h) (hts0 (.arrayClass .boolean) (by decide +kernel))
  obtain ⟨cJ, aJ, rJ⟩ := arr .long (fun _ h => nomatch h) (hts0 (.arrayClass .long) (by decide +kernel))
  refine ⟨(fun k => match k with | 0 => c0 | 1 => c1 | 2 => c2 | 3 => c3 | 4 => c4 | 5 => c5 | _ => c6, fun k => match k with | 0 => i0 | 1 => i1 | 2 => i2 | 3 => i3 | 4 => i4 | 5 => i5 | _ => i6), cI, cZ, cJ, ?_, ?_⟩
  · intro k q hq
    match k, hq with
    | 0, hq => cases hq; exact k0
    | 1, hq => cases hq; exact k1
    | 2, hq => cases hq; exact k2
    | 3, hq => cases hq; exact k3
    | 4, hq => cases hq; exact k4
    | 5, hq => cases hq; exact k5
    | 6, hq => cases hq; exact k6
    | k + 7, hq => simp [vwCl] at hq
  · intro k q hq
    match k, hq with
    | 0, hq => cases hq; exact ⟨aI, rI⟩
    | 1, hq => cases hq; exact ⟨aZ1, rZ⟩
    | 2, hq => cases hq; exact ⟨aJ, rJ⟩
    | k + 3, hq => simp [ty3] at hq
set_option maxRecDepth 100000 in
set_option maxHeartbeats 1000000 in
/-- what a throw needs, at the start -/
theorem XP_0 {s : State} {b : Nat} (hts0 : ∀ w ∈ lw_tbl, w.before #[Value.ref b] s = true) (hgv : (Jvm.Cond.and given_1 narrow_1).before #[Value.ref b] s = true) {D : va_G} {tys : tyL} (hK : va_K D vwCl tys s) : XP (fun q : Nat => s.heap.size ≤ q) s s.heap ∧ NC s := by
  have hs := flat_of_before _ hgv
  have hA : ∀ a : Nat, a < s.heap.size → ¬ s.heap.size ≤ a := fun a h => Nat.not_le.mpr h
  refine ⟨⟨TW.of hts0, fun q hq => ?_, ?_, ?_⟩, ?_, ?_, ?_⟩
  · have h1 : (Cond.stringRef RX5 q.1 q.2).before #[Value.ref b] s = true := hts0 _ ((show ∀ q ∈ stL, Cond.stringRef RX5 q.1 q.2 ∈ lw_tbl by decide +kernel) q hq)
    obtain ⟨k, cf, i, a, -, -, -, -, -, hev⟩ := Cond.stringRef_spec (hK.1 5 _ rfl).2.1 h1
    exact ⟨a, vk_R.of h1 hev⟩
  · exact vx_Zqof (hts0 _ (by decide +kernel)) (hts0 (.initialized "java/lang/Throwable") (by decide +kernel)) (hs (.isRef (.static Bundle.tN "UNASSIGNED_STACK" Bundle.steD)) (by decide +kernel)) hA
  · exact vx_Zqof (hts0 _ (by decide +kernel)) (hts0 (.initialized "java/lang/Throwable") (by decide +kernel)) (hs (.isRef (.static Bundle.tN "SUPPRESSED_SENTINEL" Bundle.listD)) (by decide +kernel)) hA
  · exact va_Nc.of (hs (.not (.castable "java/lang/IllegalArgumentException" "java/lang/IndexOutOfBoundsException")) (by decide +kernel))
  · exact va_Nc.of (hs (.not (.castable "java/lang/IllegalStateException" "java/lang/IndexOutOfBoundsException")) (by decide +kernel))
  · exact va_Nc.of (hs (.not (.castable "java/lang/IllegalStateException" "java/lang/IllegalArgumentException")) (by decide +kernel))
/-- the addresses of the law's world -/
def adF (S0 O0 M0 : Nat) (u v : Nat → Nat) : Nat → Nat := fun k => [S0, u 0, u 2, u 3, u 4, u 5, u 6, u 7, u 8, u 9, u 10, u 11, u 1, u 12, u 13, u 14, u 15, u 16, u 17, u 18, u 19, u 20, u 21, O0, M0, v 0, v 1, v 2, v 3].getD k 0
set_option maxRecDepth 100000 in
set_option maxHeartbeats 2000000 in
/-- YOUR PART: from the entry, for every script of at most 2051 ints, the law comes to its end with true -/
theorem whole_start {p : Program} {e : Env} {s : State} {m : MethodId} {below : List Frame} {meth : Method} {c : Code} (l : Launch) (hflags : l.flags = flags0) {b L : Nat} {xs : Nat → Int32} (hL : L ≤ 2051) (C0 : lw_At p s m meth c b L xs) : W p l e room_1 s m #[Value.ref b] below meth c s.heap [] 0 0 (lw_Z below #[Value.ref b] s) (entryFrame m ([Value.ref b] : List Value).toArray 9) := by
  obtain ⟨hx, hb, hr, hml, hown, hts0, hX, hbl, hlocks, hgv⟩ := id C0
  have hl0 : l.stackTraces = false := by unfold Launch.stackTraces; rw [hflags]; decide +kernel
  have hts : ∀ w ∈ wsL_law, w.before #[Value.ref b] s = true := fun w h => hts0 w (wsL_law_in w h)
  have hb : c.code = cL_law := hb
  have hown : s.vm.findClass RL = some m.cls := hown
  obtain ⟨D, cI, cZ, cJ, hK⟩ := K_0 hts hts0
  obtain ⟨hXP, hNC⟩ := XP_0 hts0 hgv hK
  have hNW : NW s := NW.of hts0
  have hA : ∀ q : Nat, s.heap.size ≤ q → (fun q : Nat => s.heap.size ≤ q) q := fun _ h => h
  have hbA : ¬ (fun q : Nat => s.heap.size ≤ q) b := Nat.not_le.mpr hbl
  have hS : va_S (fun q : Nat => s.heap.size ≤ q) s.heap s.heap [] := va_S.rf
  have hP : va_P D vwCl [] s.heap := fun k q h => by simp at h
  have hD : va_D (fun q : Nat => s.heap.size ≤ q) [] := ⟨fun i j p q h => by simp at h, fun k q h => by simp at h⟩
  have hF : LFx p s m c b L xs D (ty3 cI cZ cJ) (fun q : Nat => s.heap.size ≤ q) := ⟨hx, hb, hml, hts, hown, hX, hbl, hbA, hA, hK, hNW, hXP, hNC⟩
  have b_0 := cxA_b xs L 0
  have b_1 := cxA_b xs L 1
  have b_2 := cxA_b xs L 2
  have hl := lv_entry ([.ref b]) (n := 9) (Nat.le_of_ble_eq_true rfl)
  rw [lg_entry_eq]
  generalize (lg_sl ([.ref b]) ++ List.replicate (9 - (lg_sl ([.ref b])).length) Slot.unset).toArray = ls at hl ⊢
  have hl : lv_has ls 9 [(0, .ref b)] := hl
  refine va_new (C := RX5) (T := TX5) (N := 2) (ci := 5) (fs := [.null, .null]) hx hb hts0 inX5 tyX5 tyX5_ok hown (hts0 (.classLink RL 8 RX5) (by decide +kernel)) (hts0 (.instantiable RX5 2) (by decide +kernel)) (hts0 (.initialized RX5) (by decide +kernel)) hK hP hD hS hA rfl (by intro j hj; rcases j with _ | _ | j <;> first | rfl | (exfalso; omega)) (Nat.le_of_ble_eq_true rfl) (Nat.le_of_ble_eq_true rfl) dL_law_0 (fun S0 H hP hD hS => ?_)
  have hP : va_P D vwCl [(S0, .inr (5, [.null, .null]))] H := hP
  have hD : va_D (fun q : Nat => s.heap.size ≤ q) [(S0, .inr (5, [.null, .null]))] := hD
  refine lv_dup hx hb dL_law_3 rfl ?_
  refine lv_aload_n hx hb dL_law_4 rfl (lv_at hl 0 rfl) ?_
  refine li_const hx hb dL_law_5 ?_
  refine li_cell 0 (by decide) hL hx hb hml hown hts hX hbl hbA hP hS hl.1 (Nat.le_of_ble_eq_true rfl) dL_law_6 ⟨Nat.le_of_ble_eq_true rfl, Nat.le_of_ble_eq_true rfl⟩ (fun H locs hP hS => ?_)
  refine lv_aload_n hx hb dL_law_9 rfl (lv_at hl 0 rfl) ?_
  refine li_const hx hb dL_law_10 ?_
  refine li_cell 1 (by decide) hL hx hb hml hown hts hX hbl hbA hP hS hl.1 (Nat.le_of_ble_eq_true rfl) dL_law_11 ⟨Nat.le_of_ble_eq_true rfl, Nat.le_of_ble_eq_true rfl⟩ (fun H locs hP hS => ?_)
  refine lv_aload_n hx hb dL_law_14 rfl (lv_at hl 0 rfl) ?_
  refine li_const hx hb dL_law_15 ?_
  refine li_cell 2 (by decide) hL hx hb hml hown hts hX hbl hbA hP hS hl.1 (Nat.le_of_ble_eq_true rfl) dL_law_16 ⟨Nat.le_of_ble_eq_true rfl, Nat.le_of_ble_eq_true rfl⟩ (fun H locs hP hS => ?_)
  refine ci_p (S := Nat → Nat) (n1 := 23) (wR := []) (As := [.int (iI (cxA xs L 0)), .int (iI (cxA xs L 1)), .int (iI (cxA xs L 2))]) (rest := [.ref S0]) (fun _ => rfl) ⟨hx, hb, hml, hown, hts⟩ (c_X5_init S0 (cxA xs L 0) (cxA xs L 1) (cxA xs L 2) b_0 b_1 b_2) (cwI 3 hts gL_law_X5_init rfl rfl rfl (hts0 (.initialized RX5) (by decide +kernel)) (hts0 (.methodLink RL 83 yX5_init) (by decide +kernel)) (hts0 (.instanceMethod yX5_init) (by decide +kernel)) rfl (by decide +kernel) ⟨Nat.le_of_ble_eq_true rfl, Nat.le_of_ble_eq_true rfl⟩) hK hNW hP hD hS hA rfl hl.1 rfl (Nat.le_of_ble_eq_true rfl) dL_law_19 ⟨Nat.le_of_ble_eq_true rfl, Nat.le_of_ble_eq_true rfl⟩ (fun u H locs _ hP hD hS => ?_)
  refine lv_astore_n (lv' := [(1, .ref S0), (0, .ref b)]) hx hb dL_law_22 rfl hl (by decide) rfl (fun ls hl => ?_)
  refine va_new (C := RX6) (T := TX6) (N := 11) (ci := 6) (fs := [.int (iI 0), .int (iI 0), .int (iI 0), .int (iI 0), .int (iI 0), .null, .null, .null, .null, .int (iI 0), .int (iI 0)]) hx hb hts0 inX6 tyX6 tyX6_ok hown (hts0 (.classLink RL 86 RX6) (by decide +kernel)) (hts0 (.instantiable RX6 11) (by decide +kernel)) (hts0 (.initialized RX6) (by decide +kernel)) hK hP hD hS hA rfl (by intro j hj; rcases j with _ | _ | _ | _ | _ | _ | _ | _ | _ | _ | _ | j <;> first | exact congrArg Value.int iI_0.symm | rfl | (exfalso; omega)) (Nat.le_of_ble_eq_true rfl) (Nat.le_of_ble_eq_true rfl) dL_law_23 (fun M0 H hP hD hS => ?_)
  rw [List.append_nil] at hP hD
  have hP := wp_perm (wq_c _ _) hP
  have hD := wd_perm (wq_c _ _) hD
  refine lv_dup hx hb dL_law_26 rfl ?_
  refine lv_aload_n hx hb dL_law_27 rfl (lv_at hl 1 rfl) ?_
  refine li_const hx hb dL_law_28 ?_
  refine li_cell 0 (by decide) hL hx hb hml hown hts hX hbl hbA hP hS hl.1 (Nat.le_of_ble_eq_true rfl) dL_law_29 ⟨Nat.le_of_ble_eq_true rfl, Nat.le_of_ble_eq_true rfl⟩ (fun H locs hP hS => ?_)
  refine lv_aload_n hx hb dL_law_32 rfl (lv_at hl 1 rfl) ?_
  refine li_const hx hb dL_law_33 ?_
  refine li_cell 1 (by decide) hL hx hb hml hown hts hX hbl hbA hP hS hl.1 (Nat.le_of_ble_eq_true rfl) dL_law_34 ⟨Nat.le_of_ble_eq_true rfl, Nat.le_of_ble_eq_true rfl⟩ (fun H locs hP hS => ?_)
  refine lv_aload_n hx hb dL_law_37 rfl (lv_at hl 1 rfl) ?_
  refine li_const hx hb dL_law_38 ?_
  refine li_cell 2 (by decide) hL hx hb hml hown hts hX hbl hbA hP hS hl.1 (Nat.le_of_ble_eq_true rfl) dL_law_39 ⟨Nat.le_of_ble_eq_true rfl, Nat.le_of_ble_eq_true rfl⟩ (fun H locs hP hS => ?_)
  refine ci_p (S := Nat → Nat) (n1 := 5) (As := [.int (iI (cxA xs L 0)), .int (iI (cxA xs L 1)), .int (iI (cxA xs L 2))]) (rest := [.ref M0]) (fun _ => rfl) ⟨hx, hb, hml, hown, hts⟩ (c_X6_init M0 (cxA xs L 0) (cxA xs L 1) (cxA xs L 2) b_0 b_1 b_2) (cwI 3 hts gL_law_X6_init rfl rfl rfl (hts0 (.initialized RX6) (by decide +kernel)) (hts0 (.methodLink RL 88 yX6_init) (by decide +kernel)) (hts0 (.instanceMethod yX6_init) (by decide +kernel)) rfl (by decide +kernel) ⟨Nat.le_of_ble_eq_true rfl, Nat.le_of_ble_eq_true rfl⟩) hK hNW hP hD hS hA rfl hl.1 rfl (Nat.le_of_ble_eq_true rfl) dL_law_42 ⟨Nat.le_of_ble_eq_true rfl, Nat.le_of_ble_eq_true rfl⟩ (fun v H locs _ hP hD hS => ?_)
  refine lv_astore_n (lv' := [(2, .ref M0), (1, .ref S0), (0, .ref b)]) hx hb dL_law_45 rfl hl (by decide) rfl (fun ls hl => ?_)
  refine li_const hx hb dL_law_46 ?_
  refine li_newa (atype := .long) (ty := .long) 2 (a0 := (1, .inr (.inl fun _ => 0))) (N' := 1) hx hb (hts0 (.arrayClass .long) (by decide +kernel)) rfl (fun _ h => nomatch h) rfl hK hP hD hS hA (fun cA => zl_cell cA _) (by decide +kernel) (by decide +kernel) (show 8 ≤ 536870912 by omega) (Nat.le_of_ble_eq_true rfl) (Nat.le_of_ble_eq_true rfl) dL_law_47 (fun O0 H hP hD hS => ?_)
  refine lv_astore_n (lv' := [(3, .ref O0), (2, .ref M0), (1, .ref S0), (0, .ref b)]) hx hb dL_law_49 rfl hl (by decide) rfl (fun ls hl => ?_)
  refine li_const hx hb dL_law_50 ?_
  refine lv_istore (lv' := [(4, .int (iI 3)), (3, .ref O0), (2, .ref M0), (1, .ref S0), (0, .ref b)]) hx hb dL_law_51 hl (by decide) rfl (fun ls hl => ?_)
  have hP := wp_perm (wq_i _ _ _ _ _ _ _ _ _ _ _ _ _) hP
  have hD := wd_perm (wq_i _ _ _ _ _ _ _ _ _ _ _ _ _) hD
  refine W.widen (k := 29) (n := 278) (Nat.le_of_ble_eq_true rfl) (Nat.le_of_ble_eq_true rfl) ?_
  exact law_loop (n := wiA (cxA xs L 0) 1 6) (L := wiA (cxA xs L 1) 5 40) (a := wiA (cxA xs L 2) 1 50) (ad := adF S0 O0 M0 u v) hl0 hr hlocks hF hL 600 3 (by decide) (by decide) (by omega) 29 278 (by decide) (by decide) (20 * (wiA (cxA xs L 2) 1 50), 0, 0, fun _ => 0) (fun _ => 0) (fun _ => 0) 0 (fun _ => 0) (fun _ => 0) (fun _ => 0) (-1, -1, 0, -1) (20 * (wiA (cxA xs L 2) 1 50), 0, 0, fun _ => 0) 0 (fun _ => 0) (fun _ => 0) 0 (fun _ => 0) (fun _ => 0) (fun _ => 0) (-1, -1, 0, -1) 0 0 0 0 (fun _ => 0) (fun _ => 0) (fun _ => 0) (fun _ => 0) (LI_0 (wiA_b (by decide)) (wiA_b (by decide)) (wiA_b (by decide))) s.drawn (Drawn.sameBut.refl s.drawn lw_cs) H _ _ hP hD hS (lv_sub hl [4, 3, 2, 1, 0] rfl)
