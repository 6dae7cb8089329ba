theorem oi_in : Cond.instanceMethod objectInit ∈ WS := (WS_mem (List.mem_of_getElem? (i := 95) (by decide +kernel)) (by decide +kernel))
set_option maxRecDepth 40000 in
theorem oi_co : Cond.code objectInit ⟨#[0xb1]⟩ 1 none ∈ WS := (WS_mem (List.mem_of_getElem? (i := 96) rfl) rfl)
theorem cl_L_7 : Cond.classLink RL 7 RX6 ∈ WS := (WS_mem (List.mem_of_getElem? (i := 89) (by decide +kernel)) (by decide +kernel))
theorem nt_X6 : Cond.instantiable RX6 15 ∈ WS := (WS_mem (List.mem_of_getElem? (i := 90) (by decide +kernel)) (by decide +kernel))
theorem nz_X6 : Cond.initialized RX6 ∈ WS := (WS_mem (List.mem_of_getElem? (i := 77) (by decide +kernel)) (by decide +kernel))
theorem ol_X6 : Cond.methodLink RX6 1 objectInit ∈ WS := (WS_mem (List.mem_of_getElem? (i := 94) (by decide +kernel)) (by decide +kernel))
theorem cl_X6_7 : Cond.classLink RX6 7 RX5 ∈ WS := (WS_mem (List.mem_of_getElem? (i := 97) (by decide +kernel)) (by decide +kernel))
theorem nt_X5 : Cond.instantiable RX5 3 ∈ WS := (WS_mem (List.mem_of_getElem? (i := 98) (by decide +kernel)) (by decide +kernel))
theorem nz_X5 : Cond.initialized RX5 ∈ WS := (WS_mem (List.mem_of_getElem? (i := 78) (by decide +kernel)) (by decide +kernel))
theorem ol_X5 : Cond.methodLink RX5 3 objectInit ∈ WS := (WS_mem (List.mem_of_getElem? (i := 102) (by decide +kernel)) (by decide +kernel))
theorem cl_X6_21 : Cond.classLink RX6 21 RX4 ∈ WS := (WS_mem (List.mem_of_getElem? (i := 120) (by decide +kernel)) (by decide +kernel))
theorem nt_X4 : Cond.instantiable RX4 6 ∈ WS := (WS_mem (List.mem_of_getElem? (i := 121) (by decide +kernel)) (by decide +kernel))
theorem nz_X4 : Cond.initialized RX4 ∈ WS := (WS_mem (List.mem_of_getElem? (i := 79) (by decide +kernel)) (by decide +kernel))
theorem ol_X4 : Cond.methodLink RX4 3 objectInit ∈ WS := (WS_mem (List.mem_of_getElem? (i := 125) (by decide +kernel)) (by decide +kernel))
theorem cl_X6_31 : Cond.classLink RX6 31 RX1 ∈ WS := (WS_mem (List.mem_of_getElem? (i := 155) (by decide +kernel)) (by decide +kernel))
theorem nt_X1 : Cond.instantiable RX1 3 ∈ WS := (WS_mem (List.mem_of_getElem? (i := 156) (by decide +kernel)) (by decide +kernel))
theorem nz_X1 : Cond.initialized RX1 ∈ WS := (WS_mem (List.mem_of_getElem? (i := 80) (by decide +kernel)) (by decide +kernel))
theorem ol_X1 : Cond.methodLink RX1 3 objectInit ∈ WS := (WS_mem (List.mem_of_getElem? (i := 160) (by decide +kernel)) (by decide +kernel))
theorem cl_X6_38 : Cond.classLink RX6 38 RX2 ∈ WS := (WS_mem (List.mem_of_getElem? (i := 174) (by decide +kernel)) (by decide +kernel))
theorem nt_X2 : Cond.instantiable RX2 4 ∈ WS := (WS_mem (List.mem_of_getElem? (i := 175) (by decide +kernel)) (by decide +kernel))
theorem nz_X2 : Cond.initialized RX2 ∈ WS := (WS_mem (List.mem_of_getElem? (i := 81) (by decide +kernel)) (by decide +kernel))
theorem ol_X2 : Cond.methodLink RX2 3 objectInit ∈ WS := (WS_mem (List.mem_of_getElem? (i := 179) (by decide +kernel)) (by decide +kernel))
theorem cl_X6_45 : Cond.classLink RX6 45 RX0 ∈ WS := (WS_mem (List.mem_of_getElem? (i := 201) (by decide +kernel)) (by decide +kernel))
theorem nt_X0 : Cond.instantiable RX0 7 ∈ WS := (WS_mem (List.mem_of_getElem? (i := 202) (by decide +kernel)) (by decide +kernel))
theorem nz_X0 : Cond.initialized RX0 ∈ WS := (WS_mem (List.mem_of_getElem? (i := 82) (by decide +kernel)) (by decide +kernel))
theorem ol_X0 : Cond.methodLink RX0 3 objectInit ∈ WS := (WS_mem (List.mem_of_getElem? (i := 206) (by decide +kernel)) (by decide +kernel))
theorem cl_X6_61 : Cond.classLink RX6 61 RX3 ∈ WS := (WS_mem (List.mem_of_getElem? (i := 233) (by decide +kernel)) (by decide +kernel))
theorem nt_X3 : Cond.instantiable RX3 2 ∈ WS := (WS_mem (List.mem_of_getElem? (i := 603) (by decide +kernel)) (by decide +kernel))
theorem nz_X3 : Cond.initialized RX3 ∈ WS := (WS_mem (List.mem_of_getElem? (i := 87) (by decide +kernel)) (by decide +kernel))
theorem ol_X3 : Cond.methodLink RX3 3 objectInit ∈ WS := (WS_mem (List.mem_of_getElem? (i := 607) (by decide +kernel)) (by decide +kernel))
theorem cl_L_10 : Cond.classLink RL 10 RX7 ∈ WS := (WS_mem (List.mem_of_getElem? (i := 691) (by decide +kernel)) (by decide +kernel))
theorem nt_X7 : Cond.instantiable RX7 44 ∈ WS := (WS_mem (List.mem_of_getElem? (i := 692) (by decide +kernel)) (by decide +kernel))
theorem nz_X7 : Cond.initialized RX7 ∈ WS := (WS_mem (List.mem_of_getElem? (i := 83) (by decide +kernel)) (by decide +kernel))
theorem ol_X7 : Cond.methodLink RX7 1 objectInit ∈ WS := (WS_mem (List.mem_of_getElem? (i := 696) (by decide +kernel)) (by decide +kernel))
theorem ac_int : Cond.arrayClass .int ∈ WS := (WS_mem (List.mem_of_getElem? (i := 119) (by decide +kernel)) (by decide +kernel))
theorem ac_boolean : Cond.arrayClass .boolean ∈ WS := (WS_mem (List.mem_of_getElem? (i := 232) (by decide +kernel)) (by decide +kernel))
theorem ac_long : Cond.arrayClass .long ∈ WS := (WS_mem (List.mem_of_getElem? (i := 281) (by decide +kernel)) (by decide +kernel))
theorem mi_X0_init : Cond.instanceMethod yX0_init ∈ WS := (WS_mem (List.mem_of_getElem? (i := 204) (by decide +kernel)) (by decide +kernel))
theorem mi_X1_init : Cond.instanceMethod yX1_init ∈ WS := (WS_mem (List.mem_of_getElem? (i := 158) (by decide +kernel)) (by decide +kernel))
theorem mi_X2_init : Cond.instanceMethod yX2_init ∈ WS := (WS_mem (List.mem_of_getElem? (i := 177) (by decide +kernel)) (by decide +kernel))
theorem mi_X3_init : Cond.instanceMethod yX3_init ∈ WS := (WS_mem (List.mem_of_getElem? (i := 605) (by decide +kernel)) (by decide +kernel))
theorem mi_X4_init : Cond.instanceMethod yX4_init ∈ WS := (WS_mem (List.mem_of_getElem? (i := 123) (by decide +kernel)) (by decide +kernel))
theorem mi_X5_init : Cond.instanceMethod yX5_init ∈ WS := (WS_mem (List.mem_of_getElem? (i := 100) (by decide +kernel)) (by decide +kernel))
theorem mi_X6_init : Cond.instanceMethod yX6_init ∈ WS := (WS_mem (List.mem_of_getElem? (i := 92) (by decide +kernel)) (by decide +kernel))
theorem mi_X7_init : Cond.instanceMethod yX7_init ∈ WS := (WS_mem (List.mem_of_getElem? (i := 694) (by decide +kernel)) (by decide +kernel))
theorem ao_tb : Cond.arrayOver (.object "SwornElsewhere$Sheet") ∈ lw_tbl := List.mem_of_getElem? (i := 234) (by decide +kernel)
theorem nb_X4_init : Cond.methodLinkNest RX6 23 yX4_init "SwornElsewhere" ∈ lw_tbl := List.mem_of_getElem? (i := 122) (by decide +kernel)
theorem nb_X1_init : Cond.methodLinkNest RX6 33 yX1_init "SwornElsewhere" ∈ lw_tbl := List.mem_of_getElem? (i := 157) (by decide +kernel)
theorem nb_X2_init : Cond.methodLinkNest RX6 40 yX2_init "SwornElsewhere" ∈ lw_tbl := List.mem_of_getElem? (i := 176) (by decide +kernel)
section CTa
variable {p : Program} {l : Launch} {e : Env} {R : Room} {s : State} {m : MethodId} {args : Array Value} {below : List Frame} {meth : Method} {c : Code} {H : Heap} {locs : List Loc} {cells slots : Nat} {Q : State → Prop} {D : va_G} {ca : Nat → ClassId} {A : Nat → Prop} {H0 : Heap} {cc : ByteArray} {pc : Nat} {ls : Array Slot} {rest : List Value} {ws : va_W}

theorem TY_0 {cA : ClassId} (h : va_K D vwCl (TY ca ++ [(cA, .int)]) s) : cA = ca 0 := by
  have h1 : s.vm.findClass ("[" ++ FieldType.int.toString) = some cA := (h.2 4 _ rfl).2
  have h2 : s.vm.findClass ("[" ++ FieldType.int.toString) = some (ca 0) := (h.2 0 _ rfl).2
  exact Option.some.inj (h1.symm.trans h2)
theorem vn_int (hx : p.tables.exec = Jvm.exec) (hb : c.code = cc) (hw : ∀ w ∈ WS, w.before args s = true) (hK : va_K D vwCl (TY ca) s) (hP : va_P D vwCl ws H) (hD : va_D A ws) (hS : va_S A H0 H locs) (hA : ∀ q, H0.size ≤ q → A q) {n : Int32} {N' : Nat} (hn : ¬ n < 0) (hN : n.toNatClampNeg = N') (hbytes : N' * 4 ≤ 536870912) (hcells : cells + 1 ≤ R.cells) (hslots : slots + N' ≤ R.slots) (hdg : decode cc pc = .ok (.newarray .int, 2))
    (kk : ∀ (q : Nat) (H1 : Heap), va_P D vwCl (ws ++ [(q, .inl (ca 0, N', .inl (fun _ => i32 0)))]) H1 → va_D A (ws ++ [(q, .inl (ca 0, N', .inl (fun _ => i32 0)))]) → va_S A H0 H1 locs → W p l e R s m args below meth c H1 locs (cells + 1) (slots + N') Q (F0 m (pc + 2) ls (.ref q :: rest))) : W p l e R s m args below meth c H locs cells slots Q (F0 m pc ls (.int n :: rest)) := by
  refine va_newa (atype := .int) hx hb (hw _ ac_int) rfl hK hP hD hS hA (a0 := (N', .inl (fun _ => i32 0))) (fun cA => by rw [i32_0]; rfl) hn hN hbytes hcells hslots hdg (fun q cA H1 hK1 hP1 hD1 hS1 => ?_)
  have e := TY_0 hK1
  subst e
  exact kk q H1 hP1 hD1 hS1
theorem TY_1 {cA : ClassId} (h : va_K D vwCl (TY ca ++ [(cA, .boolean)]) s) : cA = ca 1 := by
  have h1 : s.vm.findClass ("[" ++ FieldType.boolean.toString) = some cA := (h.2 4 _ rfl).2
  have h2 : s.vm.findClass ("[" ++ FieldType.boolean.toString) = some (ca 1) := (h.2 1 _ rfl).2
  exact Option.some.inj (h1.symm.trans h2)
theorem vn_boolean (hx : p.tables.exec = Jvm.exec) (hb : c.code = cc) (hw : ∀ w ∈ WS, w.before args s = true) (hK : va_K D vwCl (TY ca) s) (hP : va_P D vwCl ws H) (hD : va_D A ws) (hS : va_S A H0 H locs) (hA : ∀ q, H0.size ≤ q → A q) {n : Int32} {N' : Nat} (hn : ¬ n < 0) (hN : n.toNatClampNeg = N') (hbytes : N' * 1 ≤ 536870912) (hcells : cells + 1 ≤ R.cells) (hslots : slots + N' ≤ R.slots) (hdg : decode cc pc = .ok (.newarray .boolean, 2))
    (kk : ∀ (q : Nat) (H1 : Heap), va_P D vwCl (ws ++ [(q, .inl (ca 1, N', .inl (fun _ => i32 0)))]) H1 → va_D A (ws ++ [(q, .inl (ca 1, N', .inl (fun _ => i32 0)))]) → va_S A H0 H1 locs → W p l e R s m args below meth c H1 locs (cells + 1) (slots + N') Q (F0 m (pc + 2) ls (.ref q :: rest))) : W p l e R s m args below meth c H locs cells slots Q (F0 m pc ls (.int n :: rest)) := by
  refine va_newa (atype := .boolean) hx hb (hw _ ac_boolean) rfl hK hP hD hS hA (a0 := (N', .inl (fun _ => i32 0))) (fun cA => by rw [i32_0]; rfl) hn hN hbytes hcells hslots hdg (fun q cA H1 hK1 hP1 hD1 hS1 => ?_)
  have e := TY_1 hK1
  subst e
  exact kk q H1 hP1 hD1 hS1
theorem TY_2 {cA : ClassId} (h : va_K D vwCl (TY ca ++ [(cA, .long)]) s) : cA = ca 2 := by
  have h1 : s.vm.findClass ("[" ++ FieldType.long.toString) = some cA := (h.2 4 _ rfl).2
  have h2 : s.vm.findClass ("[" ++ FieldType.long.toString) = some (ca 2) := (h.2 2 _ rfl).2
  exact Option.some.inj (h1.symm.trans h2)
theorem vn_long (hx : p.tables.exec = Jvm.exec) (hb : c.code = cc) (hw : ∀ w ∈ WS, w.before args s = true) (hK : va_K D vwCl (TY ca) s) (hP : va_P D vwCl ws H) (hD : va_D A ws) (hS : va_S A H0 H locs) (hA : ∀ q, H0.size ≤ q → A q) {n : Int32} {N' : Nat} (hn : ¬ n < 0) (hN : n.toNatClampNeg = N') (hbytes : N' * 8 ≤ 536870912) (hcells : cells + 1 ≤ R.cells) (hslots : slots + N' ≤ R.slots) (hdg : decode cc pc = .ok (.newarray .long, 2))
    (kk : ∀ (q : Nat) (H1 : Heap), va_P D vwCl (ws ++ [(q, .inl (ca 2, N', .inr (.inl (fun _ => i64 0))))]) H1 → va_D A (ws ++ [(q, .inl (ca 2, N', .inr (.inl (fun _ => i64 0))))]) → va_S A H0 H1 locs → W p l e R s m args below meth c H1 locs (cells + 1) (slots + N') Q (F0 m (pc + 2) ls (.ref q :: rest))) : W p l e R s m args below meth c H locs cells slots Q (F0 m pc ls (.int n :: rest)) := by
  refine va_newa (atype := .long) hx hb (hw _ ac_long) rfl hK hP hD hS hA (a0 := (N', .inr (.inl (fun _ => i64 0)))) (fun cA => by rw [i64_0]; rfl) hn hN hbytes hcells hslots hdg (fun q cA H1 hK1 hP1 hD1 hS1 => ?_)
  have e := TY_2 hK1
  subst e
  exact kk q H1 hP1 hD1 hS1
theorem TY_3 {cA : ClassId} (h : va_K D vwCl (TY ca ++ [(cA, .object "SwornElsewhere$Sheet")]) s) : cA = ca 3 := by
  obtain ⟨_, _, _, _, _, h1⟩ := (h.2 4 _ rfl).2
  obtain ⟨_, _, _, _, _, h2⟩ := (h.2 3 _ rfl).2
  exact Option.some.inj (h1.symm.trans h2)
theorem vn_ref (hx : p.tables.exec = Jvm.exec) (hb : c.code = cc) (hw : ∀ w ∈ WS, w.before args s = true) {own : String} {index : Nat} (hown : s.vm.findClass own = some m.cls) (hclink : Cond.classLink own index "SwornElsewhere$Sheet" ∈ WS) (hover : va_AO "SwornElsewhere$Sheet" s) (hK : va_K D vwCl (TY ca) s) (hP : va_P D vwCl ws H) (hD : va_D A ws) (hS : va_S A H0 H locs) (hA : ∀ q, H0.size ≤ q → A q) {n : Int32} {N' : Nat} (hn : ¬ n < 0) (hN : n.toNatClampNeg = N') (hbytes : N' * 4 ≤ 536870912) (hcells : cells + 1 ≤ R.cells) (hslots : slots + N' ≤ R.slots) (hdg : decode cc pc = .ok (.anewarray index, 3))
    (kk : ∀ (q : Nat) (H1 : Heap), va_P D vwCl (ws ++ [(q, .inl (ca 3, N', .inr (.inr (.inr (.inr (fun _ => none))))))]) H1 → va_D A (ws ++ [(q, .inl (ca 3, N', .inr (.inr (.inr (.inr (fun _ => none))))))]) → va_S A H0 H1 locs → W p l e R s m args below meth c H1 locs (cells + 1) (slots + N') Q (F0 m (pc + 3) ls (.ref q :: rest))) : W p l e R s m args below meth c H locs cells slots Q (F0 m pc ls (.int n :: rest)) := by
  refine va_newq hx hb hown (hw _ hclink) hover hK hP hD hS hA hn hN hbytes hcells hslots hdg (fun q cA H1 hK1 hP1 hD1 hS1 => ?_)
  have e := TY_3 hK1
  subst e
  exact kk q H1 hP1 hD1 hS1
theorem ct_pF {h0 ci j idx : Nat} {fs : List Value} {T : u_T} {N : Nat} {ty : Nat → FieldType} {own : String} {v : Value} (hx : p.tables.exec = Jvm.exec) (hb : c.code = cc) (hw : ∀ w ∈ WS, w.before args s = true) (hown : s.vm.findClass own = some m.cls) (hK : va_K D vwCl (TY ca) s) (hP : va_P D vwCl ((h0, .inr (ci, fs)) :: ws) H) (hD : va_D A ((h0, .inr (ci, fs)) :: ws)) (hS : va_S A H0 H locs) (fl : FL own idx ci j) (kt : KT ci T N ty) (hfin : (T j).2.2.2 = true) (hin2 : meth.name = "<init>") (hdecl : (T j).1 = own) (hn : narrow (ty j) v = v) (hfit : fits (ty j) v = true) (hl : j < fs.length) (hdg : decode cc pc = .ok (.putfield idx, 3))
    (kk : ∀ (H1 : Heap) (locs1 : List Loc), va_P D vwCl ((h0, .inr (ci, fs.set j v)) :: ws) H1 → va_D A ((h0, .inr (ci, fs.set j v)) :: ws) → va_S A H0 H1 locs1 → W p l e R s m args below meth c H1 locs1 cells slots Q (F0 m (pc + 3) ls rest)) : W p l e R s m args below meth c H locs cells slots Q (F0 m pc ls (v :: .ref h0 :: rest)) := by
  obtain ⟨C, T', N', hc, hj, hin, hlk⟩ := fl
  obtain ⟨⟨C', hc'⟩, hpt, hnm⟩ := kt
  rw [hc] at hc'
  cases hc'
  exact va_putF (D := D) (ci := ci) (ty := ty j) (v := v) hx hb hw hin ty hpt hnm hown hK hP hD hS 0 rfl hc j hj (hw _ hlk) (fun _ h => h) hfin hin2 hdecl (hpt j hj) hn hfit hl hdg kk
theorem ct_p {h0 ci j idx : Nat} {fs : List Value} {T : u_T} {N : Nat} {ty : Nat → FieldType} {own : String} {v : Value} (hx : p.tables.exec = Jvm.exec) (hb : c.code = cc) (hw : ∀ w ∈ WS, w.before args s = true) (hown : s.vm.findClass own = some m.cls) (hK : va_K D vwCl (TY ca) s) (hP : va_P D vwCl ((h0, .inr (ci, fs)) :: ws) H) (hD : va_D A ((h0, .inr (ci, fs)) :: ws)) (hS : va_S A H0 H locs) (fl : FL own idx ci j) (kt : KT ci T N ty) (hfin : (T j).2.2.2 = false) (hn : narrow (ty j) v = v) (hfit : fits (ty j) v = true) (hl : j < fs.length) (hdg : decode cc pc = .ok (.putfield idx, 3))
    (kk : ∀ (H1 : Heap) (locs1 : List Loc), va_P D vwCl ((h0, .inr (ci, fs.set j v)) :: ws) H1 → va_D A ((h0, .inr (ci, fs.set j v)) :: ws) → va_S A H0 H1 locs1 → W p l e R s m args below meth c H1 locs1 cells slots Q (F0 m (pc + 3) ls rest)) : W p l e R s m args below meth c H locs cells slots Q (F0 m pc ls (v :: .ref h0 :: rest)) := by
  obtain ⟨C, T', N', hc, hj, hin, hlk⟩ := fl
  obtain ⟨⟨C', hc'⟩, hpt, hnm⟩ := kt
  rw [hc] at hc'
  cases hc'
  exact va_put (D := D) (ci := ci) (ty := ty j) (v := v) hx hb hw hin ty hpt hnm hown hK hP hD hS 0 rfl hc j hj (hw _ hlk) (fun _ h => h) hfin (hpt j hj) hn hfit hl hdg kk
theorem ct_g {h0 ci j idx : Nat} {fs : List Value} {own : String} {v : Value} (hx : p.tables.exec = Jvm.exec) (hb : c.code = cc) (hw : ∀ w ∈ WS, w.before args s = true) (hown : s.vm.findClass own = some m.cls) (hK : va_K D vwCl (TY ca) s) (hP : va_P D vwCl ((h0, .inr (ci, fs)) :: ws) H) (fl : FL own idx ci j) (hv : fs[j]? = some v) (hdg : decode cc pc = .ok (.getfield idx, 3))
    (kk : W p l e R s m args below meth c H locs cells slots Q (F0 m (pc + 3) ls (v :: rest))) : W p l e R s m args below meth c H locs cells slots Q (F0 m pc ls (.ref h0 :: rest)) := by
  obtain ⟨C, T', N', hc, hj, hin, hlk⟩ := fl
  exact va_get (D := D) (ci := ci) (v := v) hx hb hw hin hown hK hP 0 rfl hc j hj (hw _ hlk) (fun _ h => h) hv hdg kk
theorem ct_ob {own : String} {idx a nL : Nat} (hx : p.tables.exec = Jvm.exec) (hb : c.code = cc) (hw : ∀ w ∈ WS, w.before args s = true) (hown : s.vm.findClass own = some m.cls) (hlk : Cond.methodLink own idx objectInit ∈ WS) (hml : c.maxLocals = nL) (hsz : ls.size = nL) (hd : decode cc pc = .ok (.invokespecial idx, 3)) (hf : 1 ≤ R.frames) (hlo : 12 ≤ R.locals)
    (kk : W p l e R s m args below meth c H locs cells slots Q (F0 m (pc + 3) ls [])) : W p l e R s m args below meth c H locs cells slots Q (F0 m pc ls [.ref a]) := by
  refine W.objInit (g := F0 m pc ls [.ref a]) (rest := []) hx hb hown (hw _ hlk) (hw _ oi_in) (hw _ oi_co) rfl (by rw [hml]; exact hsz) rfl hd hf hlo kk
theorem join2 {w w1 : va_W} {z : Nat × va_E} {H1 : Heap} (hP : va_P D vwCl (w ++ [z]) H) (hD : va_D A (w ++ [z])) (hk : ∀ q : Nat, q < H.size → ¬ va_A [z] H.size q → H1[q]? = H[q]?) (hF : ∀ q, va_A [z] H.size q → A q) (hP1 : va_P D vwCl w1 H1) (hD1 : va_D (va_A [z] H.size) w1) : va_P D vwCl (w ++ w1) H1 ∧ va_D A (w ++ w1) := by
  have hz : (w ++ [z])[w.length]? = some z := by simp
  have hl : ∀ (k : Nat) (q : Nat × va_E), w[k]? = some q → (w ++ [z])[k]? = some q ∧ k < w.length := by
    intro k q h
    have hk := (List.getElem?_eq_some_iff.mp h).1
    exact ⟨by rw [List.getElem?_append_left hk]; exact h, hk⟩
  have apart : ∀ (k : Nat) (q : Nat × va_E), w[k]? = some q → q.1 < H.size ∧ ¬ va_A [z] H.size q.1 := by
    intro k q h
    obtain ⟨h1, h2⟩ := hl k q h
    have hlt := (hP k q h1).lt
    refine ⟨hlt, fun g => ?_⟩
    rcases g with ⟨k2, e2, g⟩ | g
    · have hk2 : k2 = 0 := by
        have := (List.getElem?_eq_some_iff.mp g).1
        simp at this
        exact this
      subst hk2
      have hzz : z = (q.1, e2) := Option.some.inj g
      have := hD.1 k w.length q z h1 hz (by rw [hzz])
      omega
    · omega
  refine ⟨va_P.app (fun k q h => ?_) hP1, va_D.app ⟨fun i j x y hi hj hxy => hD.1 i j x y (hl i x hi).1 (hl j y hj).1 hxy, fun k q h => hD.2 k q (hl k q h).1⟩ (hD1.weaken (fun k q _ h => hF q.1 h)) (fun i j x y hx hy hxy => ?_)⟩
  · obtain ⟨g1, g2⟩ := apart k q h
    exact (hP k q (hl k q h).1).kept (hk q.1 g1 g2)
  · exact (apart i x hx).2 (by rw [hxy]; exact hD1.2 j y hy)
theorem free2 {w : va_W} {z : Nat × va_E} (hD : va_D A (w ++ [z])) (hS : va_S A H0 H locs) (hA : ∀ q, H0.size ≤ q → A q) : ∀ q, va_A [z] H.size q → A q := va_free (wc := [z]) hD hS hA [w.length] (by simp)
theorem sub2 {w : va_W} {z : Nat × va_E} (hP : va_P D vwCl (w ++ [z]) H) : va_P D vwCl [z] H := fun k q h => hP w.length q (by
  have hk := (List.getElem?_eq_some_iff.mp h).1
  have hk0 : k = 0 := by simp at hk; exact hk
  subst hk0
  rw [← h]; simp)
theorem one2 {z : Nat × va_E} {B : Nat → Prop} (h : B z.1) : va_D B [z] := by
  have key : ∀ (k : Nat) (q : Nat × va_E), ([z] : va_W)[k]? = some q → k = 0 ∧ q = z := by
    intro k q h
    have hk := (List.getElem?_eq_some_iff.mp h).1
    have hk0 : k = 0 := by simp at hk; exact hk
    subst hk0
    exact ⟨rfl, (Option.some.inj h).symm⟩
  exact ⟨fun i j x y hi hj _ => by rw [(key i x hi).1, (key j y hj).1], fun k q hq => by rw [(key k q hq).2]; exact h⟩
end CTa
def PCi (D : va_G) (ca : Nat → ClassId) (E : State → Prop) (av : List Value) (w : va_W) (sz : Nat) : Array Value → State → Prop := va_Pc av (fun U => U.heap.size = sz ∧ va_P D vwCl w U.heap ∧ va_K D vwCl (TY ca) U ∧ E U ∧ va_D (fun _ => True) w)
def QCi (D : va_G) (w' : (Nat → Nat) → va_W) (A : Nat → Prop) : Array Value → State → Outcome → State → Prop := va_Qv (fun _ : Nat → Nat => True) (fun u t => va_P D vwCl (w' u) t.heap ∧ va_D A (w' u)) A
def noE : State → Prop := fun _ => True
theorem PCi_blind {D : va_G} {ca : Nat → ClassId} {E : State → Prop} {av : List Value} {w : va_W} {sz : Nat} (hE : ∀ (U : State) (g : JFrame) (mk : MethodId) (a : Array Value), E U → E (U.calling g mk a)) : FrameBlind (PCi D ca E av w sz) := by
  intro a U g mk q
  obtain ⟨q0, q1, qP, qK, qE, qD⟩ := q
  exact ⟨q0, q1, qP, va_K.moved (u := U) (U := U.calling g mk a) (Vm.Alike.refl U.vm) qK, hE _ _ _ _ qE, qD⟩
def roomI (fr mc ms lo : Nat) : Room := { frames := fr, cells := mc, slots := ms, locals := lo }
/-- what the class's own constructor needs beside: sheets in rows, its mates' constructors -/
def NWI : List Cond := [.methodLinkNest RX6 23 yX4_init "SwornElsewhere", .methodLinkNest RX6 33 yX1_init "SwornElsewhere", .methodLinkNest RX6 40 yX2_init "SwornElsewhere"]
theorem NWI_form : ∀ w ∈ NWI, ∃ (a : String) (i : Nat) (x : MethodName) (h : String), w = .methodLinkNest a i x h := List.forall_mem_cons.mpr ⟨⟨_, _, _, _, rfl⟩, List.forall_mem_cons.mpr ⟨⟨_, _, _, _, rfl⟩, List.forall_mem_cons.mpr ⟨⟨_, _, _, _, rfl⟩, fun _ h => absurd h List.not_mem_nil⟩⟩⟩
def exE (U : State) : Prop := va_AO "SwornElsewhere$Sheet" U ∧ ∀ w ∈ NWI, va_Nw w U
theorem exE_call (U : State) (g : JFrame) (mk : MethodId) (a : Array Value) (h : exE U) : exE (U.calling g mk a) := by
  refine ⟨va_AO.moved (u := U) (U := U.calling g mk a) (Vm.Alike.refl U.vm) h.1, fun w hw => ?_⟩
  obtain ⟨b, i, x, h', rfl⟩ := NWI_form w hw
  exact va_Nw.same rfl rfl (h.2 _ hw)
theorem exE_warm {s U : State} (hW : s.WarmedH U.vm) (h : exE s) : exE U := by
  refine ⟨va_AO.moved hW.alike h.1, fun w hw => ?_⟩
  obtain ⟨b, i, x, h', rfl⟩ := NWI_form w hw
  exact va_Nw.warmM hW (h.2 _ hw)
