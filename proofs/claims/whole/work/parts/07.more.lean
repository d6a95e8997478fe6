-- the array classes that the worlds hold
abbrev xT (cI cJ cQ : ClassId) : List (ClassId × FieldType) := [(cI, .int), (cJ, .long), (cQ, .object "RasterRows$Line")]
section XN
variable {p : Program} {l : Launch} {e : Env} {R : Room} {s : State} {m : MethodId} {args : Array Value} {below : List Frame} {meth : Method} {c : Code} {H : Heap} {locs : List Loc} {cells slots : Nat} {Q : State → Prop}
variable {cc : ByteArray} {pc : Nat} {ls : Array Slot} {rest : List Value} {D : va_G} {A : Nat → Prop} {a : Nat} {ws : va_W} {H0 : Heap} {cI cJ cQ : ClassId}
theorem xi_newi (hx : p.tables.exec = Jvm.exec) (hb : c.code = cc) (harr : (Cond.arrayClass .int).before args s = true) (hK : va_K D xcl (xT cI cJ cQ) s) (hP : va_P D xcl ws H) (hD : va_D A ws) (hS : va_S A H0 H locs) (hA : ∀ q, H0.size ≤ q → A q) {z : Int} {N : Nat} (hz : z = (N : Int)) (hN : N ≤ 1000000) (hcells : cells + 1 ≤ R.cells) (hslots : slots + N ≤ R.slots) (hd : decode cc pc = .ok (.newarray .int, 2))
    (kk : ∀ (q : Nat) (H1 : Heap), va_P D xcl (ws ++ [(q, .inl (cI, N, .inl (iA (fun _ => 0))))]) H1 → va_D A (ws ++ [(q, .inl (cI, N, .inl (iA (fun _ => 0))))]) → va_S A H0 H1 locs → W p l e R s m args below meth c H1 locs (cells + 1) (slots + N) Q (F0 m (pc + 2) ls (.ref q :: rest))) : W p l e R s m args below meth c H locs cells slots Q (F0 m pc ls (.int (iI z) :: rest)) := by
  subst hz
  refine va_newa (atype := .int) (ty := .int) (a0 := (N, .inl (iA (fun _ => 0)))) hx hb harr rfl hK hP hD hS hA (fun _ => rfl) (fun q => by have := (iI_lt (a := (N : Int)) (b := 0) ⟨by omega, by omega⟩ inR_0).mp q; omega) (by rw [iI_clamp (by omega) (by omega)]; omega) (by show N * 4 ≤ _; omega) hcells hslots hd (fun q cA H1 hK2 hP2 hD2 hS2 => ?_)
  have e1 : cA = cI := Option.some.inj ((hK2.2 3 (cA, .int) rfl).2.symm.trans (hK2.2 0 (cI, .int) rfl).2)
  subst e1
  exact kk q H1 hP2 hD2 hS2
theorem xi_newl (hx : p.tables.exec = Jvm.exec) (hb : c.code = cc) (harr : (Cond.arrayClass .long).before args s = true) (hK : va_K D xcl (xT cI cJ cQ) s) (hP : va_P D xcl ws H) (hD : va_D A ws) (hS : va_S A H0 H locs) (hA : ∀ q, H0.size ≤ q → A q) {z : Int} {N : Nat} (hz : z = (N : Int)) (hN : N ≤ 1000000) (hcells : cells + 1 ≤ R.cells) (hslots : slots + N ≤ R.slots) (hd : decode cc pc = .ok (.newarray .long, 2))
    (kk : ∀ (q : Nat) (H1 : Heap), va_P D xcl (ws ++ [(q, .inl (cJ, N, .inr (.inl (fun _ => 0))))]) H1 → va_D A (ws ++ [(q, .inl (cJ, N, .inr (.inl (fun _ => 0))))]) → va_S A H0 H1 locs → W p l e R s m args below meth c H1 locs (cells + 1) (slots + N) Q (F0 m (pc + 2) ls (.ref q :: rest))) : W p l e R s m args below meth c H locs cells slots Q (F0 m pc ls (.int (iI z) :: rest)) := by
  subst hz
  refine va_newa (atype := .long) (ty := .long) (a0 := (N, .inr (.inl (fun _ => 0)))) hx hb harr rfl hK hP hD hS hA (fun _ => rfl) (fun q => by have := (iI_lt (a := (N : Int)) (b := 0) ⟨by omega, by omega⟩ inR_0).mp q; omega) (by rw [iI_clamp (by omega) (by omega)]; omega) (by show N * 8 ≤ _; omega) hcells hslots hd (fun q cA H1 hK2 hP2 hD2 hS2 => ?_)
  have e1 : cA = cJ := Option.some.inj ((hK2.2 3 (cA, .long) rfl).2.symm.trans (hK2.2 1 (cJ, .long) rfl).2)
  subst e1
  exact kk q H1 hP2 hD2 hS2
theorem xi_newq (hx : p.tables.exec = Jvm.exec) (hb : c.code = cc) {own : String} {index : Nat} (hown : s.vm.findClass own = some m.cls) (hcl : (Cond.classLink own index "RasterRows$Line").before args s = true) (hov : va_AO "RasterRows$Line" s) (hK : va_K D xcl (xT cI cJ cQ) s) (hP : va_P D xcl ws H) (hD : va_D A ws) (hS : va_S A H0 H locs) (hA : ∀ q, H0.size ≤ q → A q) {z : Int} {N : Nat} (hz : z = (N : Int)) (hN : N ≤ 1000000) (hcells : cells + 1 ≤ R.cells) (hslots : slots + N ≤ R.slots) (hd : decode cc pc = .ok (.anewarray index, 3))
    (kk : ∀ (q : Nat) (H1 : Heap), va_P D xcl (ws ++ [(q, .inl (cQ, N, .inr (.inr (.inr (.inr (fun _ => none))))))]) H1 → va_D A (ws ++ [(q, .inl (cQ, N, .inr (.inr (.inr (.inr (fun _ => none))))))]) → va_S A H0 H1 locs → W p l e R s m args below meth c H1 locs (cells + 1) (slots + N) Q (F0 m (pc + 3) ls (.ref q :: rest))) : W p l e R s m args below meth c H locs cells slots Q (F0 m pc ls (.int (iI z) :: rest)) := by
  subst hz
  refine va_newq hx hb hown hcl hov hK hP hD hS hA (fun q => by have := (iI_lt (a := (N : Int)) (b := 0) ⟨by omega, by omega⟩ inR_0).mp q; omega) (by rw [iI_clamp (by omega) (by omega)]; omega) (by omega) hcells hslots hd (fun q cA H1 hK2 hP2 hD2 hS2 => ?_)
  have e1 : cA = cQ := by
    obtain ⟨_, _, _, _, _, h1⟩ := (hK2.2 3 (cA, .object "RasterRows$Line") rfl).2
    obtain ⟨_, _, _, _, _, h2⟩ := (hK2.2 2 (cQ, .object "RasterRows$Line") rfl).2
    exact Option.some.inj (h1.symm.trans h2)
  subst e1
  exact kk q H1 hP2 hD2 hS2
theorem xi_mmax (hx : p.tables.exec = Jvm.exec) (hb : c.code = cc) (hml : c.maxLocals = ls.size) {own : String} {index : Nat} (hown : s.vm.findClass own = some m.cls) (hts : ∀ w ∈ xG, w.before args s = true) (hl : Cond.methodLink own index Lib.Math.max.name ∈ xG) (hframes : 1 ≤ R.frames) (hlocals : (rest.map fun v => v.category).sum + 13 ≤ R.locals) (hc : cells ≤ R.cells) (hs : slots ≤ R.slots) {x y : Int} (h1 : inR x) (h2 : inR y) (hd : decode cc pc = .ok (.invokestatic index, 3))
    (kk : W p l e R s m args below meth c H locs cells slots Q (F0 m (pc + 3) ls (.int (iI (max x y)) :: rest))) : W p l e R s m args below meth c H locs cells slots Q (F0 m pc ls (.int (iI y) :: .int (iI x) :: rest)) := by
  refine va_mmax hx hb hml hown (hts _ hl) (hts _ kn_maxS) (hts _ kn_math) (hts _ kn_maxC) hframes hlocals hc hs hd ?_
  have e1 : (if iI x < iI y then iI y else iI x) = iI (max x y) := by
    by_cases h : x < y
    · rw [if_pos ((iI_lt h1 h2).mpr h)]; congr 1; omega
    · rw [if_neg (fun q => h ((iI_lt h1 h2).mp q))]; congr 1; omega
  rw [e1]
  exact kk
theorem xi_mmin (hx : p.tables.exec = Jvm.exec) (hb : c.code = cc) (hml : c.maxLocals = ls.size) {own : String} {index : Nat} (hown : s.vm.findClass own = some m.cls) (hts : ∀ w ∈ xG, w.before args s = true) (hl : Cond.methodLink own index Lib.Math.min.name ∈ xG) (hframes : 1 ≤ R.frames) (hlocals : (rest.map fun v => v.category).sum + 13 ≤ R.locals) (hc : cells ≤ R.cells) (hs : slots ≤ R.slots) {x y : Int} (h1 : inR x) (h2 : inR y) (hd : decode cc pc = .ok (.invokestatic index, 3))
    (kk : W p l e R s m args below meth c H locs cells slots Q (F0 m (pc + 3) ls (.int (iI (min x y)) :: rest))) : W p l e R s m args below meth c H locs cells slots Q (F0 m pc ls (.int (iI y) :: .int (iI x) :: rest)) := by
  refine va_mmin hx hb hml hown (hts _ hl) (hts _ kn_minS) (hts _ kn_math) (hts _ kn_minC) hframes hlocals hc hs hd ?_
  have e1 : (if iI y < iI x then iI y else iI x) = iI (min x y) := by
    by_cases h : y < x
    · rw [if_pos ((iI_lt h2 h1).mpr h)]; congr 1; omega
    · rw [if_neg (fun q => h ((iI_lt h2 h1).mp q))]; congr 1; omega
  rw [e1]
  exact kk
end XN
