theorem zz {z : Int} (h : z = 0 ∨ z = 1) : narrow .boolean (.int (iI z)) = .int (iI z) ∧ fits .boolean (.int (iI z)) = true := by rcases h with rfl | rfl <;> exact ⟨rfl, rfl⟩

theorem d_Mo_row_0 : decode b_Mo_row 0 = .ok (.aload_n 0, 1) := by decide +kernel
theorem d_Mo_row_1 : decode b_Mo_row 1 = .ok (.aload_n 0, 1) := by decide +kernel
theorem d_Mo_row_2 : decode b_Mo_row 2 = .ok (.getfield 39, 3) := by decide +kernel
theorem d_Mo_row_5 : decode b_Mo_row 5 = .ok (.ifCond .eq 7, 3) := by decide +kernel
theorem d_Mo_row_8 : decode b_Mo_row 8 = .ok (.iconst 0, 1) := by decide +kernel
theorem d_Mo_row_9 : decode b_Mo_row 9 = .ok (.goto 4, 3) := by decide +kernel
theorem d_Mo_row_12 : decode b_Mo_row 12 = .ok (.iconst 1, 1) := by decide +kernel
theorem d_Mo_row_13 : decode b_Mo_row 13 = .ok (.putfield 36, 3) := by decide +kernel
theorem d_Mo_row_16 : decode b_Mo_row 16 = .ok (.aload_n 0, 1) := by decide +kernel
theorem d_Mo_row_17 : decode b_Mo_row 17 = .ok (.getfield 36, 3) := by decide +kernel
theorem d_Mo_row_20 : decode b_Mo_row 20 = .ok (.ifCond .le 5, 3) := by decide +kernel
theorem d_Mo_row_23 : decode b_Mo_row 23 = .ok (.iconst 0, 1) := by decide +kernel
theorem d_Mo_row_24 : decode b_Mo_row 24 = .ok (.ireturn, 1) := by decide +kernel
theorem d_Mo_row_25 : decode b_Mo_row 25 = .ok (.aload_n 0, 1) := by decide +kernel
theorem d_Mo_row_26 : decode b_Mo_row 26 = .ok (.getfield 65, 3) := by decide +kernel
theorem d_Mo_row_29 : decode b_Mo_row 29 = .ok (.ifCond .le 21, 3) := by decide +kernel
theorem d_Mo_row_32 : decode b_Mo_row 32 = .ok (.aload_n 0, 1) := by decide +kernel
theorem d_Mo_row_33 : decode b_Mo_row 33 = .ok (.getfield 71, 3) := by decide +kernel
theorem d_Mo_row_36 : decode b_Mo_row 36 = .ok (.aload_n 0, 1) := by decide +kernel
theorem d_Mo_row_37 : decode b_Mo_row 37 = .ok (.getfield 65, 3) := by decide +kernel
theorem d_Mo_row_40 : decode b_Mo_row 40 = .ok (.if_icmp .ne 10, 3) := by decide +kernel
theorem d_Mo_row_43 : decode b_Mo_row 43 = .ok (.aload_n 0, 1) := by decide +kernel
theorem d_Mo_row_44 : decode b_Mo_row 44 = .ok (.iconst 0, 1) := by decide +kernel
theorem d_Mo_row_45 : decode b_Mo_row 45 = .ok (.putfield 80, 3) := by decide +kernel
theorem d_Mo_row_48 : decode b_Mo_row 48 = .ok (.iconst (-1), 1) := by decide +kernel
theorem d_Mo_row_49 : decode b_Mo_row 49 = .ok (.ireturn, 1) := by decide +kernel
theorem d_Mo_row_50 : decode b_Mo_row 50 = .ok (.aload_n 0, 1) := by decide +kernel
theorem d_Mo_row_51 : decode b_Mo_row 51 = .ok (.invokevirtual 101, 3) := by decide +kernel
theorem d_Mo_row_54 : decode b_Mo_row 54 = .ok (.aload_n 0, 1) := by decide +kernel
theorem d_Mo_row_55 : decode b_Mo_row 55 = .ok (.iconst 0, 1) := by decide +kernel
theorem d_Mo_row_56 : decode b_Mo_row 56 = .ok (.putfield 80, 3) := by decide +kernel
theorem d_Mo_row_59 : decode b_Mo_row 59 = .ok (.iconst (-1), 1) := by decide +kernel
theorem d_Mo_row_60 : decode b_Mo_row 60 = .ok (.istore_n 1, 1) := by decide +kernel
theorem d_Mo_row_61 : decode b_Mo_row 61 = .ok (.iconst 0, 1) := by decide +kernel
theorem d_Mo_row_62 : decode b_Mo_row 62 = .ok (.istore_n 2, 1) := by decide +kernel
theorem d_Mo_row_63 : decode b_Mo_row 63 = .ok (.iload_n 2, 1) := by decide +kernel
theorem d_Mo_row_64 : decode b_Mo_row 64 = .ok (.sipush 640, 3) := by decide +kernel
theorem d_Mo_row_67 : decode b_Mo_row 67 = .ok (.if_icmp .ge 21, 3) := by decide +kernel
theorem d_Mo_row_70 : decode b_Mo_row 70 = .ok (.aload_n 0, 1) := by decide +kernel
theorem d_Mo_row_71 : decode b_Mo_row 71 = .ok (.getfield 13, 3) := by decide +kernel
theorem d_Mo_row_74 : decode b_Mo_row 74 = .ok (.iload_n 2, 1) := by decide +kernel
theorem d_Mo_row_75 : decode b_Mo_row 75 = .ok (.aload_n 0, 1) := by decide +kernel
theorem d_Mo_row_76 : decode b_Mo_row 76 = .ok (.getfield 17, 3) := by decide +kernel
theorem d_Mo_row_79 : decode b_Mo_row 79 = .ok (.iload_n 2, 1) := by decide +kernel
theorem d_Mo_row_80 : decode b_Mo_row 80 = .ok (.iaload, 1) := by decide +kernel
theorem d_Mo_row_81 : decode b_Mo_row 81 = .ok (.iastore, 1) := by decide +kernel
theorem d_Mo_row_82 : decode b_Mo_row 82 = .ok (.iinc 2 1, 3) := by decide +kernel
theorem d_Mo_row_85 : decode b_Mo_row 85 = .ok (.goto (-22), 3) := by decide +kernel
theorem d_Mo_row_88 : decode b_Mo_row 88 = .ok (.iconst 0, 1) := by decide +kernel
theorem d_Mo_row_89 : decode b_Mo_row 89 = .ok (.istore_n 2, 1) := by decide +kernel
theorem d_Mo_row_90 : decode b_Mo_row 90 = .ok (.iload_n 2, 1) := by decide +kernel
theorem d_Mo_row_91 : decode b_Mo_row 91 = .ok (.bipush 8, 2) := by decide +kernel
theorem d_Mo_row_93 : decode b_Mo_row 93 = .ok (.aload_n 0, 1) := by decide +kernel
theorem d_Mo_row_94 : decode b_Mo_row 94 = .ok (.getfield 74, 3) := by decide +kernel
theorem d_Mo_row_97 : decode b_Mo_row 97 = .ok (.imul, 1) := by decide +kernel
theorem d_Mo_row_98 : decode b_Mo_row 98 = .ok (.if_icmp .ge 23, 3) := by decide +kernel
theorem d_Mo_row_101 : decode b_Mo_row 101 = .ok (.aload_n 0, 1) := by decide +kernel
theorem d_Mo_row_102 : decode b_Mo_row 102 = .ok (.iload_n 2, 1) := by decide +kernel
theorem d_Mo_row_103 : decode b_Mo_row 103 = .ok (.invokevirtual 104, 3) := by decide +kernel
theorem d_Mo_row_106 : decode b_Mo_row 106 = .ok (.ifCond .eq 7, 3) := by decide +kernel
theorem d_Mo_row_109 : decode b_Mo_row 109 = .ok (.iload_n 2, 1) := by decide +kernel
theorem d_Mo_row_110 : decode b_Mo_row 110 = .ok (.goto 4, 3) := by decide +kernel
theorem d_Mo_row_113 : decode b_Mo_row 113 = .ok (.iload_n 1, 1) := by decide +kernel
theorem d_Mo_row_114 : decode b_Mo_row 114 = .ok (.istore_n 1, 1) := by decide +kernel
theorem d_Mo_row_115 : decode b_Mo_row 115 = .ok (.iinc 2 1, 3) := by decide +kernel
theorem d_Mo_row_118 : decode b_Mo_row 118 = .ok (.goto (-28), 3) := by decide +kernel
theorem d_Mo_row_121 : decode b_Mo_row 121 = .ok (.iload_n 1, 1) := by decide +kernel
theorem d_Mo_row_122 : decode b_Mo_row 122 = .ok (.ifCond .ge 7, 3) := by decide +kernel
theorem d_Mo_row_125 : decode b_Mo_row 125 = .ok (.iconst 0, 1) := by decide +kernel
theorem d_Mo_row_126 : decode b_Mo_row 126 = .ok (.goto 9, 3) := by decide +kernel
theorem d_Mo_row_129 : decode b_Mo_row 129 = .ok (.iload_n 1, 1) := by decide +kernel
theorem d_Mo_row_130 : decode b_Mo_row 130 = .ok (.bipush 8, 2) := by decide +kernel
theorem d_Mo_row_132 : decode b_Mo_row 132 = .ok (.idiv, 1) := by decide +kernel
theorem d_Mo_row_133 : decode b_Mo_row 133 = .ok (.iconst 1, 1) := by decide +kernel
theorem d_Mo_row_134 : decode b_Mo_row 134 = .ok (.iadd, 1) := by decide +kernel
theorem d_Mo_row_135 : decode b_Mo_row 135 = .ok (.istore_n 2, 1) := by decide +kernel
theorem d_Mo_row_136 : decode b_Mo_row 136 = .ok (.aload_n 0, 1) := by decide +kernel
theorem d_Mo_row_137 : decode b_Mo_row 137 = .ok (.getfield 107, 3) := by decide +kernel
theorem d_Mo_row_140 : decode b_Mo_row 140 = .ok (.sipush 4096, 3) := by decide +kernel
theorem d_Mo_row_143 : decode b_Mo_row 143 = .ok (.if_icmp .ge 18, 3) := by decide +kernel
theorem d_Mo_row_146 : decode b_Mo_row 146 = .ok (.aload_n 0, 1) := by decide +kernel
theorem d_Mo_row_147 : decode b_Mo_row 147 = .ok (.getfield 110, 3) := by decide +kernel
theorem d_Mo_row_150 : decode b_Mo_row 150 = .ok (.iload_n 2, 1) := by decide +kernel
theorem d_Mo_row_151 : decode b_Mo_row 151 = .ok (.iadd, 1) := by decide +kernel
theorem d_Mo_row_152 : decode b_Mo_row 152 = .ok (.ldc 113, 2) := by decide +kernel
theorem d_Mo_row_154 : decode b_Mo_row 154 = .ok (.if_icmp .gt 7, 3) := by decide +kernel
theorem d_Mo_row_157 : decode b_Mo_row 157 = .ok (.iconst 1, 1) := by decide +kernel
theorem d_Mo_row_158 : decode b_Mo_row 158 = .ok (.goto 4, 3) := by decide +kernel
theorem d_Mo_row_161 : decode b_Mo_row 161 = .ok (.iconst 0, 1) := by decide +kernel
theorem d_Mo_row_162 : decode b_Mo_row 162 = .ok (.istore_n 3, 1) := by decide +kernel
theorem d_Mo_row_163 : decode b_Mo_row 163 = .ok (.iload_n 1, 1) := by decide +kernel
theorem d_Mo_row_164 : decode b_Mo_row 164 = .ok (.ifCond .lt 57, 3) := by decide +kernel
theorem d_Mo_row_167 : decode b_Mo_row 167 = .ok (.iload_n 3, 1) := by decide +kernel
theorem d_Mo_row_168 : decode b_Mo_row 168 = .ok (.ifCond .eq 53, 3) := by decide +kernel
theorem d_Mo_row_171 : decode b_Mo_row 171 = .ok (.aload_n 0, 1) := by decide +kernel
theorem d_Mo_row_172 : decode b_Mo_row 172 = .ok (.dup, 1) := by decide +kernel
theorem d_Mo_row_173 : decode b_Mo_row 173 = .ok (.getfield 107, 3) := by decide +kernel
theorem d_Mo_row_176 : decode b_Mo_row 176 = .ok (.iconst 1, 1) := by decide +kernel
theorem d_Mo_row_177 : decode b_Mo_row 177 = .ok (.iadd, 1) := by decide +kernel
theorem d_Mo_row_178 : decode b_Mo_row 178 = .ok (.putfield 107, 3) := by decide +kernel
theorem d_Mo_row_181 : decode b_Mo_row 181 = .ok (.aload_n 0, 1) := by decide +kernel
theorem d_Mo_row_182 : decode b_Mo_row 182 = .ok (.dup, 1) := by decide +kernel
theorem d_Mo_row_183 : decode b_Mo_row 183 = .ok (.getfield 110, 3) := by decide +kernel
theorem d_Mo_row_186 : decode b_Mo_row 186 = .ok (.iload_n 2, 1) := by decide +kernel
theorem d_Mo_row_187 : decode b_Mo_row 187 = .ok (.iadd, 1) := by decide +kernel
theorem d_Mo_row_188 : decode b_Mo_row 188 = .ok (.putfield 110, 3) := by decide +kernel
theorem d_Mo_row_191 : decode b_Mo_row 191 = .ok (.iconst 0, 1) := by decide +kernel
theorem d_Mo_row_192 : decode b_Mo_row 192 = .ok (.istore 4, 2) := by decide +kernel
theorem d_Mo_row_194 : decode b_Mo_row 194 = .ok (.iload 4, 2) := by decide +kernel
theorem d_Mo_row_196 : decode b_Mo_row 196 = .ok (.iload_n 1, 1) := by decide +kernel
theorem d_Mo_row_197 : decode b_Mo_row 197 = .ok (.if_icmp .gt 24, 3) := by decide +kernel
theorem d_Mo_row_200 : decode b_Mo_row 200 = .ok (.aload_n 0, 1) := by decide +kernel
theorem d_Mo_row_201 : decode b_Mo_row 201 = .ok (.iload 4, 2) := by decide +kernel
theorem d_Mo_row_203 : decode b_Mo_row 203 = .ok (.invokevirtual 104, 3) := by decide +kernel
theorem d_Mo_row_206 : decode b_Mo_row 206 = .ok (.ifCond .eq 9, 3) := by decide +kernel
theorem d_Mo_row_209 : decode b_Mo_row 209 = .ok (.aload_n 0, 1) := by decide +kernel
theorem d_Mo_row_210 : decode b_Mo_row 210 = .ok (.iload 4, 2) := by decide +kernel
theorem d_Mo_row_212 : decode b_Mo_row 212 = .ok (.invokevirtual 114, 3) := by decide +kernel
theorem d_Mo_row_215 : decode b_Mo_row 215 = .ok (.iinc 4 1, 3) := by decide +kernel
theorem d_Mo_row_218 : decode b_Mo_row 218 = .ok (.goto (-24), 3) := by decide +kernel
theorem d_Mo_row_221 : decode b_Mo_row 221 = .ok (.aload_n 0, 1) := by decide +kernel
theorem d_Mo_row_222 : decode b_Mo_row 222 = .ok (.aload_n 0, 1) := by decide +kernel
theorem d_Mo_row_223 : decode b_Mo_row 223 = .ok (.getfield 118, 3) := by decide +kernel
theorem d_Mo_row_226 : decode b_Mo_row 226 = .ok (.ifCond .ne 11, 3) := by decide +kernel
theorem d_Mo_row_229 : decode b_Mo_row 229 = .ok (.iload_n 1, 1) := by decide +kernel
theorem d_Mo_row_230 : decode b_Mo_row 230 = .ok (.ifCond .lt 11, 3) := by decide +kernel
theorem d_Mo_row_233 : decode b_Mo_row 233 = .ok (.iload_n 3, 1) := by decide +kernel
theorem d_Mo_row_234 : decode b_Mo_row 234 = .ok (.ifCond .ne 7, 3) := by decide +kernel
theorem d_Mo_row_237 : decode b_Mo_row 237 = .ok (.iconst 1, 1) := by decide +kernel
theorem d_Mo_row_238 : decode b_Mo_row 238 = .ok (.goto 4, 3) := by decide +kernel
theorem d_Mo_row_241 : decode b_Mo_row 241 = .ok (.iconst 0, 1) := by decide +kernel
theorem d_Mo_row_242 : decode b_Mo_row 242 = .ok (.putfield 118, 3) := by decide +kernel
theorem d_Mo_row_245 : decode b_Mo_row 245 = .ok (.aload_n 0, 1) := by decide +kernel
theorem d_Mo_row_246 : decode b_Mo_row 246 = .ok (.dup, 1) := by decide +kernel
theorem d_Mo_row_247 : decode b_Mo_row 247 = .ok (.getfield 71, 3) := by decide +kernel
theorem d_Mo_row_250 : decode b_Mo_row 250 = .ok (.iconst 1, 1) := by decide +kernel
theorem d_Mo_row_251 : decode b_Mo_row 251 = .ok (.iadd, 1) := by decide +kernel
theorem d_Mo_row_252 : decode b_Mo_row 252 = .ok (.putfield 71, 3) := by decide +kernel
theorem d_Mo_row_255 : decode b_Mo_row 255 = .ok (.aload_n 0, 1) := by decide +kernel
theorem d_Mo_row_256 : decode b_Mo_row 256 = .ok (.getfield 71, 3) := by decide +kernel
theorem d_Mo_row_259 : decode b_Mo_row 259 = .ok (.iconst 1, 1) := by decide +kernel
theorem d_Mo_row_260 : decode b_Mo_row 260 = .ok (.isub, 1) := by decide +kernel
theorem d_Mo_row_261 : decode b_Mo_row 261 = .ok (.ireturn, 1) := by decide +kernel
theorem ds_Mo_row : xDesc y_Mo_row 0 := by decide +kernel

abbrev rm_Mo_row : Room := { frames := 3, cells := 0, slots := 0, locals := 69 }
set_option maxHeartbeats 4000000 in
set_option maxRecDepth 100000 in
/-- Model.row -/
theorem c_Mo_row (l : Launch) (D : va_G) (cI cJ cQ : ClassId) (q : Nat) (th : Int) (ac : Int) (dI : Int) (dp : Int) (sa : Nat) (bk : Int) (rs : Int) (nW : Int) (nH : Int) (mt : Int) (op : Int) (x : Int) (y : Int) (wd : Int) (ht : Int) (sc : Int) (rw : Int) (ln : Int) (ea : Nat) (fa : Nat) (ca : Nat) (ct : Int) (kr : Int) (kb : Int) (ov : Int) (B : Nat → Int) (Fr : Nat → Int) (P : Nat → Int) (nS : Nat) (S : Nat → Int64) (hop : op = 0 ∨ op = 1) (hov : ov = 0 ∨ ov = 1) (hmt : 0 ≤ mt ∧ mt ≤ 3) (hct : 0 ≤ ct ∧ ct ≤ 4096) (hPb : ∀ j : Nat, 0 ≤ P j ∧ P j < 256) (hln : 0 ≤ ln ∧ ln ≤ 640) (hB : ∀ j : Nat, 0 ≤ B j ∧ B j < 256) (hwd : 0 ≤ wd ∧ wd ≤ 5119) (hh : 0 ≤ ht ∧ ht ≤ 5119) (hac : 1 ≤ ac ∧ ac ≤ 5100) (hdI : 1 ≤ dI ∧ dI ≤ 5100) (hnS : (nS : Int) = 80 * dI) (hsc : 1 ≤ sc ∧ sc ≤ 4) (hxx : -10000 ≤ x ∧ x ≤ 10000) (hyy : -10000 ≤ y ∧ y ≤ 10000) (hrw : 0 ≤ rw ∧ rw ≤ 100000000) (hkr : 0 ≤ kr ∧ kr ≤ 4096) (hkb : 0 ≤ kb ∧ kb ≤ 65536) : xMet l D (xT cI cJ cQ) y_Mo_row b_Mo_row 5 (some .int) rm_Mo_row [.ref q] [(q, .inr (5, [.int (iI th), .int (iI ac), .int (iI dI), .int (iI dp), .ref sa, .int (iI bk), .int (iI rs), .int (iI nW), .int (iI nH), .int (iI mt), .int (iI op), .int (iI x), .int (iI y), .int (iI wd), .int (iI ht), .int (iI sc), .int (iI rw), .int (iI ln), .ref ea, .ref fa, .ref ca, .int (iI ct), .int (iI kr), .int (iI kb), .int (iI ov)])), (ea, .inl (cI, 640, .inl (iA B))), (fa, .inl (cI, 640, .inl (iA Fr))), (ca, .inl (cI, 4096, .inl (iA P))), (sa, .inl (cJ, nS, .inr (.inl S)))] (fun v ws => ∃ (r : Int) (th2 : Int) (B2 : Nat → Int) (F2 : Nat → Int) (c2 : Int) (w2 : Int) (kr2 : Int) (kb2 : Int) (ov2 : Int) (b2 : Int) (S2 : Nat → Int64) (la : Int), v = some (.int (iI r)) ∧ ws = [(q, .inr (5, [.int (iI th2), .int (iI ac), .int (iI dI), .int (iI dp), .ref sa, .int (iI b2), .int (iI rs), .int (iI nW), .int (iI nH), .int (iI mt), .int (iI op), .int (iI x), .int (iI y), .int (iI wd), .int (iI ht), .int (iI sc), .int (iI w2), .int (iI ln), .ref ea, .ref fa, .ref ca, .int (iI c2), .int (iI kr2), .int (iI kb2), .int (iI ov2)])), (ea, .inl (cI, 640, .inl (iA B2))), (fa, .inl (cI, 640, .inl (iA F2))), (ca, .inl (cI, 4096, .inl (iA P))), (sa, .inl (cJ, nS, .inr (.inl S2)))] ∧ ((th2 = 1 ∧ op = 0 ∧ B2 = B ∧ c2 = ct ∧ w2 = rw ∧ kr2 = kr ∧ kb2 = kb ∧ ov2 = ov ∧ b2 = bk ∧ S2 = S) ∨ (th2 = 0 ∧ op = 1 ∧ 0 < ht ∧ rw = ht ∧ r = -1 ∧ B2 = B ∧ c2 = 0 ∧ w2 = rw ∧ kr2 = kr ∧ kb2 = kb ∧ ov2 = ov ∧ b2 = bk ∧ S2 = S) ∨ (th2 = 0 ∧ op = 1 ∧ (ht = 0 ∨ rw ≠ ht) ∧ r = rw ∧ B2 = unpS P ct ln mt B ∧ c2 = 0 ∧ w2 = rw + 1 ∧ ((-1 ≤ la ∧ la < 8 * ln) ∧ (∀ k : Nat, la < (k : Int) → (k : Int) < 8 * ln → vis B2 wd k = false) ∧ (0 ≤ la → vis B2 wd la.toNat = true)) ∧ ((la < 0 ∧ kr2 = kr ∧ kb2 = kb ∧ ov2 = ov ∧ b2 = bk ∧ S2 = S) ∨ (0 ≤ la ∧ (4096 ≤ kr ∨ 65536 < kb + (la / 8 + 1)) ∧ kr2 = kr ∧ kb2 = kb ∧ ov2 = 1 ∧ b2 = bk ∧ S2 = S) ∨ (0 ≤ la ∧ kr < 4096 ∧ kb + (la / 8 + 1) ≤ 65536 ∧ kr2 = kr + 1 ∧ kb2 = kb + (la / 8 + 1) ∧ ov2 = ov ∧ b2 = bk + cntS S2 nS - cntS S nS ∧ (∀ z u : Nat, u < 5120 → (dS S2 z u = true ↔ drM B2 S ac dI x (y + sc * rw) sc wd (8 * ln) z u))))))) := by
  refine x_met (by decide) (Nat.le_of_ble_eq_true rfl) ?_
  intro p e s m below meth c hx hb hr hml hts hown hlocks hin hF0 A hA hP hD hK ls hl hS
  have hl : lv_has ls 5 [(0, .ref q)] := hl
  refine lv_aload_n hx hb d_Mo_row_0 rfl (lv_at hl 0 rfl) ?_
  refine lv_aload_n hx hb d_Mo_row_1 rfl (lv_at hl 0 rfl) ?_
  refine va_get (D := D) (cl := xcl) (ci := 5) (v := .int (iI op)) (C := R_Mo) (T := T_Mo) (N := 25) hx hb hts i_Mo hown hK hP 0 rfl rfl 10 (by decide) (hts _ kw_513) (fun _ h9 => h9) rfl d_Mo_row_2 ?_
  refine xi_if_eq (tgt := 12) hx hb d_Mo_row_5 (by decide) ⟨by omega, by omega⟩ (fun c_5 => ?_) (fun c_5 => ?_)
  ·
    refine xi_iconst hx hb d_Mo_row_12 ?_
    refine va_put (D := D) (cl := xcl) (ci := 5) (v := .int (iI 1)) (ty := .int) (C := R_Mo) (T := T_Mo) (N := 25) hx hb hts i_Mo ty_Mo ty_Mo_ok nm_Mo hown hK hP hD hS 0 rfl rfl 0 (by decide) (hts _ kw_503) (fun _ h9 => h9) rfl (by decide +kernel) rfl rfl (Nat.le_of_ble_eq_true rfl) d_Mo_row_13 (fun H locs hP hD hS => ?_)
    have hP : va_P D xcl [(q, .inr (5, [.int (iI 1), .int (iI ac), .int (iI dI), .int (iI dp), .ref sa, .int (iI bk), .int (iI rs), .int (iI nW), .int (iI nH), .int (iI mt), .int (iI op), .int (iI x), .int (iI y), .int (iI wd), .int (iI ht), .int (iI sc), .int (iI rw), .int (iI ln), .ref ea, .ref fa, .ref ca, .int (iI ct), .int (iI kr), .int (iI kb), .int (iI ov)])), (ea, .inl (cI, 640, .inl (iA B))), (fa, .inl (cI, 640, .inl (iA Fr))), (ca, .inl (cI, 4096, .inl (iA P))), (sa, .inl (cJ, nS, .inr (.inl S)))] _ := hP
    have hD : va_D A [(q, .inr (5, [.int (iI 1), .int (iI ac), .int (iI dI), .int (iI dp), .ref sa, .int (iI bk), .int (iI rs), .int (iI nW), .int (iI nH), .int (iI mt), .int (iI op), .int (iI x), .int (iI y), .int (iI wd), .int (iI ht), .int (iI sc), .int (iI rw), .int (iI ln), .ref ea, .ref fa, .ref ca, .int (iI ct), .int (iI kr), .int (iI kb), .int (iI ov)])), (ea, .inl (cI, 640, .inl (iA B))), (fa, .inl (cI, 640, .inl (iA Fr))), (ca, .inl (cI, 4096, .inl (iA P))), (sa, .inl (cJ, nS, .inr (.inl S)))] := hD
    refine lv_aload_n hx hb d_Mo_row_16 rfl (lv_at hl 0 rfl) ?_
    refine va_get (D := D) (cl := xcl) (ci := 5) (v := .int (iI 1)) (C := R_Mo) (T := T_Mo) (N := 25) hx hb hts i_Mo hown hK hP 0 rfl rfl 0 (by decide) (hts _ kw_503) (fun _ h9 => h9) rfl d_Mo_row_17 ?_
    refine xi_if_le (tgt := 25) hx hb d_Mo_row_20 (by decide) ⟨by decide, by decide⟩ (fun c_20 => ?_) (fun c_20 => ?_)
    ·
      exact absurd c_20 (by decide)
    ·
      refine xi_iconst hx hb d_Mo_row_23 ?_
      exact x_iret hx hb hr hlocks hP hD hS (by decide) (by decide) ⟨0, 1, B, Fr, ct, rw, kr, kb, ov, bk, S, 0, rfl, rfl, Or.inl ⟨rfl, by omega, rfl, rfl, rfl, rfl, rfl, rfl, rfl, rfl⟩⟩ d_Mo_row_24
  ·
    refine xi_iconst hx hb d_Mo_row_8 ?_
    refine lv_goto (tgt := 13) hx hb d_Mo_row_9 (by decide) ?_
    refine va_put (D := D) (cl := xcl) (ci := 5) (v := .int (iI 0)) (ty := .int) (C := R_Mo) (T := T_Mo) (N := 25) hx hb hts i_Mo ty_Mo ty_Mo_ok nm_Mo hown hK hP hD hS 0 rfl rfl 0 (by decide) (hts _ kw_503) (fun _ h9 => h9) rfl (by decide +kernel) rfl rfl (Nat.le_of_ble_eq_true rfl) d_Mo_row_13 (fun H locs hP hD hS => ?_)
    have hP : va_P D xcl [(q, .inr (5, [.int (iI 0), .int (iI ac), .int (iI dI), .int (iI dp), .ref sa, .int (iI bk), .int (iI rs), .int (iI nW), .int (iI nH), .int (iI mt), .int (iI op), .int (iI x), .int (iI y), .int (iI wd), .int (iI ht), .int (iI sc), .int (iI rw), .int (iI ln), .ref ea, .ref fa, .ref ca, .int (iI ct), .int (iI kr), .int (iI kb), .int (iI ov)])), (ea, .inl (cI, 640, .inl (iA B))), (fa, .inl (cI, 640, .inl (iA Fr))), (ca, .inl (cI, 4096, .inl (iA P))), (sa, .inl (cJ, nS, .inr (.inl S)))] _ := hP
    have hD : va_D A [(q, .inr (5, [.int (iI 0), .int (iI ac), .int (iI dI), .int (iI dp), .ref sa, .int (iI bk), .int (iI rs), .int (iI nW), .int (iI nH), .int (iI mt), .int (iI op), .int (iI x), .int (iI y), .int (iI wd), .int (iI ht), .int (iI sc), .int (iI rw), .int (iI ln), .ref ea, .ref fa, .ref ca, .int (iI ct), .int (iI kr), .int (iI kb), .int (iI ov)])), (ea, .inl (cI, 640, .inl (iA B))), (fa, .inl (cI, 640, .inl (iA Fr))), (ca, .inl (cI, 4096, .inl (iA P))), (sa, .inl (cJ, nS, .inr (.inl S)))] := hD
    refine lv_aload_n hx hb d_Mo_row_16 rfl (lv_at hl 0 rfl) ?_
    refine va_get (D := D) (cl := xcl) (ci := 5) (v := .int (iI 0)) (C := R_Mo) (T := T_Mo) (N := 25) hx hb hts i_Mo hown hK hP 0 rfl rfl 0 (by decide) (hts _ kw_503) (fun _ h9 => h9) rfl d_Mo_row_17 ?_
    refine xi_if_le (tgt := 25) hx hb d_Mo_row_20 (by decide) ⟨by decide, by decide⟩ (fun c_20 => ?_) (fun c_20 => ?_)
    ·
      refine x_cut0 50 (cJ := 0) (sJ := 0) ([]) (fun  H locs ls => (ht = 0 ∨ rw ≠ ht) ∧ va_P D xcl [(q, .inr (5, [.int (iI 0), .int (iI ac), .int (iI dI), .int (iI dp), .ref sa, .int (iI bk), .int (iI rs), .int (iI nW), .int (iI nH), .int (iI mt), .int (iI op), .int (iI x), .int (iI y), .int (iI wd), .int (iI ht), .int (iI sc), .int (iI rw), .int (iI ln), .ref ea, .ref fa, .ref ca, .int (iI ct), .int (iI kr), .int (iI kb), .int (iI ov)])), (ea, .inl (cI, 640, .inl (iA B))), (fa, .inl (cI, 640, .inl (iA Fr))), (ca, .inl (cI, 4096, .inl (iA P))), (sa, .inl (cJ, nS, .inr (.inl S)))] H ∧ va_D A [(q, .inr (5, [.int (iI 0), .int (iI ac), .int (iI dI), .int (iI dp), .ref sa, .int (iI bk), .int (iI rs), .int (iI nW), .int (iI nH), .int (iI mt), .int (iI op), .int (iI x), .int (iI y), .int (iI wd), .int (iI ht), .int (iI sc), .int (iI rw), .int (iI ln), .ref ea, .ref fa, .ref ca, .int (iI ct), .int (iI kr), .int (iI kb), .int (iI ov)])), (ea, .inl (cI, 640, .inl (iA B))), (fa, .inl (cI, 640, .inl (iA Fr))), (ca, .inl (cI, 4096, .inl (iA P))), (sa, .inl (cJ, nS, .inr (.inl S)))] ∧ va_S A s.heap H locs ∧ lv_has ls 5 [(0, .ref q)]) ?_ ?_
      ·
        intro  H locs ls hI
        obtain ⟨hq, hP, hD, hS, hl⟩ := hI
        refine lv_aload_n hx hb d_Mo_row_50 rfl (lv_at hl 0 rfl) ?_
        refine x_aft (x_runV (C := "RasterRowsModel") (As := []) (rest := []) (ci := 5) (q0 := 0) hx hb hml hown hts (c_Mo_unpack l D cI cJ cQ q 0 ac dI dp sa bk rs nW nH mt op x y wd ht sc rw ln ea fa ca ct kr kb ov B Fr P (hct) (hPb) (hln) (hmt)) kw_615 kw_617 kp_9 kw_7 kw_618 ds_Mo_unpack (by decide) hK (hP.sub (ws' := [(q, .inr (5, [.int (iI 0), .int (iI ac), .int (iI dI), .int (iI dp), .ref sa, .int (iI bk), .int (iI rs), .int (iI nW), .int (iI nH), .int (iI mt), .int (iI op), .int (iI x), .int (iI y), .int (iI wd), .int (iI ht), .int (iI sc), .int (iI rw), .int (iI ln), .ref ea, .ref fa, .ref ca, .int (iI ct), .int (iI kr), .int (iI kb), .int (iI ov)])), (ea, .inl (cI, 640, .inl (iA B))), (fa, .inl (cI, 640, .inl (iA Fr))), (ca, .inl (cI, 4096, .inl (iA P)))]) [0, 1, 2, 3] rfl) (hD.sub (ws' := [(q, .inr (5, [.int (iI 0), .int (iI ac), .int (iI dI), .int (iI dp), .ref sa, .int (iI bk), .int (iI rs), .int (iI nW), .int (iI nH), .int (iI mt), .int (iI op), .int (iI x), .int (iI y), .int (iI wd), .int (iI ht), .int (iI sc), .int (iI rw), .int (iI ln), .ref ea, .ref fa, .ref ca, .int (iI ct), .int (iI kr), .int (iI kb), .int (iI ov)])), (ea, .inl (cI, 640, .inl (iA B))), (fa, .inl (cI, 640, .inl (iA Fr))), (ca, .inl (cI, 4096, .inl (iA P)))]) [0, 1, 2, 3] (by decide) rfl) rfl rfl rfl hl.1 rfl (Nat.le_of_ble_eq_true rfl) d_Mo_row_51) hP hD hS hA [0, 1, 2, 3] [4] rfl (wr := [(sa, .inl (cJ, nS, .inr (.inl S)))]) rfl (by decide) (by decide) (fun v w1 H locs hq hP hD hS => ?_)
        obtain ⟨B2_51, rfl, rfl, hB2_51⟩ := hq
        refine W.cs (cells' := 0) (slots' := 0) rfl rfl ?_
        refine W.eq (g2 := F0 m 54 ls []) rfl ?_
        have hP : va_P D xcl [(sa, .inl (cJ, nS, .inr (.inl S))), (q, .inr (5, [.int (iI 0), .int (iI ac), .int (iI dI), .int (iI dp), .ref sa, .int (iI bk), .int (iI rs), .int (iI nW), .int (iI nH), .int (iI mt), .int (iI op), .int (iI x), .int (iI y), .int (iI wd), .int (iI ht), .int (iI sc), .int (iI rw), .int (iI ln), .ref ea, .ref fa, .ref ca, .int (iI ct), .int (iI kr), .int (iI kb), .int (iI ov)])), (ea, .inl (cI, 640, .inl (iA B))), (fa, .inl (cI, 640, .inl (iA B2_51))), (ca, .inl (cI, 4096, .inl (iA P)))] _ := hP
        have hD : va_D A [(sa, .inl (cJ, nS, .inr (.inl S))), (q, .inr (5, [.int (iI 0), .int (iI ac), .int (iI dI), .int (iI dp), .ref sa, .int (iI bk), .int (iI rs), .int (iI nW), .int (iI nH), .int (iI mt), .int (iI op), .int (iI x), .int (iI y), .int (iI wd), .int (iI ht), .int (iI sc), .int (iI rw), .int (iI ln), .ref ea, .ref fa, .ref ca, .int (iI ct), .int (iI kr), .int (iI kb), .int (iI ov)])), (ea, .inl (cI, 640, .inl (iA B))), (fa, .inl (cI, 640, .inl (iA B2_51))), (ca, .inl (cI, 4096, .inl (iA P)))] := hD
        have hBn : ∀ j : Nat, 0 ≤ B2_51 j ∧ B2_51 j < 256 := by rw [hB2_51]; exact byte_unp hPb hB
        refine lv_aload_n hx hb d_Mo_row_54 rfl (lv_at hl 0 rfl) ?_
        refine xi_iconst hx hb d_Mo_row_55 ?_
        refine va_put (D := D) (cl := xcl) (ci := 5) (v := .int (iI 0)) (ty := .int) (C := R_Mo) (T := T_Mo) (N := 25) hx hb hts i_Mo ty_Mo ty_Mo_ok nm_Mo hown hK hP hD hS 1 rfl rfl 21 (by decide) (hts _ kw_524) (fun _ h9 => h9) rfl (by decide +kernel) rfl rfl (Nat.le_of_ble_eq_true rfl) d_Mo_row_56 (fun H locs hP hD hS => ?_)
        have hP : va_P D xcl [(sa, .inl (cJ, nS, .inr (.inl S))), (q, .inr (5, [.int (iI 0), .int (iI ac), .int (iI dI), .int (iI dp), .ref sa, .int (iI bk), .int (iI rs), .int (iI nW), .int (iI nH), .int (iI mt), .int (iI op), .int (iI x), .int (iI y), .int (iI wd), .int (iI ht), .int (iI sc), .int (iI rw), .int (iI ln), .ref ea, .ref fa, .ref ca, .int (iI 0), .int (iI kr), .int (iI kb), .int (iI ov)])), (ea, .inl (cI, 640, .inl (iA B))), (fa, .inl (cI, 640, .inl (iA B2_51))), (ca, .inl (cI, 4096, .inl (iA P)))] _ := hP
        have hD : va_D A [(sa, .inl (cJ, nS, .inr (.inl S))), (q, .inr (5, [.int (iI 0), .int (iI ac), .int (iI dI), .int (iI dp), .ref sa, .int (iI bk), .int (iI rs), .int (iI nW), .int (iI nH), .int (iI mt), .int (iI op), .int (iI x), .int (iI y), .int (iI wd), .int (iI ht), .int (iI sc), .int (iI rw), .int (iI ln), .ref ea, .ref fa, .ref ca, .int (iI 0), .int (iI kr), .int (iI kb), .int (iI ov)])), (ea, .inl (cI, 640, .inl (iA B))), (fa, .inl (cI, 640, .inl (iA B2_51))), (ca, .inl (cI, 4096, .inl (iA P)))] := hD
        refine xi_iconst hx hb d_Mo_row_59 ?_
        refine lv_istore_n (lv' := [(1, .int (iI (-1))), (0, .ref q)]) hx hb d_Mo_row_60 rfl hl (by decide) rfl (fun ls hl => ?_)
        refine xi_iconst hx hb d_Mo_row_61 ?_
        refine lv_istore_n (lv' := [(2, .int (iI 0)), (1, .int (iI (-1))), (0, .ref q)]) hx hb d_Mo_row_62 rfl hl (by decide) rfl (fun ls hl => ?_)
        refine x_loop2 (fun (i : Int) (B1 : Nat → Int) H locs ls => (0 ≤ i ∧ i ≤ 640) ∧ (∀ j : Nat, (j : Int) < i → B1 j = B2_51 j) ∧ va_P D xcl [(q, .inr (5, [.int (iI 0), .int (iI ac), .int (iI dI), .int (iI dp), .ref sa, .int (iI bk), .int (iI rs), .int (iI nW), .int (iI nH), .int (iI mt), .int (iI op), .int (iI x), .int (iI y), .int (iI wd), .int (iI ht), .int (iI sc), .int (iI rw), .int (iI ln), .ref ea, .ref fa, .ref ca, .int (iI 0), .int (iI kr), .int (iI kb), .int (iI ov)])), (ea, .inl (cI, 640, .inl (iA B1))), (fa, .inl (cI, 640, .inl (iA B2_51))), (ca, .inl (cI, 4096, .inl (iA P))), (sa, .inl (cJ, nS, .inr (.inl S)))] H ∧ va_D A [(q, .inr (5, [.int (iI 0), .int (iI ac), .int (iI dI), .int (iI dp), .ref sa, .int (iI bk), .int (iI rs), .int (iI nW), .int (iI nH), .int (iI mt), .int (iI op), .int (iI x), .int (iI y), .int (iI wd), .int (iI ht), .int (iI sc), .int (iI rw), .int (iI ln), .ref ea, .ref fa, .ref ca, .int (iI 0), .int (iI kr), .int (iI kb), .int (iI ov)])), (ea, .inl (cI, 640, .inl (iA B1))), (fa, .inl (cI, 640, .inl (iA B2_51))), (ca, .inl (cI, 4096, .inl (iA P))), (sa, .inl (cJ, nS, .inr (.inl S)))] ∧ va_S A s.heap H locs ∧ lv_has ls 5 [(2, .int (iI i)), (1, .int (iI (-1))), (0, .ref q)]) (fun (i : Int) (B1 : Nat → Int) => (640 - i).toNat) 0 B ⟨by omega, fun j hj => by omega, (hP.sub (ws' := [(q, .inr (5, [.int (iI 0), .int (iI ac), .int (iI dI), .int (iI dp), .ref sa, .int (iI bk), .int (iI rs), .int (iI nW), .int (iI nH), .int (iI mt), .int (iI op), .int (iI x), .int (iI y), .int (iI wd), .int (iI ht), .int (iI sc), .int (iI rw), .int (iI ln), .ref ea, .ref fa, .ref ca, .int (iI 0), .int (iI kr), .int (iI kb), .int (iI ov)])), (ea, .inl (cI, 640, .inl (iA B))), (fa, .inl (cI, 640, .inl (iA B2_51))), (ca, .inl (cI, 4096, .inl (iA P))), (sa, .inl (cJ, nS, .inr (.inl S)))]) [1, 2, 3, 4, 0] rfl), (hD.sub (ws' := [(q, .inr (5, [.int (iI 0), .int (iI ac), .int (iI dI), .int (iI dp), .ref sa, .int (iI bk), .int (iI rs), .int (iI nW), .int (iI nH), .int (iI mt), .int (iI op), .int (iI x), .int (iI y), .int (iI wd), .int (iI ht), .int (iI sc), .int (iI rw), .int (iI ln), .ref ea, .ref fa, .ref ca, .int (iI 0), .int (iI kr), .int (iI kb), .int (iI ov)])), (ea, .inl (cI, 640, .inl (iA B))), (fa, .inl (cI, 640, .inl (iA B2_51))), (ca, .inl (cI, 4096, .inl (iA P))), (sa, .inl (cJ, nS, .inr (.inl S)))]) [1, 2, 3, 4, 0] (by decide) rfl), hS, hl⟩ ?_
        intro i B1 H locs ls hI ih_63
        obtain ⟨k1, k2, hP, hD, hS, hl⟩ := hI
        refine lv_iload_n hx hb d_Mo_row_63 rfl (lv_at hl 0 rfl) ?_
        refine xi_sipush hx hb d_Mo_row_64 (by decide) ?_
        refine xi_icmp_ge (tgt := 88) hx hb d_Mo_row_67 (by decide) ⟨by omega, by omega⟩ ⟨by decide, by decide⟩ (fun c_67 => ?_) (fun c_67 => ?_)
        ·
          obtain ⟨hP, hD⟩ := norm_i (B2_51) 1 hP hD rfl (fun j hj => k2 j (by omega))
          have hP : va_P D xcl [(q, .inr (5, [.int (iI 0), .int (iI ac), .int (iI dI), .int (iI dp), .ref sa, .int (iI bk), .int (iI rs), .int (iI nW), .int (iI nH), .int (iI mt), .int (iI op), .int (iI x), .int (iI y), .int (iI wd), .int (iI ht), .int (iI sc), .int (iI rw), .int (iI ln), .ref ea, .ref fa, .ref ca, .int (iI 0), .int (iI kr), .int (iI kb), .int (iI ov)])), (ea, .inl (cI, 640, .inl (iA B2_51))), (fa, .inl (cI, 640, .inl (iA B2_51))), (ca, .inl (cI, 4096, .inl (iA P))), (sa, .inl (cJ, nS, .inr (.inl S)))] _ := hP
          have hD : va_D A [(q, .inr (5, [.int (iI 0), .int (iI ac), .int (iI dI), .int (iI dp), .ref sa, .int (iI bk), .int (iI rs), .int (iI nW), .int (iI nH), .int (iI mt), .int (iI op), .int (iI x), .int (iI y), .int (iI wd), .int (iI ht), .int (iI sc), .int (iI rw), .int (iI ln), .ref ea, .ref fa, .ref ca, .int (iI 0), .int (iI kr), .int (iI kb), .int (iI ov)])), (ea, .inl (cI, 640, .inl (iA B2_51))), (fa, .inl (cI, 640, .inl (iA B2_51))), (ca, .inl (cI, 4096, .inl (iA P))), (sa, .inl (cJ, nS, .inr (.inl S)))] := hD
          refine xi_iconst hx hb d_Mo_row_88 ?_
          refine lv_istore_n (lv' := [(2, .int (iI 0)), (1, .int (iI (-1))), (0, .ref q)]) hx hb d_Mo_row_89 rfl hl (by decide) rfl (fun ls hl => ?_)
          refine x_loop2 (fun (i2 : Int) (la : Int) H locs ls => (0 ≤ i2 ∧ i2 ≤ 8 * ln) ∧ (-1 ≤ la) ∧ (la < i2) ∧ (∀ k : Nat, la < (k : Int) → (k : Int) < i2 → vis B2_51 wd k = false) ∧ (0 ≤ la → vis B2_51 wd la.toNat = true) ∧ va_P D xcl [(q, .inr (5, [.int (iI 0), .int (iI ac), .int (iI dI), .int (iI dp), .ref sa, .int (iI bk), .int (iI rs), .int (iI nW), .int (iI nH), .int (iI mt), .int (iI op), .int (iI x), .int (iI y), .int (iI wd), .int (iI ht), .int (iI sc), .int (iI rw), .int (iI ln), .ref ea, .ref fa, .ref ca, .int (iI 0), .int (iI kr), .int (iI kb), .int (iI ov)])), (ea, .inl (cI, 640, .inl (iA B2_51))), (fa, .inl (cI, 640, .inl (iA B2_51))), (ca, .inl (cI, 4096, .inl (iA P))), (sa, .inl (cJ, nS, .inr (.inl S)))] H ∧ va_D A [(q, .inr (5, [.int (iI 0), .int (iI ac), .int (iI dI), .int (iI dp), .ref sa, .int (iI bk), .int (iI rs), .int (iI nW), .int (iI nH), .int (iI mt), .int (iI op), .int (iI x), .int (iI y), .int (iI wd), .int (iI ht), .int (iI sc), .int (iI rw), .int (iI ln), .ref ea, .ref fa, .ref ca, .int (iI 0), .int (iI kr), .int (iI kb), .int (iI ov)])), (ea, .inl (cI, 640, .inl (iA B2_51))), (fa, .inl (cI, 640, .inl (iA B2_51))), (ca, .inl (cI, 4096, .inl (iA P))), (sa, .inl (cJ, nS, .inr (.inl S)))] ∧ va_S A s.heap H locs ∧ lv_has ls 5 [(2, .int (iI i2)), (1, .int (iI la)), (0, .ref q)]) (fun (i2 : Int) (la : Int) => (8 * ln - i2).toNat) 0 (-1) ⟨by omega, by omega, by omega, fun k a b => by omega, fun a => by omega, hP, hD, hS, hl⟩ ?_
          intro i2 la H locs ls hI ih_90
          obtain ⟨l0, l1_, l1b, l2_, l3, hP, hD, hS, hl⟩ := hI
          refine lv_iload_n hx hb d_Mo_row_90 rfl (lv_at hl 0 rfl) ?_
          refine xi_bipush hx hb d_Mo_row_91 (by decide) ?_
          refine lv_aload_n hx hb d_Mo_row_93 rfl (lv_at hl 2 rfl) ?_
          refine va_get (D := D) (cl := xcl) (ci := 5) (v := .int (iI ln)) (C := R_Mo) (T := T_Mo) (N := 25) hx hb hts i_Mo hown hK hP 0 rfl rfl 17 (by decide) (hts _ kw_520) (fun _ h9 => h9) rfl d_Mo_row_94 ?_
          refine xi_imul hx hb d_Mo_row_97 ?_
          refine xi_icmp_ge (tgt := 121) hx hb d_Mo_row_98 (by decide) ⟨by omega, by omega⟩ ⟨by omega, by omega⟩ (fun c_98 => ?_) (fun c_98 => ?_)
          ·
            refine x_cut1 135 (cJ := 0) (sJ := 0) (fun (nv : Int) => [.int (iI nv)]) (fun (nv : Int) H locs ls => ((la < 0 ∧ nv = 0) ∨ (0 ≤ la ∧ nv = la / 8 + 1)) ∧ va_P D xcl [(q, .inr (5, [.int (iI 0), .int (iI ac), .int (iI dI), .int (iI dp), .ref sa, .int (iI bk), .int (iI rs), .int (iI nW), .int (iI nH), .int (iI mt), .int (iI op), .int (iI x), .int (iI y), .int (iI wd), .int (iI ht), .int (iI sc), .int (iI rw), .int (iI ln), .ref ea, .ref fa, .ref ca, .int (iI 0), .int (iI kr), .int (iI kb), .int (iI ov)])), (ea, .inl (cI, 640, .inl (iA B2_51))), (fa, .inl (cI, 640, .inl (iA B2_51))), (ca, .inl (cI, 4096, .inl (iA P))), (sa, .inl (cJ, nS, .inr (.inl S)))] H ∧ va_D A [(q, .inr (5, [.int (iI 0), .int (iI ac), .int (iI dI), .int (iI dp), .ref sa, .int (iI bk), .int (iI rs), .int (iI nW), .int (iI nH), .int (iI mt), .int (iI op), .int (iI x), .int (iI y), .int (iI wd), .int (iI ht), .int (iI sc), .int (iI rw), .int (iI ln), .ref ea, .ref fa, .ref ca, .int (iI 0), .int (iI kr), .int (iI kb), .int (iI ov)])), (ea, .inl (cI, 640, .inl (iA B2_51))), (fa, .inl (cI, 640, .inl (iA B2_51))), (ca, .inl (cI, 4096, .inl (iA P))), (sa, .inl (cJ, nS, .inr (.inl S)))] ∧ va_S A s.heap H locs ∧ lv_has ls 5 [(1, .int (iI la)), (0, .ref q)]) ?_ ?_
            ·
              intro nv H locs ls hI
              obtain ⟨hnv, hP, hD, hS, hl⟩ := hI
              refine lv_istore_n (lv' := [(2, .int (iI nv)), (1, .int (iI la)), (0, .ref q)]) hx hb d_Mo_row_135 rfl hl (by decide) rfl (fun ls hl => ?_)
              refine x_cut1 162 (cJ := 0) (sJ := 0) (fun (fv : Int) => [.int (iI fv)]) (fun (fv : Int) H locs ls => ((fv = 1 ∧ kr < 4096 ∧ kb + nv ≤ 65536) ∨ (fv = 0 ∧ (4096 ≤ kr ∨ 65536 < kb + nv))) ∧ va_P D xcl [(q, .inr (5, [.int (iI 0), .int (iI ac), .int (iI dI), .int (iI dp), .ref sa, .int (iI bk), .int (iI rs), .int (iI nW), .int (iI nH), .int (iI mt), .int (iI op), .int (iI x), .int (iI y), .int (iI wd), .int (iI ht), .int (iI sc), .int (iI rw), .int (iI ln), .ref ea, .ref fa, .ref ca, .int (iI 0), .int (iI kr), .int (iI kb), .int (iI ov)])), (ea, .inl (cI, 640, .inl (iA B2_51))), (fa, .inl (cI, 640, .inl (iA B2_51))), (ca, .inl (cI, 4096, .inl (iA P))), (sa, .inl (cJ, nS, .inr (.inl S)))] H ∧ va_D A [(q, .inr (5, [.int (iI 0), .int (iI ac), .int (iI dI), .int (iI dp), .ref sa, .int (iI bk), .int (iI rs), .int (iI nW), .int (iI nH), .int (iI mt), .int (iI op), .int (iI x), .int (iI y), .int (iI wd), .int (iI ht), .int (iI sc), .int (iI rw), .int (iI ln), .ref ea, .ref fa, .ref ca, .int (iI 0), .int (iI kr), .int (iI kb), .int (iI ov)])), (ea, .inl (cI, 640, .inl (iA B2_51))), (fa, .inl (cI, 640, .inl (iA B2_51))), (ca, .inl (cI, 4096, .inl (iA P))), (sa, .inl (cJ, nS, .inr (.inl S)))] ∧ va_S A s.heap H locs ∧ lv_has ls 5 [(1, .int (iI la)), (2, .int (iI nv)), (0, .ref q)]) ?_ ?_
              ·
                intro fv H locs ls hI
                obtain ⟨hfv, hP, hD, hS, hl⟩ := hI
                refine lv_istore_n (lv' := [(3, .int (iI fv)), (1, .int (iI la)), (2, .int (iI nv)), (0, .ref q)]) hx hb d_Mo_row_162 rfl hl (by decide) rfl (fun ls hl => ?_)
                refine x_cut4 221 (cJ := 0) (sJ := 0) (fun (kr2 : Int) (kb2 : Int) (b2 : Int) (S2 : Nat → Int64) => []) (fun (kr2 : Int) (kb2 : Int) (b2 : Int) (S2 : Nat → Int64) H locs ls => (((la < 0 ∨ fv = 0) ∧ kr2 = kr ∧ kb2 = kb ∧ b2 = bk ∧ S2 = S) ∨ (0 ≤ la ∧ fv = 1 ∧ kr2 = kr + 1 ∧ kb2 = kb + nv ∧ b2 = bk + cntS S2 nS - cntS S nS ∧ (∀ z u : Nat, u < 5120 → (dS S2 z u = true ↔ drM B2_51 S ac dI x (y + sc * rw) sc wd (8 * ln) z u)))) ∧ va_P D xcl [(q, .inr (5, [.int (iI 0), .int (iI ac), .int (iI dI), .int (iI dp), .ref sa, .int (iI b2), .int (iI rs), .int (iI nW), .int (iI nH), .int (iI mt), .int (iI op), .int (iI x), .int (iI y), .int (iI wd), .int (iI ht), .int (iI sc), .int (iI rw), .int (iI ln), .ref ea, .ref fa, .ref ca, .int (iI 0), .int (iI kr2), .int (iI kb2), .int (iI ov)])), (ea, .inl (cI, 640, .inl (iA B2_51))), (fa, .inl (cI, 640, .inl (iA B2_51))), (ca, .inl (cI, 4096, .inl (iA P))), (sa, .inl (cJ, nS, .inr (.inl S2)))] H ∧ va_D A [(q, .inr (5, [.int (iI 0), .int (iI ac), .int (iI dI), .int (iI dp), .ref sa, .int (iI b2), .int (iI rs), .int (iI nW), .int (iI nH), .int (iI mt), .int (iI op), .int (iI x), .int (iI y), .int (iI wd), .int (iI ht), .int (iI sc), .int (iI rw), .int (iI ln), .ref ea, .ref fa, .ref ca, .int (iI 0), .int (iI kr2), .int (iI kb2), .int (iI ov)])), (ea, .inl (cI, 640, .inl (iA B2_51))), (fa, .inl (cI, 640, .inl (iA B2_51))), (ca, .inl (cI, 4096, .inl (iA P))), (sa, .inl (cJ, nS, .inr (.inl S2)))] ∧ va_S A s.heap H locs ∧ lv_has ls 5 [(1, .int (iI la)), (3, .int (iI fv)), (0, .ref q)]) ?_ ?_
                ·
                  intro kr2 kb2 b2 S2 H locs ls hI
                  obtain ⟨hj, hP, hD, hS, hl⟩ := hI
                  refine x_cut1 242 (cJ := 0) (sJ := 0) (fun (ov2 : Int) => [.int (iI ov2), .ref q]) (fun (ov2 : Int) H locs ls => ((ov2 = 1 ∧ (ov = 1 ∨ (0 ≤ la ∧ fv = 0))) ∨ (ov2 = 0 ∧ ov = 0 ∧ (la < 0 ∨ fv ≠ 0))) ∧ va_P D xcl [(q, .inr (5, [.int (iI 0), .int (iI ac), .int (iI dI), .int (iI dp), .ref sa, .int (iI b2), .int (iI rs), .int (iI nW), .int (iI nH), .int (iI mt), .int (iI op), .int (iI x), .int (iI y), .int (iI wd), .int (iI ht), .int (iI sc), .int (iI rw), .int (iI ln), .ref ea, .ref fa, .ref ca, .int (iI 0), .int (iI kr2), .int (iI kb2), .int (iI ov)])), (ea, .inl (cI, 640, .inl (iA B2_51))), (fa, .inl (cI, 640, .inl (iA B2_51))), (ca, .inl (cI, 4096, .inl (iA P))), (sa, .inl (cJ, nS, .inr (.inl S2)))] H ∧ va_D A [(q, .inr (5, [.int (iI 0), .int (iI ac), .int (iI dI), .int (iI dp), .ref sa, .int (iI b2), .int (iI rs), .int (iI nW), .int (iI nH), .int (iI mt), .int (iI op), .int (iI x), .int (iI y), .int (iI wd), .int (iI ht), .int (iI sc), .int (iI rw), .int (iI ln), .ref ea, .ref fa, .ref ca, .int (iI 0), .int (iI kr2), .int (iI kb2), .int (iI ov)])), (ea, .inl (cI, 640, .inl (iA B2_51))), (fa, .inl (cI, 640, .inl (iA B2_51))), (ca, .inl (cI, 4096, .inl (iA P))), (sa, .inl (cJ, nS, .inr (.inl S2)))] ∧ va_S A s.heap H locs ∧ lv_has ls 5 [(1, .int (iI la)), (3, .int (iI fv)), (0, .ref q)]) ?_ ?_
                  ·
                    intro ov2 H locs ls hI
                    obtain ⟨hov2, hP, hD, hS, hl⟩ := hI
                    refine va_put (D := D) (cl := xcl) (ci := 5) (v := .int (iI ov2)) (ty := .boolean) (C := R_Mo) (T := T_Mo) (N := 25) hx hb hts i_Mo ty_Mo ty_Mo_ok nm_Mo hown hK hP hD hS 0 rfl rfl 24 (by decide) (hts _ kw_527) (fun _ h9 => h9) rfl (by decide +kernel) (zz (by omega)).1 (zz (by omega)).2 (Nat.le_of_ble_eq_true rfl) d_Mo_row_242 (fun H locs hP hD hS => ?_)
                    have hP : va_P D xcl [(q, .inr (5, [.int (iI 0), .int (iI ac), .int (iI dI), .int (iI dp), .ref sa, .int (iI b2), .int (iI rs), .int (iI nW), .int (iI nH), .int (iI mt), .int (iI op), .int (iI x), .int (iI y), .int (iI wd), .int (iI ht), .int (iI sc), .int (iI rw), .int (iI ln), .ref ea, .ref fa, .ref ca, .int (iI 0), .int (iI kr2), .int (iI kb2), .int (iI ov2)])), (ea, .inl (cI, 640, .inl (iA B2_51))), (fa, .inl (cI, 640, .inl (iA B2_51))), (ca, .inl (cI, 4096, .inl (iA P))), (sa, .inl (cJ, nS, .inr (.inl S2)))] _ := hP
                    have hD : va_D A [(q, .inr (5, [.int (iI 0), .int (iI ac), .int (iI dI), .int (iI dp), .ref sa, .int (iI b2), .int (iI rs), .int (iI nW), .int (iI nH), .int (iI mt), .int (iI op), .int (iI x), .int (iI y), .int (iI wd), .int (iI ht), .int (iI sc), .int (iI rw), .int (iI ln), .ref ea, .ref fa, .ref ca, .int (iI 0), .int (iI kr2), .int (iI kb2), .int (iI ov2)])), (ea, .inl (cI, 640, .inl (iA B2_51))), (fa, .inl (cI, 640, .inl (iA B2_51))), (ca, .inl (cI, 4096, .inl (iA P))), (sa, .inl (cJ, nS, .inr (.inl S2)))] := hD
                    refine lv_aload_n hx hb d_Mo_row_245 rfl (lv_at hl 2 rfl) ?_
                    refine lv_dup hx hb d_Mo_row_246 rfl ?_
                    refine va_get (D := D) (cl := xcl) (ci := 5) (v := .int (iI rw)) (C := R_Mo) (T := T_Mo) (N := 25) hx hb hts i_Mo hown hK hP 0 rfl rfl 16 (by decide) (hts _ kw_519) (fun _ h9 => h9) rfl d_Mo_row_247 ?_
                    refine xi_iconst hx hb d_Mo_row_250 ?_
                    refine xi_iadd hx hb d_Mo_row_251 ?_
                    refine va_put (D := D) (cl := xcl) (ci := 5) (v := .int (iI (rw + 1))) (ty := .int) (C := R_Mo) (T := T_Mo) (N := 25) hx hb hts i_Mo ty_Mo ty_Mo_ok nm_Mo hown hK hP hD hS 0 rfl rfl 16 (by decide) (hts _ kw_519) (fun _ h9 => h9) rfl (by decide +kernel) rfl rfl (Nat.le_of_ble_eq_true rfl) d_Mo_row_252 (fun H locs hP hD hS => ?_)
                    have hP : va_P D xcl [(q, .inr (5, [.int (iI 0), .int (iI ac), .int (iI dI), .int (iI dp), .ref sa, .int (iI b2), .int (iI rs), .int (iI nW), .int (iI nH), .int (iI mt), .int (iI op), .int (iI x), .int (iI y), .int (iI wd), .int (iI ht), .int (iI sc), .int (iI (rw + 1)), .int (iI ln), .ref ea, .ref fa, .ref ca, .int (iI 0), .int (iI kr2), .int (iI kb2), .int (iI ov2)])), (ea, .inl (cI, 640, .inl (iA B2_51))), (fa, .inl (cI, 640, .inl (iA B2_51))), (ca, .inl (cI, 4096, .inl (iA P))), (sa, .inl (cJ, nS, .inr (.inl S2)))] _ := hP
                    have hD : va_D A [(q, .inr (5, [.int (iI 0), .int (iI ac), .int (iI dI), .int (iI dp), .ref sa, .int (iI b2), .int (iI rs), .int (iI nW), .int (iI nH), .int (iI mt), .int (iI op), .int (iI x), .int (iI y), .int (iI wd), .int (iI ht), .int (iI sc), .int (iI (rw + 1)), .int (iI ln), .ref ea, .ref fa, .ref ca, .int (iI 0), .int (iI kr2), .int (iI kb2), .int (iI ov2)])), (ea, .inl (cI, 640, .inl (iA B2_51))), (fa, .inl (cI, 640, .inl (iA B2_51))), (ca, .inl (cI, 4096, .inl (iA P))), (sa, .inl (cJ, nS, .inr (.inl S2)))] := hD
                    refine lv_aload_n hx hb d_Mo_row_255 rfl (lv_at hl 2 rfl) ?_
                    refine va_get (D := D) (cl := xcl) (ci := 5) (v := .int (iI (rw + 1))) (C := R_Mo) (T := T_Mo) (N := 25) hx hb hts i_Mo hown hK hP 0 rfl rfl 16 (by decide) (hts _ kw_519) (fun _ h9 => h9) rfl d_Mo_row_256 ?_
                    refine xi_iconst hx hb d_Mo_row_259 ?_
                    refine xi_isub hx hb d_Mo_row_260 ?_
                    exact x_iret hx hb hr hlocks hP hD hS (by decide) (by decide) ⟨((rw + 1) - 1), 0, B2_51, B2_51, 0, (rw + 1), kr2, kb2, ov2, b2, S2, la, rfl, rfl, by
      refine Or.inr (Or.inr ⟨rfl, by omega, hq, by omega, hB2_51, rfl, rfl, ⟨by omega, fun k a b => l2_ k a (by omega), l3⟩, ?_⟩)
      rcases hj with ⟨a, b, c, d, e⟩ | ⟨a, b, c, d, e, f⟩
      · by_cases g : la < 0
        · exact Or.inl ⟨g, b, c, by omega, d, e⟩
        · exact Or.inr (Or.inl ⟨by omega, by omega, b, c, by omega, d, e⟩)
      · exact Or.inr (Or.inr ⟨a, by omega, by omega, c, by omega, by omega, e, f⟩)⟩ d_Mo_row_261
                  ·
                    intro hJ_242
                    refine lv_aload_n hx hb d_Mo_row_221 rfl (lv_at hl 2 rfl) ?_
                    refine lv_aload_n hx hb d_Mo_row_222 rfl (lv_at hl 2 rfl) ?_
                    refine va_get (D := D) (cl := xcl) (ci := 5) (v := .int (iI ov)) (C := R_Mo) (T := T_Mo) (N := 25) hx hb hts i_Mo hown hK hP 0 rfl rfl 24 (by decide) (hts _ kw_527) (fun _ h9 => h9) rfl d_Mo_row_223 ?_
                    refine xi_if_ne (tgt := 237) hx hb d_Mo_row_226 (by decide) ⟨by omega, by omega⟩ (fun c_226 => ?_) (fun c_226 => ?_)
                    ·
                      refine xi_iconst hx hb d_Mo_row_237 ?_
                      refine lv_goto (tgt := 242) hx hb d_Mo_row_238 (by decide) ?_
                      exact hJ_242 1 _ _ _ ⟨by omega, hP, hD, hS, hl⟩
                    ·
                      refine lv_iload_n hx hb d_Mo_row_229 rfl (lv_at hl 0 rfl) ?_
                      refine xi_if_lt (tgt := 241) hx hb d_Mo_row_230 (by decide) ⟨by omega, by omega⟩ (fun c_230 => ?_) (fun c_230 => ?_)
                      ·
                        refine xi_iconst hx hb d_Mo_row_241 ?_
                        exact hJ_242 0 _ _ _ ⟨by omega, hP, hD, hS, hl⟩
                      ·
                        refine lv_iload_n hx hb d_Mo_row_233 rfl (lv_at hl 1 rfl) ?_
                        refine xi_if_ne (tgt := 241) hx hb d_Mo_row_234 (by decide) ⟨by omega, by omega⟩ (fun c_234 => ?_) (fun c_234 => ?_)
                        ·
                          refine xi_iconst hx hb d_Mo_row_241 ?_
                          exact hJ_242 0 _ _ _ ⟨by omega, hP, hD, hS, hl⟩
                        ·
                          refine xi_iconst hx hb d_Mo_row_237 ?_
                          refine lv_goto (tgt := 242) hx hb d_Mo_row_238 (by decide) ?_
                          exact hJ_242 1 _ _ _ ⟨by omega, hP, hD, hS, hl⟩
                ·
                  intro hJ_221
                  refine lv_iload_n hx hb d_Mo_row_163 rfl (lv_at hl 1 rfl) ?_
                  refine xi_if_lt (tgt := 221) hx hb d_Mo_row_164 (by decide) ⟨by omega, by omega⟩ (fun c_164 => ?_) (fun c_164 => ?_)
                  ·
                    exact hJ_221 kr kb bk S _ _ _ ⟨by
              first
              | exact Or.inl ⟨by omega, rfl, rfl, rfl, rfl⟩
              | exact Or.inr ⟨by omega, by omega, rfl, rfl, d3, fun z u hu => (d2 z u hu).trans (drM_skip (by omega) (fun k a b => l2_ k (by omega) (by omega)) z u)⟩, hP, hD, hS, (lv_sub hl [1, 0, 3] rfl)⟩
                  ·
                    refine lv_iload_n hx hb d_Mo_row_167 rfl (lv_at hl 0 rfl) ?_
                    refine xi_if_eq (tgt := 221) hx hb d_Mo_row_168 (by decide) ⟨by omega, by omega⟩ (fun c_168 => ?_) (fun c_168 => ?_)
                    ·
                      exact hJ_221 kr kb bk S _ _ _ ⟨by
              first
              | exact Or.inl ⟨by omega, rfl, rfl, rfl, rfl⟩
              | exact Or.inr ⟨by omega, by omega, rfl, rfl, d3, fun z u hu => (d2 z u hu).trans (drM_skip (by omega) (fun k a b => l2_ k (by omega) (by omega)) z u)⟩, hP, hD, hS, (lv_sub hl [1, 0, 3] rfl)⟩
                    ·
                      refine lv_aload_n hx hb d_Mo_row_171 rfl (lv_at hl 3 rfl) ?_
                      refine lv_dup hx hb d_Mo_row_172 rfl ?_
                      refine va_get (D := D) (cl := xcl) (ci := 5) (v := .int (iI kr)) (C := R_Mo) (T := T_Mo) (N := 25) hx hb hts i_Mo hown hK hP 0 rfl rfl 22 (by decide) (hts _ kw_525) (fun _ h9 => h9) rfl d_Mo_row_173 ?_
                      refine xi_iconst hx hb d_Mo_row_176 ?_
                      refine xi_iadd hx hb d_Mo_row_177 ?_
                      refine va_put (D := D) (cl := xcl) (ci := 5) (v := .int (iI (kr + 1))) (ty := .int) (C := R_Mo) (T := T_Mo) (N := 25) hx hb hts i_Mo ty_Mo ty_Mo_ok nm_Mo hown hK hP hD hS 0 rfl rfl 22 (by decide) (hts _ kw_525) (fun _ h9 => h9) rfl (by decide +kernel) rfl rfl (Nat.le_of_ble_eq_true rfl) d_Mo_row_178 (fun H locs hP hD hS => ?_)
                      have hP : va_P D xcl [(q, .inr (5, [.int (iI 0), .int (iI ac), .int (iI dI), .int (iI dp), .ref sa, .int (iI bk), .int (iI rs), .int (iI nW), .int (iI nH), .int (iI mt), .int (iI op), .int (iI x), .int (iI y), .int (iI wd), .int (iI ht), .int (iI sc), .int (iI rw), .int (iI ln), .ref ea, .ref fa, .ref ca, .int (iI 0), .int (iI (kr + 1)), .int (iI kb), .int (iI ov)])), (ea, .inl (cI, 640, .inl (iA B2_51))), (fa, .inl (cI, 640, .inl (iA B2_51))), (ca, .inl (cI, 4096, .inl (iA P))), (sa, .inl (cJ, nS, .inr (.inl S)))] _ := hP
                      have hD : va_D A [(q, .inr (5, [.int (iI 0), .int (iI ac), .int (iI dI), .int (iI dp), .ref sa, .int (iI bk), .int (iI rs), .int (iI nW), .int (iI nH), .int (iI mt), .int (iI op), .int (iI x), .int (iI y), .int (iI wd), .int (iI ht), .int (iI sc), .int (iI rw), .int (iI ln), .ref ea, .ref fa, .ref ca, .int (iI 0), .int (iI (kr + 1)), .int (iI kb), .int (iI ov)])), (ea, .inl (cI, 640, .inl (iA B2_51))), (fa, .inl (cI, 640, .inl (iA B2_51))), (ca, .inl (cI, 4096, .inl (iA P))), (sa, .inl (cJ, nS, .inr (.inl S)))] := hD
                      refine lv_aload_n hx hb d_Mo_row_181 rfl (lv_at hl 3 rfl) ?_
                      refine lv_dup hx hb d_Mo_row_182 rfl ?_
                      refine va_get (D := D) (cl := xcl) (ci := 5) (v := .int (iI kb)) (C := R_Mo) (T := T_Mo) (N := 25) hx hb hts i_Mo hown hK hP 0 rfl rfl 23 (by decide) (hts _ kw_526) (fun _ h9 => h9) rfl d_Mo_row_183 ?_
                      refine lv_iload_n hx hb d_Mo_row_186 rfl (lv_at hl 2 rfl) ?_
                      refine xi_iadd hx hb d_Mo_row_187 ?_
                      refine va_put (D := D) (cl := xcl) (ci := 5) (v := .int (iI (kb + nv))) (ty := .int) (C := R_Mo) (T := T_Mo) (N := 25) hx hb hts i_Mo ty_Mo ty_Mo_ok nm_Mo hown hK hP hD hS 0 rfl rfl 23 (by decide) (hts _ kw_526) (fun _ h9 => h9) rfl (by decide +kernel) rfl rfl (Nat.le_of_ble_eq_true rfl) d_Mo_row_188 (fun H locs hP hD hS => ?_)
                      have hP : va_P D xcl [(q, .inr (5, [.int (iI 0), .int (iI ac), .int (iI dI), .int (iI dp), .ref sa, .int (iI bk), .int (iI rs), .int (iI nW), .int (iI nH), .int (iI mt), .int (iI op), .int (iI x), .int (iI y), .int (iI wd), .int (iI ht), .int (iI sc), .int (iI rw), .int (iI ln), .ref ea, .ref fa, .ref ca, .int (iI 0), .int (iI (kr + 1)), .int (iI (kb + nv)), .int (iI ov)])), (ea, .inl (cI, 640, .inl (iA B2_51))), (fa, .inl (cI, 640, .inl (iA B2_51))), (ca, .inl (cI, 4096, .inl (iA P))), (sa, .inl (cJ, nS, .inr (.inl S)))] _ := hP
                      have hD : va_D A [(q, .inr (5, [.int (iI 0), .int (iI ac), .int (iI dI), .int (iI dp), .ref sa, .int (iI bk), .int (iI rs), .int (iI nW), .int (iI nH), .int (iI mt), .int (iI op), .int (iI x), .int (iI y), .int (iI wd), .int (iI ht), .int (iI sc), .int (iI rw), .int (iI ln), .ref ea, .ref fa, .ref ca, .int (iI 0), .int (iI (kr + 1)), .int (iI (kb + nv)), .int (iI ov)])), (ea, .inl (cI, 640, .inl (iA B2_51))), (fa, .inl (cI, 640, .inl (iA B2_51))), (ca, .inl (cI, 4096, .inl (iA P))), (sa, .inl (cJ, nS, .inr (.inl S)))] := hD
                      refine xi_iconst hx hb d_Mo_row_191 ?_
                      refine lv_istore (lv' := [(4, .int (iI 0)), (3, .int (iI fv)), (1, .int (iI la)), (2, .int (iI nv)), (0, .ref q)]) hx hb d_Mo_row_192 hl (by decide) rfl (fun ls hl => ?_)
                      refine x_loop3 (fun (k4 : Int) (S1 : Nat → Int64) (b1 : Int) H locs ls => (0 ≤ k4 ∧ k4 ≤ la + 1) ∧ (∀ z u : Nat, u < 5120 → (dS S1 z u = true ↔ drM B2_51 S ac dI x (y + sc * rw) sc wd (k4) z u)) ∧ (b1 = bk + cntS S1 nS - cntS S nS) ∧ va_P D xcl [(q, .inr (5, [.int (iI 0), .int (iI ac), .int (iI dI), .int (iI dp), .ref sa, .int (iI b1), .int (iI rs), .int (iI nW), .int (iI nH), .int (iI mt), .int (iI op), .int (iI x), .int (iI y), .int (iI wd), .int (iI ht), .int (iI sc), .int (iI rw), .int (iI ln), .ref ea, .ref fa, .ref ca, .int (iI 0), .int (iI (kr + 1)), .int (iI (kb + nv)), .int (iI ov)])), (ea, .inl (cI, 640, .inl (iA B2_51))), (fa, .inl (cI, 640, .inl (iA B2_51))), (ca, .inl (cI, 4096, .inl (iA P))), (sa, .inl (cJ, nS, .inr (.inl S1)))] H ∧ va_D A [(q, .inr (5, [.int (iI 0), .int (iI ac), .int (iI dI), .int (iI dp), .ref sa, .int (iI b1), .int (iI rs), .int (iI nW), .int (iI nH), .int (iI mt), .int (iI op), .int (iI x), .int (iI y), .int (iI wd), .int (iI ht), .int (iI sc), .int (iI rw), .int (iI ln), .ref ea, .ref fa, .ref ca, .int (iI 0), .int (iI (kr + 1)), .int (iI (kb + nv)), .int (iI ov)])), (ea, .inl (cI, 640, .inl (iA B2_51))), (fa, .inl (cI, 640, .inl (iA B2_51))), (ca, .inl (cI, 4096, .inl (iA P))), (sa, .inl (cJ, nS, .inr (.inl S1)))] ∧ va_S A s.heap H locs ∧ lv_has ls 5 [(4, .int (iI k4)), (1, .int (iI la)), (3, .int (iI fv)), (0, .ref q)]) (fun (k4 : Int) (S1 : Nat → Int64) (b1 : Int) => (la + 1 - k4).toNat) 0 S bk ⟨by omega, fun z u _ => drM_0, by omega, hP, hD, hS, (lv_sub hl [0, 2, 1, 4] rfl)⟩ ?_
                      intro k4 S1 b1 H locs ls hI ih_194
                      obtain ⟨d1, d2, d3, hP, hD, hS, hl⟩ := hI
                      refine lv_iload hx hb d_Mo_row_194 (lv_at hl 0 rfl) ?_
                      refine lv_iload_n hx hb d_Mo_row_196 rfl (lv_at hl 1 rfl) ?_
                      refine xi_icmp_gt (tgt := 221) hx hb d_Mo_row_197 (by decide) ⟨by omega, by omega⟩ ⟨by omega, by omega⟩ (fun c_197 => ?_) (fun c_197 => ?_)
                      ·
                        exact hJ_221 (kr + 1) (kb + nv) b1 S1 _ _ _ ⟨by
              first
              | exact Or.inl ⟨by omega, rfl, rfl, rfl, rfl⟩
              | exact Or.inr ⟨by omega, by omega, rfl, rfl, d3, fun z u hu => (d2 z u hu).trans (drM_skip (by omega) (fun k a b => l2_ k (by omega) (by omega)) z u)⟩, hP, hD, hS, (lv_sub hl [1, 2, 3] rfl)⟩
                      ·
                        refine lv_aload_n hx hb d_Mo_row_200 rfl (lv_at hl 3 rfl) ?_
                        refine lv_iload hx hb d_Mo_row_201 (lv_at hl 0 rfl) ?_
                        refine x_aft (x_runV (C := "RasterRowsModel") (As := [.int (iI k4)]) (rest := []) (ci := 5) (q0 := 0) hx hb hml hown hts (c_Mo_isBlack l D cI cJ cQ q 0 ac dI dp sa b1 rs nW nH mt op x y wd ht sc rw ln ea fa ca 0 (kr + 1) (kb + nv) ov B2_51 k4 (hBn) (hwd) (by omega)) kw_635 kw_637 kp_14 kw_7 kw_638 ds_Mo_isBlack (by decide) hK (hP.sub (ws' := [(q, .inr (5, [.int (iI 0), .int (iI ac), .int (iI dI), .int (iI dp), .ref sa, .int (iI b1), .int (iI rs), .int (iI nW), .int (iI nH), .int (iI mt), .int (iI op), .int (iI x), .int (iI y), .int (iI wd), .int (iI ht), .int (iI sc), .int (iI rw), .int (iI ln), .ref ea, .ref fa, .ref ca, .int (iI 0), .int (iI (kr + 1)), .int (iI (kb + nv)), .int (iI ov)])), (ea, .inl (cI, 640, .inl (iA B2_51)))]) [0, 1] rfl) (hD.sub (ws' := [(q, .inr (5, [.int (iI 0), .int (iI ac), .int (iI dI), .int (iI dp), .ref sa, .int (iI b1), .int (iI rs), .int (iI nW), .int (iI nH), .int (iI mt), .int (iI op), .int (iI x), .int (iI y), .int (iI wd), .int (iI ht), .int (iI sc), .int (iI rw), .int (iI ln), .ref ea, .ref fa, .ref ca, .int (iI 0), .int (iI (kr + 1)), .int (iI (kb + nv)), .int (iI ov)])), (ea, .inl (cI, 640, .inl (iA B2_51)))]) [0, 1] (by decide) rfl) rfl rfl rfl hl.1 rfl (Nat.le_of_ble_eq_true rfl) d_Mo_row_203) hP hD hS hA [0, 1] [2, 3, 4] rfl (wr := [(fa, .inl (cI, 640, .inl (iA B2_51))), (ca, .inl (cI, 4096, .inl (iA P))), (sa, .inl (cJ, nS, .inr (.inl S1)))]) rfl (by decide) (by decide) (fun v w1 H locs hq hP hD hS => ?_)
                        obtain ⟨r_203, rfl, rfl, hr__203⟩ := hq
                        refine W.cs (cells' := 0) (slots' := 0) rfl rfl ?_
                        refine W.eq (g2 := F0 m 206 ls [.int (iI r_203)]) rfl ?_
                        have hP : va_P D xcl [(fa, .inl (cI, 640, .inl (iA B2_51))), (ca, .inl (cI, 4096, .inl (iA P))), (sa, .inl (cJ, nS, .inr (.inl S1))), (q, .inr (5, [.int (iI 0), .int (iI ac), .int (iI dI), .int (iI dp), .ref sa, .int (iI b1), .int (iI rs), .int (iI nW), .int (iI nH), .int (iI mt), .int (iI op), .int (iI x), .int (iI y), .int (iI wd), .int (iI ht), .int (iI sc), .int (iI rw), .int (iI ln), .ref ea, .ref fa, .ref ca, .int (iI 0), .int (iI (kr + 1)), .int (iI (kb + nv)), .int (iI ov)])), (ea, .inl (cI, 640, .inl (iA B2_51)))] _ := hP
                        have hD : va_D A [(fa, .inl (cI, 640, .inl (iA B2_51))), (ca, .inl (cI, 4096, .inl (iA P))), (sa, .inl (cJ, nS, .inr (.inl S1))), (q, .inr (5, [.int (iI 0), .int (iI ac), .int (iI dI), .int (iI dp), .ref sa, .int (iI b1), .int (iI rs), .int (iI nW), .int (iI nH), .int (iI mt), .int (iI op), .int (iI x), .int (iI y), .int (iI wd), .int (iI ht), .int (iI sc), .int (iI rw), .int (iI ln), .ref ea, .ref fa, .ref ca, .int (iI 0), .int (iI (kr + 1)), .int (iI (kb + nv)), .int (iI ov)])), (ea, .inl (cI, 640, .inl (iA B2_51)))] := hD
                        refine xi_if_eq (tgt := 215) hx hb d_Mo_row_206 (by decide) ⟨by omega, by omega⟩ (fun c_206 => ?_) (fun c_206 => ?_)
                        ·
                          refine xi_iinc (lv' := [(4, .int (iI (k4 + 1))), (1, .int (iI la)), (3, .int (iI fv)), (0, .ref q)]) hx hb d_Mo_row_215 hl (k := 0) rfl (by decide) rfl (fun ls hl => ?_)
                          refine lv_goto (tgt := 194) hx hb d_Mo_row_218 (by decide) ?_
                          exact ih_194 (k4 + 1) S1 b1 _ _ _ (by omega) ⟨by omega, fun z u hu => by
              rcases hr__203 with q | q
              · first
                | exact drM_add d1.1 q.2 (d2 z u hu) (hS__212 z u hu)
                | omega
              · first
                | omega
                | exact (d2 z u hu).trans (drM_skip (by omega) (fun k a b => by rw [show k = k4.toNat by omega]; exact q.2) z u), by omega, (hP.sub (ws' := [(q, .inr (5, [.int (iI 0), .int (iI ac), .int (iI dI), .int (iI dp), .ref sa, .int (iI b1), .int (iI rs), .int (iI nW), .int (iI nH), .int (iI mt), .int (iI op), .int (iI x), .int (iI y), .int (iI wd), .int (iI ht), .int (iI sc), .int (iI rw), .int (iI ln), .ref ea, .ref fa, .ref ca, .int (iI 0), .int (iI (kr + 1)), .int (iI (kb + nv)), .int (iI ov)])), (ea, .inl (cI, 640, .inl (iA B2_51))), (fa, .inl (cI, 640, .inl (iA B2_51))), (ca, .inl (cI, 4096, .inl (iA P))), (sa, .inl (cJ, nS, .inr (.inl S1)))]) [3, 4, 0, 1, 2] rfl), (hD.sub (ws' := [(q, .inr (5, [.int (iI 0), .int (iI ac), .int (iI dI), .int (iI dp), .ref sa, .int (iI b1), .int (iI rs), .int (iI nW), .int (iI nH), .int (iI mt), .int (iI op), .int (iI x), .int (iI y), .int (iI wd), .int (iI ht), .int (iI sc), .int (iI rw), .int (iI ln), .ref ea, .ref fa, .ref ca, .int (iI 0), .int (iI (kr + 1)), .int (iI (kb + nv)), .int (iI ov)])), (ea, .inl (cI, 640, .inl (iA B2_51))), (fa, .inl (cI, 640, .inl (iA B2_51))), (ca, .inl (cI, 4096, .inl (iA P))), (sa, .inl (cJ, nS, .inr (.inl S1)))]) [3, 4, 0, 1, 2] (by decide) rfl), hS, hl⟩
                        ·
                          refine lv_aload_n hx hb d_Mo_row_209 rfl (lv_at hl 3 rfl) ?_
                          refine lv_iload hx hb d_Mo_row_210 (lv_at hl 0 rfl) ?_
                          refine x_aft (x_runV (C := "RasterRowsModel") (As := [.int (iI k4)]) (rest := []) (ci := 5) (q0 := 0) hx hb hml hown hts (c_Mo_blacken l D cI cJ cQ q 0 ac dI dp sa b1 rs nW nH mt op x y wd ht sc rw ln ea fa ca 0 (kr + 1) (kb + nv) ov nS S1 k4 (hac) (hdI) (hnS) (hsc) (hxx) (hyy) (hrw) (by omega)) kw_640 kw_642 kp_15 kw_7 kw_643 ds_Mo_blacken (by decide) hK (hP.sub (ws' := [(q, .inr (5, [.int (iI 0), .int (iI ac), .int (iI dI), .int (iI dp), .ref sa, .int (iI b1), .int (iI rs), .int (iI nW), .int (iI nH), .int (iI mt), .int (iI op), .int (iI x), .int (iI y), .int (iI wd), .int (iI ht), .int (iI sc), .int (iI rw), .int (iI ln), .ref ea, .ref fa, .ref ca, .int (iI 0), .int (iI (kr + 1)), .int (iI (kb + nv)), .int (iI ov)])), (sa, .inl (cJ, nS, .inr (.inl S1)))]) [3, 2] rfl) (hD.sub (ws' := [(q, .inr (5, [.int (iI 0), .int (iI ac), .int (iI dI), .int (iI dp), .ref sa, .int (iI b1), .int (iI rs), .int (iI nW), .int (iI nH), .int (iI mt), .int (iI op), .int (iI x), .int (iI y), .int (iI wd), .int (iI ht), .int (iI sc), .int (iI rw), .int (iI ln), .ref ea, .ref fa, .ref ca, .int (iI 0), .int (iI (kr + 1)), .int (iI (kb + nv)), .int (iI ov)])), (sa, .inl (cJ, nS, .inr (.inl S1)))]) [3, 2] (by decide) rfl) rfl rfl rfl hl.1 rfl (Nat.le_of_ble_eq_true rfl) d_Mo_row_212) hP hD hS hA [3, 2] [0, 1, 4] rfl (wr := [(fa, .inl (cI, 640, .inl (iA B2_51))), (ca, .inl (cI, 4096, .inl (iA P))), (ea, .inl (cI, 640, .inl (iA B2_51)))]) rfl (by decide) (by decide) (fun v w1 H locs hq hP hD hS => ?_)
                          obtain ⟨S2_212, b2_212, rfl, rfl, hS__212, hb__212⟩ := hq
                          refine W.cs (cells' := 0) (slots' := 0) rfl rfl ?_
                          refine W.eq (g2 := F0 m 215 ls []) rfl ?_
                          have hP : va_P D xcl [(fa, .inl (cI, 640, .inl (iA B2_51))), (ca, .inl (cI, 4096, .inl (iA P))), (ea, .inl (cI, 640, .inl (iA B2_51))), (q, .inr (5, [.int (iI 0), .int (iI ac), .int (iI dI), .int (iI dp), .ref sa, .int (iI b2_212), .int (iI rs), .int (iI nW), .int (iI nH), .int (iI mt), .int (iI op), .int (iI x), .int (iI y), .int (iI wd), .int (iI ht), .int (iI sc), .int (iI rw), .int (iI ln), .ref ea, .ref fa, .ref ca, .int (iI 0), .int (iI (kr + 1)), .int (iI (kb + nv)), .int (iI ov)])), (sa, .inl (cJ, nS, .inr (.inl S2_212)))] _ := hP
                          have hD : va_D A [(fa, .inl (cI, 640, .inl (iA B2_51))), (ca, .inl (cI, 4096, .inl (iA P))), (ea, .inl (cI, 640, .inl (iA B2_51))), (q, .inr (5, [.int (iI 0), .int (iI ac), .int (iI dI), .int (iI dp), .ref sa, .int (iI b2_212), .int (iI rs), .int (iI nW), .int (iI nH), .int (iI mt), .int (iI op), .int (iI x), .int (iI y), .int (iI wd), .int (iI ht), .int (iI sc), .int (iI rw), .int (iI ln), .ref ea, .ref fa, .ref ca, .int (iI 0), .int (iI (kr + 1)), .int (iI (kb + nv)), .int (iI ov)])), (sa, .inl (cJ, nS, .inr (.inl S2_212)))] := hD
                          refine xi_iinc (lv' := [(4, .int (iI (k4 + 1))), (1, .int (iI la)), (3, .int (iI fv)), (0, .ref q)]) hx hb d_Mo_row_215 hl (k := 0) rfl (by decide) rfl (fun ls hl => ?_)
                          refine lv_goto (tgt := 194) hx hb d_Mo_row_218 (by decide) ?_
                          exact ih_194 (k4 + 1) S2_212 b2_212 _ _ _ (by omega) ⟨by omega, fun z u hu => by
              rcases hr__203 with q | q
              · first
                | exact drM_add d1.1 q.2 (d2 z u hu) (hS__212 z u hu)
                | omega
              · first
                | omega
                | exact (d2 z u hu).trans (drM_skip (by omega) (fun k a b => by rw [show k = k4.toNat by omega]; exact q.2) z u), by omega, (hP.sub (ws' := [(q, .inr (5, [.int (iI 0), .int (iI ac), .int (iI dI), .int (iI dp), .ref sa, .int (iI b2_212), .int (iI rs), .int (iI nW), .int (iI nH), .int (iI mt), .int (iI op), .int (iI x), .int (iI y), .int (iI wd), .int (iI ht), .int (iI sc), .int (iI rw), .int (iI ln), .ref ea, .ref fa, .ref ca, .int (iI 0), .int (iI (kr + 1)), .int (iI (kb + nv)), .int (iI ov)])), (ea, .inl (cI, 640, .inl (iA B2_51))), (fa, .inl (cI, 640, .inl (iA B2_51))), (ca, .inl (cI, 4096, .inl (iA P))), (sa, .inl (cJ, nS, .inr (.inl S2_212)))]) [3, 2, 0, 1, 4] rfl), (hD.sub (ws' := [(q, .inr (5, [.int (iI 0), .int (iI ac), .int (iI dI), .int (iI dp), .ref sa, .int (iI b2_212), .int (iI rs), .int (iI nW), .int (iI nH), .int (iI mt), .int (iI op), .int (iI x), .int (iI y), .int (iI wd), .int (iI ht), .int (iI sc), .int (iI rw), .int (iI ln), .ref ea, .ref fa, .ref ca, .int (iI 0), .int (iI (kr + 1)), .int (iI (kb + nv)), .int (iI ov)])), (ea, .inl (cI, 640, .inl (iA B2_51))), (fa, .inl (cI, 640, .inl (iA B2_51))), (ca, .inl (cI, 4096, .inl (iA P))), (sa, .inl (cJ, nS, .inr (.inl S2_212)))]) [3, 2, 0, 1, 4] (by decide) rfl), hS, hl⟩
              ·
                intro hJ_162
                refine lv_aload_n hx hb d_Mo_row_136 rfl (lv_at hl 2 rfl) ?_
                refine va_get (D := D) (cl := xcl) (ci := 5) (v := .int (iI kr)) (C := R_Mo) (T := T_Mo) (N := 25) hx hb hts i_Mo hown hK hP 0 rfl rfl 22 (by decide) (hts _ kw_525) (fun _ h9 => h9) rfl d_Mo_row_137 ?_
                refine xi_sipush hx hb d_Mo_row_140 (by decide) ?_
                refine xi_icmp_ge (tgt := 161) hx hb d_Mo_row_143 (by decide) ⟨by omega, by omega⟩ ⟨by decide, by decide⟩ (fun c_143 => ?_) (fun c_143 => ?_)
                ·
                  refine xi_iconst hx hb d_Mo_row_161 ?_
                  exact hJ_162 0 _ _ _ ⟨by omega, hP, hD, hS, (lv_sub hl [1, 0, 2] rfl)⟩
                ·
                  refine lv_aload_n hx hb d_Mo_row_146 rfl (lv_at hl 2 rfl) ?_
                  refine va_get (D := D) (cl := xcl) (ci := 5) (v := .int (iI kb)) (C := R_Mo) (T := T_Mo) (N := 25) hx hb hts i_Mo hown hK hP 0 rfl rfl 23 (by decide) (hts _ kw_526) (fun _ h9 => h9) rfl d_Mo_row_147 ?_
                  refine lv_iload_n hx hb d_Mo_row_150 rfl (lv_at hl 0 rfl) ?_
                  refine xi_iadd hx hb d_Mo_row_151 ?_
                  refine xi_ldc (n := 65536) hx hb hown (hts _ kw_639) (by decide) d_Mo_row_152 ?_
                  refine xi_icmp_gt (tgt := 161) hx hb d_Mo_row_154 (by decide) ⟨by omega, by omega⟩ ⟨by decide, by decide⟩ (fun c_154 => ?_) (fun c_154 => ?_)
                  ·
                    refine xi_iconst hx hb d_Mo_row_161 ?_
                    exact hJ_162 0 _ _ _ ⟨by omega, hP, hD, hS, (lv_sub hl [1, 0, 2] rfl)⟩
                  ·
                    refine xi_iconst hx hb d_Mo_row_157 ?_
                    refine lv_goto (tgt := 162) hx hb d_Mo_row_158 (by decide) ?_
                    exact hJ_162 1 _ _ _ ⟨by omega, hP, hD, hS, (lv_sub hl [1, 0, 2] rfl)⟩
            ·
              intro hJ_135
              refine lv_iload_n hx hb d_Mo_row_121 rfl (lv_at hl 1 rfl) ?_
              refine xi_if_ge (tgt := 129) hx hb d_Mo_row_122 (by decide) ⟨by omega, by omega⟩ (fun c_122 => ?_) (fun c_122 => ?_)
              ·
                refine lv_iload_n hx hb d_Mo_row_129 rfl (lv_at hl 1 rfl) ?_
                refine xi_bipush hx hb d_Mo_row_130 (by decide) ?_
                refine xi_idiv hx hb d_Mo_row_132 ⟨by omega, by omega⟩ ⟨by omega, by omega⟩ ?_
                refine xi_iconst hx hb d_Mo_row_133 ?_
                refine xi_iadd hx hb d_Mo_row_134 ?_
                exact hJ_135 ((la / 8) + 1) _ _ _ ⟨by omega, hP, hD, hS, (lv_sub hl [1, 2] rfl)⟩
              ·
                refine xi_iconst hx hb d_Mo_row_125 ?_
                refine lv_goto (tgt := 135) hx hb d_Mo_row_126 (by decide) ?_
                exact hJ_135 0 _ _ _ ⟨by omega, hP, hD, hS, (lv_sub hl [1, 2] rfl)⟩
          ·
            refine lv_aload_n hx hb d_Mo_row_101 rfl (lv_at hl 2 rfl) ?_
            refine lv_iload_n hx hb d_Mo_row_102 rfl (lv_at hl 0 rfl) ?_
            refine x_aft (x_runV (C := "RasterRowsModel") (As := [.int (iI i2)]) (rest := []) (ci := 5) (q0 := 0) hx hb hml hown hts (c_Mo_isBlack l D cI cJ cQ q 0 ac dI dp sa bk rs nW nH mt op x y wd ht sc rw ln ea fa ca 0 kr kb ov B2_51 i2 (hBn) (hwd) (by omega)) kw_635 kw_637 kp_14 kw_7 kw_638 ds_Mo_isBlack (by decide) hK (hP.sub (ws' := [(q, .inr (5, [.int (iI 0), .int (iI ac), .int (iI dI), .int (iI dp), .ref sa, .int (iI bk), .int (iI rs), .int (iI nW), .int (iI nH), .int (iI mt), .int (iI op), .int (iI x), .int (iI y), .int (iI wd), .int (iI ht), .int (iI sc), .int (iI rw), .int (iI ln), .ref ea, .ref fa, .ref ca, .int (iI 0), .int (iI kr), .int (iI kb), .int (iI ov)])), (ea, .inl (cI, 640, .inl (iA B2_51)))]) [0, 1] rfl) (hD.sub (ws' := [(q, .inr (5, [.int (iI 0), .int (iI ac), .int (iI dI), .int (iI dp), .ref sa, .int (iI bk), .int (iI rs), .int (iI nW), .int (iI nH), .int (iI mt), .int (iI op), .int (iI x), .int (iI y), .int (iI wd), .int (iI ht), .int (iI sc), .int (iI rw), .int (iI ln), .ref ea, .ref fa, .ref ca, .int (iI 0), .int (iI kr), .int (iI kb), .int (iI ov)])), (ea, .inl (cI, 640, .inl (iA B2_51)))]) [0, 1] (by decide) rfl) rfl rfl rfl hl.1 rfl (Nat.le_of_ble_eq_true rfl) d_Mo_row_103) hP hD hS hA [0, 1] [2, 3, 4] rfl (wr := [(fa, .inl (cI, 640, .inl (iA B2_51))), (ca, .inl (cI, 4096, .inl (iA P))), (sa, .inl (cJ, nS, .inr (.inl S)))]) rfl (by decide) (by decide) (fun v w1 H locs hq hP hD hS => ?_)
            obtain ⟨r_103, rfl, rfl, hr__103⟩ := hq
            refine W.cs (cells' := 0) (slots' := 0) rfl rfl ?_
            refine W.eq (g2 := F0 m 106 ls [.int (iI r_103)]) rfl ?_
            have hP : va_P D xcl [(fa, .inl (cI, 640, .inl (iA B2_51))), (ca, .inl (cI, 4096, .inl (iA P))), (sa, .inl (cJ, nS, .inr (.inl S))), (q, .inr (5, [.int (iI 0), .int (iI ac), .int (iI dI), .int (iI dp), .ref sa, .int (iI bk), .int (iI rs), .int (iI nW), .int (iI nH), .int (iI mt), .int (iI op), .int (iI x), .int (iI y), .int (iI wd), .int (iI ht), .int (iI sc), .int (iI rw), .int (iI ln), .ref ea, .ref fa, .ref ca, .int (iI 0), .int (iI kr), .int (iI kb), .int (iI ov)])), (ea, .inl (cI, 640, .inl (iA B2_51)))] _ := hP
            have hD : va_D A [(fa, .inl (cI, 640, .inl (iA B2_51))), (ca, .inl (cI, 4096, .inl (iA P))), (sa, .inl (cJ, nS, .inr (.inl S))), (q, .inr (5, [.int (iI 0), .int (iI ac), .int (iI dI), .int (iI dp), .ref sa, .int (iI bk), .int (iI rs), .int (iI nW), .int (iI nH), .int (iI mt), .int (iI op), .int (iI x), .int (iI y), .int (iI wd), .int (iI ht), .int (iI sc), .int (iI rw), .int (iI ln), .ref ea, .ref fa, .ref ca, .int (iI 0), .int (iI kr), .int (iI kb), .int (iI ov)])), (ea, .inl (cI, 640, .inl (iA B2_51)))] := hD
            refine xi_if_eq (tgt := 113) hx hb d_Mo_row_106 (by decide) ⟨by omega, by omega⟩ (fun c_106 => ?_) (fun c_106 => ?_)
            ·
              refine lv_iload_n hx hb d_Mo_row_113 rfl (lv_at hl 1 rfl) ?_
              refine lv_istore_n (lv' := [(1, .int (iI la)), (2, .int (iI i2)), (0, .ref q)]) hx hb d_Mo_row_114 rfl hl (by decide) rfl (fun ls hl => ?_)
              refine xi_iinc (lv' := [(2, .int (iI (i2 + 1))), (1, .int (iI la)), (0, .ref q)]) hx hb d_Mo_row_115 hl (k := 1) rfl (by decide) rfl (fun ls hl => ?_)
              refine lv_goto (tgt := 90) hx hb d_Mo_row_118 (by decide) ?_
              exact ih_90 (i2 + 1) la _ _ _ (by omega) ⟨by omega, by omega, by omega, fun k a b => by
              by_cases e : (k : Int) < i2
              · exact l2_ k (by omega) e
              · have e2 : k = i2.toNat := by omega
                subst e2
                rcases hr__103 with q | q
                · omega
                · exact q.2, fun a => by
              first
              | exact l3 a
              | (rcases hr__103 with q | q
                 · exact q.2
                 · omega), (hP.sub (ws' := [(q, .inr (5, [.int (iI 0), .int (iI ac), .int (iI dI), .int (iI dp), .ref sa, .int (iI bk), .int (iI rs), .int (iI nW), .int (iI nH), .int (iI mt), .int (iI op), .int (iI x), .int (iI y), .int (iI wd), .int (iI ht), .int (iI sc), .int (iI rw), .int (iI ln), .ref ea, .ref fa, .ref ca, .int (iI 0), .int (iI kr), .int (iI kb), .int (iI ov)])), (ea, .inl (cI, 640, .inl (iA B2_51))), (fa, .inl (cI, 640, .inl (iA B2_51))), (ca, .inl (cI, 4096, .inl (iA P))), (sa, .inl (cJ, nS, .inr (.inl S)))]) [3, 4, 0, 1, 2] rfl), (hD.sub (ws' := [(q, .inr (5, [.int (iI 0), .int (iI ac), .int (iI dI), .int (iI dp), .ref sa, .int (iI bk), .int (iI rs), .int (iI nW), .int (iI nH), .int (iI mt), .int (iI op), .int (iI x), .int (iI y), .int (iI wd), .int (iI ht), .int (iI sc), .int (iI rw), .int (iI ln), .ref ea, .ref fa, .ref ca, .int (iI 0), .int (iI kr), .int (iI kb), .int (iI ov)])), (ea, .inl (cI, 640, .inl (iA B2_51))), (fa, .inl (cI, 640, .inl (iA B2_51))), (ca, .inl (cI, 4096, .inl (iA P))), (sa, .inl (cJ, nS, .inr (.inl S)))]) [3, 4, 0, 1, 2] (by decide) rfl), hS, hl⟩
            ·
              refine lv_iload_n hx hb d_Mo_row_109 rfl (lv_at hl 0 rfl) ?_
              refine lv_goto (tgt := 114) hx hb d_Mo_row_110 (by decide) ?_
              refine lv_istore_n (lv' := [(1, .int (iI i2)), (2, .int (iI i2)), (0, .ref q)]) hx hb d_Mo_row_114 rfl hl (by decide) rfl (fun ls hl => ?_)
              refine xi_iinc (lv' := [(2, .int (iI (i2 + 1))), (1, .int (iI i2)), (0, .ref q)]) hx hb d_Mo_row_115 hl (k := 1) rfl (by decide) rfl (fun ls hl => ?_)
              refine lv_goto (tgt := 90) hx hb d_Mo_row_118 (by decide) ?_
              exact ih_90 (i2 + 1) i2 _ _ _ (by omega) ⟨by omega, by omega, by omega, fun k a b => by
              by_cases e : (k : Int) < i2
              · exact l2_ k (by omega) e
              · have e2 : k = i2.toNat := by omega
                subst e2
                rcases hr__103 with q | q
                · omega
                · exact q.2, fun a => by
              first
              | exact l3 a
              | (rcases hr__103 with q | q
                 · exact q.2
                 · omega), (hP.sub (ws' := [(q, .inr (5, [.int (iI 0), .int (iI ac), .int (iI dI), .int (iI dp), .ref sa, .int (iI bk), .int (iI rs), .int (iI nW), .int (iI nH), .int (iI mt), .int (iI op), .int (iI x), .int (iI y), .int (iI wd), .int (iI ht), .int (iI sc), .int (iI rw), .int (iI ln), .ref ea, .ref fa, .ref ca, .int (iI 0), .int (iI kr), .int (iI kb), .int (iI ov)])), (ea, .inl (cI, 640, .inl (iA B2_51))), (fa, .inl (cI, 640, .inl (iA B2_51))), (ca, .inl (cI, 4096, .inl (iA P))), (sa, .inl (cJ, nS, .inr (.inl S)))]) [3, 4, 0, 1, 2] rfl), (hD.sub (ws' := [(q, .inr (5, [.int (iI 0), .int (iI ac), .int (iI dI), .int (iI dp), .ref sa, .int (iI bk), .int (iI rs), .int (iI nW), .int (iI nH), .int (iI mt), .int (iI op), .int (iI x), .int (iI y), .int (iI wd), .int (iI ht), .int (iI sc), .int (iI rw), .int (iI ln), .ref ea, .ref fa, .ref ca, .int (iI 0), .int (iI kr), .int (iI kb), .int (iI ov)])), (ea, .inl (cI, 640, .inl (iA B2_51))), (fa, .inl (cI, 640, .inl (iA B2_51))), (ca, .inl (cI, 4096, .inl (iA P))), (sa, .inl (cJ, nS, .inr (.inl S)))]) [3, 4, 0, 1, 2] (by decide) rfl), hS, hl⟩
        ·
          refine lv_aload_n hx hb d_Mo_row_70 rfl (lv_at hl 2 rfl) ?_
          refine va_get (D := D) (cl := xcl) (ci := 5) (v := .ref ea) (C := R_Mo) (T := T_Mo) (N := 25) hx hb hts i_Mo hown hK hP 0 rfl rfl 18 (by decide) (hts _ kw_521) (fun _ h9 => h9) rfl d_Mo_row_71 ?_
          refine lv_iload_n hx hb d_Mo_row_74 rfl (lv_at hl 0 rfl) ?_
          refine lv_aload_n hx hb d_Mo_row_75 rfl (lv_at hl 2 rfl) ?_
          refine va_get (D := D) (cl := xcl) (ci := 5) (v := .ref fa) (C := R_Mo) (T := T_Mo) (N := 25) hx hb hts i_Mo hown hK hP 0 rfl rfl 19 (by decide) (hts _ kw_522) (fun _ h9 => h9) rfl d_Mo_row_76 ?_
          refine lv_iload_n hx hb d_Mo_row_79 rfl (lv_at hl 0 rfl) ?_
          refine xi_iald hx hb hK hP 2 0 rfl rfl (by omega) (by omega) (by omega) d_Mo_row_80 ?_
          refine xi_iast hx hb hK hP hD hS 1 0 rfl rfl (by omega) (by omega) (by omega) d_Mo_row_81 (fun H locs hP hD hS => ?_)
          have hP : va_P D xcl [(q, .inr (5, [.int (iI 0), .int (iI ac), .int (iI dI), .int (iI dp), .ref sa, .int (iI bk), .int (iI rs), .int (iI nW), .int (iI nH), .int (iI mt), .int (iI op), .int (iI x), .int (iI y), .int (iI wd), .int (iI ht), .int (iI sc), .int (iI rw), .int (iI ln), .ref ea, .ref fa, .ref ca, .int (iI 0), .int (iI kr), .int (iI kb), .int (iI ov)])), (ea, .inl (cI, 640, .inl (iA (va_up B1 i.toNat (B2_51 i.toNat))))), (fa, .inl (cI, 640, .inl (iA B2_51))), (ca, .inl (cI, 4096, .inl (iA P))), (sa, .inl (cJ, nS, .inr (.inl S)))] _ := hP
          have hD : va_D A [(q, .inr (5, [.int (iI 0), .int (iI ac), .int (iI dI), .int (iI dp), .ref sa, .int (iI bk), .int (iI rs), .int (iI nW), .int (iI nH), .int (iI mt), .int (iI op), .int (iI x), .int (iI y), .int (iI wd), .int (iI ht), .int (iI sc), .int (iI rw), .int (iI ln), .ref ea, .ref fa, .ref ca, .int (iI 0), .int (iI kr), .int (iI kb), .int (iI ov)])), (ea, .inl (cI, 640, .inl (iA (va_up B1 i.toNat (B2_51 i.toNat))))), (fa, .inl (cI, 640, .inl (iA B2_51))), (ca, .inl (cI, 4096, .inl (iA P))), (sa, .inl (cJ, nS, .inr (.inl S)))] := hD
          refine xi_iinc (lv' := [(2, .int (iI (i + 1))), (1, .int (iI (-1))), (0, .ref q)]) hx hb d_Mo_row_82 hl (k := 0) rfl (by decide) rfl (fun ls hl => ?_)
          refine lv_goto (tgt := 63) hx hb d_Mo_row_85 (by decide) ?_
          exact ih_63 (i + 1) (va_up B1 i.toNat (B2_51 i.toNat)) _ _ _ (by omega) ⟨by omega, fun j hj => by
            by_cases e : j = i.toNat
            · subst e; exact up_s _ _ _
            · rw [up_n _ _ e]; exact k2 j (by omega), hP, hD, hS, hl⟩
      ·
        intro hJ_50
        refine lv_aload_n hx hb d_Mo_row_25 rfl (lv_at hl 0 rfl) ?_
        refine va_get (D := D) (cl := xcl) (ci := 5) (v := .int (iI ht)) (C := R_Mo) (T := T_Mo) (N := 25) hx hb hts i_Mo hown hK hP 0 rfl rfl 14 (by decide) (hts _ kw_517) (fun _ h9 => h9) rfl d_Mo_row_26 ?_
        refine xi_if_le (tgt := 50) hx hb d_Mo_row_29 (by decide) ⟨by omega, by omega⟩ (fun c_29 => ?_) (fun c_29 => ?_)
        ·
          exact hJ_50 _ _ _ ⟨by omega, hP, hD, hS, hl⟩
        ·
          refine lv_aload_n hx hb d_Mo_row_32 rfl (lv_at hl 0 rfl) ?_
          refine va_get (D := D) (cl := xcl) (ci := 5) (v := .int (iI rw)) (C := R_Mo) (T := T_Mo) (N := 25) hx hb hts i_Mo hown hK hP 0 rfl rfl 16 (by decide) (hts _ kw_519) (fun _ h9 => h9) rfl d_Mo_row_33 ?_
          refine lv_aload_n hx hb d_Mo_row_36 rfl (lv_at hl 0 rfl) ?_
          refine va_get (D := D) (cl := xcl) (ci := 5) (v := .int (iI ht)) (C := R_Mo) (T := T_Mo) (N := 25) hx hb hts i_Mo hown hK hP 0 rfl rfl 14 (by decide) (hts _ kw_517) (fun _ h9 => h9) rfl d_Mo_row_37 ?_
          refine xi_icmp_ne (tgt := 50) hx hb d_Mo_row_40 (by decide) ⟨by omega, by omega⟩ ⟨by omega, by omega⟩ (fun c_40 => ?_) (fun c_40 => ?_)
          ·
            exact hJ_50 _ _ _ ⟨by omega, hP, hD, hS, hl⟩
          ·
            refine lv_aload_n hx hb d_Mo_row_43 rfl (lv_at hl 0 rfl) ?_
            refine xi_iconst hx hb d_Mo_row_44 ?_
            refine va_put (D := D) (cl := xcl) (ci := 5) (v := .int (iI 0)) (ty := .int) (C := R_Mo) (T := T_Mo) (N := 25) hx hb hts i_Mo ty_Mo ty_Mo_ok nm_Mo hown hK hP hD hS 0 rfl rfl 21 (by decide) (hts _ kw_524) (fun _ h9 => h9) rfl (by decide +kernel) rfl rfl (Nat.le_of_ble_eq_true rfl) d_Mo_row_45 (fun H locs hP hD hS => ?_)
            have hP : va_P D xcl [(q, .inr (5, [.int (iI 0), .int (iI ac), .int (iI dI), .int (iI dp), .ref sa, .int (iI bk), .int (iI rs), .int (iI nW), .int (iI nH), .int (iI mt), .int (iI op), .int (iI x), .int (iI y), .int (iI wd), .int (iI ht), .int (iI sc), .int (iI rw), .int (iI ln), .ref ea, .ref fa, .ref ca, .int (iI 0), .int (iI kr), .int (iI kb), .int (iI ov)])), (ea, .inl (cI, 640, .inl (iA B))), (fa, .inl (cI, 640, .inl (iA Fr))), (ca, .inl (cI, 4096, .inl (iA P))), (sa, .inl (cJ, nS, .inr (.inl S)))] _ := hP
            have hD : va_D A [(q, .inr (5, [.int (iI 0), .int (iI ac), .int (iI dI), .int (iI dp), .ref sa, .int (iI bk), .int (iI rs), .int (iI nW), .int (iI nH), .int (iI mt), .int (iI op), .int (iI x), .int (iI y), .int (iI wd), .int (iI ht), .int (iI sc), .int (iI rw), .int (iI ln), .ref ea, .ref fa, .ref ca, .int (iI 0), .int (iI kr), .int (iI kb), .int (iI ov)])), (ea, .inl (cI, 640, .inl (iA B))), (fa, .inl (cI, 640, .inl (iA Fr))), (ca, .inl (cI, 4096, .inl (iA P))), (sa, .inl (cJ, nS, .inr (.inl S)))] := hD
            refine xi_iconst hx hb d_Mo_row_48 ?_
            exact x_iret hx hb hr hlocks hP hD hS (by decide) (by decide) ⟨(-1), 0, B, Fr, 0, rw, kr, kb, ov, bk, S, 0, rfl, rfl, Or.inr (Or.inl ⟨rfl, by omega, by omega, by omega, rfl, rfl, rfl, rfl, rfl, rfl, rfl, rfl, rfl⟩)⟩ d_Mo_row_49
    ·
      exact absurd c_20 (by decide)
