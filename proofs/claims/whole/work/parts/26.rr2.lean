theorem d_RR_look_0 : decode b_RR_look 0 = .ok (.iload_n 1, 1) := by decide +kernel
theorem d_RR_look_1 : decode b_RR_look 1 = .ok (.tableswitch 232 0 13 #[71, 79, 87, 92, 97, 102, 118, 140, 162, 184, 192, 200, 208, 224], 71) := by decide +kernel
theorem d_RR_look_72 : decode b_RR_look 72 = .ok (.aload_n 0, 1) := by decide +kernel
theorem d_RR_look_73 : decode b_RR_look 73 = .ok (.getfield 18, 3) := by decide +kernel
theorem d_RR_look_76 : decode b_RR_look 76 = .ok (.getfield 148, 3) := by decide +kernel
theorem d_RR_look_79 : decode b_RR_look 79 = .ok (.ireturn, 1) := by decide +kernel
theorem d_RR_look_80 : decode b_RR_look 80 = .ok (.aload_n 0, 1) := by decide +kernel
theorem d_RR_look_81 : decode b_RR_look 81 = .ok (.getfield 18, 3) := by decide +kernel
theorem d_RR_look_84 : decode b_RR_look 84 = .ok (.getfield 151, 3) := by decide +kernel
theorem d_RR_look_87 : decode b_RR_look 87 = .ok (.ireturn, 1) := by decide +kernel
theorem d_RR_look_88 : decode b_RR_look 88 = .ok (.aload_n 0, 1) := by decide +kernel
theorem d_RR_look_89 : decode b_RR_look 89 = .ok (.getfield 7, 3) := by decide +kernel
theorem d_RR_look_92 : decode b_RR_look 92 = .ok (.ireturn, 1) := by decide +kernel
theorem d_RR_look_93 : decode b_RR_look 93 = .ok (.aload_n 0, 1) := by decide +kernel
theorem d_RR_look_94 : decode b_RR_look 94 = .ok (.getfield 36, 3) := by decide +kernel
theorem d_RR_look_97 : decode b_RR_look 97 = .ok (.ireturn, 1) := by decide +kernel
theorem d_RR_look_98 : decode b_RR_look 98 = .ok (.aload_n 0, 1) := by decide +kernel
theorem d_RR_look_99 : decode b_RR_look 99 = .ok (.getfield 39, 3) := by decide +kernel
theorem d_RR_look_102 : decode b_RR_look 102 = .ok (.ireturn, 1) := by decide +kernel
theorem d_RR_look_103 : decode b_RR_look 103 = .ok (.aload_n 0, 1) := by decide +kernel
theorem d_RR_look_104 : decode b_RR_look 104 = .ok (.getfield 25, 3) := by decide +kernel
theorem d_RR_look_107 : decode b_RR_look 107 = .ok (.getfield 48, 3) := by decide +kernel
theorem d_RR_look_110 : decode b_RR_look 110 = .ok (.ifCond .eq 7, 3) := by decide +kernel
theorem d_RR_look_113 : decode b_RR_look 113 = .ok (.iconst 1, 1) := by decide +kernel
theorem d_RR_look_114 : decode b_RR_look 114 = .ok (.goto 4, 3) := by decide +kernel
theorem d_RR_look_117 : decode b_RR_look 117 = .ok (.iconst 0, 1) := by decide +kernel
theorem d_RR_look_118 : decode b_RR_look 118 = .ok (.ireturn, 1) := by decide +kernel
theorem d_RR_look_119 : decode b_RR_look 119 = .ok (.aload_n 0, 1) := by decide +kernel
theorem d_RR_look_120 : decode b_RR_look 120 = .ok (.getfield 25, 3) := by decide +kernel
theorem d_RR_look_123 : decode b_RR_look 123 = .ok (.getfield 48, 3) := by decide +kernel
theorem d_RR_look_126 : decode b_RR_look 126 = .ok (.ifCond .eq 13, 3) := by decide +kernel
theorem d_RR_look_129 : decode b_RR_look 129 = .ok (.aload_n 0, 1) := by decide +kernel
theorem d_RR_look_130 : decode b_RR_look 130 = .ok (.getfield 25, 3) := by decide +kernel
theorem d_RR_look_133 : decode b_RR_look 133 = .ok (.getfield 88, 3) := by decide +kernel
theorem d_RR_look_136 : decode b_RR_look 136 = .ok (.goto 4, 3) := by decide +kernel
theorem d_RR_look_139 : decode b_RR_look 139 = .ok (.iconst (-1), 1) := by decide +kernel
theorem d_RR_look_140 : decode b_RR_look 140 = .ok (.ireturn, 1) := by decide +kernel
theorem d_RR_look_141 : decode b_RR_look 141 = .ok (.aload_n 0, 1) := by decide +kernel
theorem d_RR_look_142 : decode b_RR_look 142 = .ok (.getfield 25, 3) := by decide +kernel
theorem d_RR_look_145 : decode b_RR_look 145 = .ok (.getfield 48, 3) := by decide +kernel
theorem d_RR_look_148 : decode b_RR_look 148 = .ok (.ifCond .eq 13, 3) := by decide +kernel
theorem d_RR_look_151 : decode b_RR_look 151 = .ok (.aload_n 0, 1) := by decide +kernel
theorem d_RR_look_152 : decode b_RR_look 152 = .ok (.getfield 25, 3) := by decide +kernel
theorem d_RR_look_155 : decode b_RR_look 155 = .ok (.getfield 154, 3) := by decide +kernel
theorem d_RR_look_158 : decode b_RR_look 158 = .ok (.goto 4, 3) := by decide +kernel
theorem d_RR_look_161 : decode b_RR_look 161 = .ok (.iconst (-1), 1) := by decide +kernel
theorem d_RR_look_162 : decode b_RR_look 162 = .ok (.ireturn, 1) := by decide +kernel
theorem d_RR_look_163 : decode b_RR_look 163 = .ok (.aload_n 0, 1) := by decide +kernel
theorem d_RR_look_164 : decode b_RR_look 164 = .ok (.getfield 25, 3) := by decide +kernel
theorem d_RR_look_167 : decode b_RR_look 167 = .ok (.getfield 48, 3) := by decide +kernel
theorem d_RR_look_170 : decode b_RR_look 170 = .ok (.ifCond .eq 13, 3) := by decide +kernel
theorem d_RR_look_173 : decode b_RR_look 173 = .ok (.aload_n 0, 1) := by decide +kernel
theorem d_RR_look_174 : decode b_RR_look 174 = .ok (.getfield 25, 3) := by decide +kernel
theorem d_RR_look_177 : decode b_RR_look 177 = .ok (.getfield 157, 3) := by decide +kernel
theorem d_RR_look_180 : decode b_RR_look 180 = .ok (.goto 4, 3) := by decide +kernel
theorem d_RR_look_183 : decode b_RR_look 183 = .ok (.iconst (-1), 1) := by decide +kernel
theorem d_RR_look_184 : decode b_RR_look 184 = .ok (.ireturn, 1) := by decide +kernel
theorem d_RR_look_185 : decode b_RR_look 185 = .ok (.aload_n 0, 1) := by decide +kernel
theorem d_RR_look_186 : decode b_RR_look 186 = .ok (.getfield 32, 3) := by decide +kernel
theorem d_RR_look_189 : decode b_RR_look 189 = .ok (.getfield 99, 3) := by decide +kernel
theorem d_RR_look_192 : decode b_RR_look 192 = .ok (.ireturn, 1) := by decide +kernel
theorem d_RR_look_193 : decode b_RR_look 193 = .ok (.aload_n 0, 1) := by decide +kernel
theorem d_RR_look_194 : decode b_RR_look 194 = .ok (.getfield 18, 3) := by decide +kernel
theorem d_RR_look_197 : decode b_RR_look 197 = .ok (.getfield 160, 3) := by decide +kernel
theorem d_RR_look_200 : decode b_RR_look 200 = .ok (.ireturn, 1) := by decide +kernel
theorem d_RR_look_201 : decode b_RR_look 201 = .ok (.aload_n 0, 1) := by decide +kernel
theorem d_RR_look_202 : decode b_RR_look 202 = .ok (.getfield 18, 3) := by decide +kernel
theorem d_RR_look_205 : decode b_RR_look 205 = .ok (.getfield 163, 3) := by decide +kernel
theorem d_RR_look_208 : decode b_RR_look 208 = .ok (.ireturn, 1) := by decide +kernel
theorem d_RR_look_209 : decode b_RR_look 209 = .ok (.aload_n 0, 1) := by decide +kernel
theorem d_RR_look_210 : decode b_RR_look 210 = .ok (.getfield 18, 3) := by decide +kernel
theorem d_RR_look_213 : decode b_RR_look 213 = .ok (.getfield 166, 3) := by decide +kernel
theorem d_RR_look_216 : decode b_RR_look 216 = .ok (.ifCond .eq 7, 3) := by decide +kernel
theorem d_RR_look_219 : decode b_RR_look 219 = .ok (.iconst 1, 1) := by decide +kernel
theorem d_RR_look_220 : decode b_RR_look 220 = .ok (.goto 4, 3) := by decide +kernel
theorem d_RR_look_223 : decode b_RR_look 223 = .ok (.iconst 0, 1) := by decide +kernel
theorem d_RR_look_224 : decode b_RR_look 224 = .ok (.ireturn, 1) := by decide +kernel
theorem d_RR_look_225 : decode b_RR_look 225 = .ok (.aload_n 0, 1) := by decide +kernel
theorem d_RR_look_226 : decode b_RR_look 226 = .ok (.getfield 18, 3) := by decide +kernel
theorem d_RR_look_229 : decode b_RR_look 229 = .ok (.getfield 169, 3) := by decide +kernel
theorem d_RR_look_232 : decode b_RR_look 232 = .ok (.ireturn, 1) := by decide +kernel
theorem d_RR_look_233 : decode b_RR_look 233 = .ok (.iconst (-1), 1) := by decide +kernel
theorem d_RR_look_234 : decode b_RR_look 234 = .ok (.ireturn, 1) := by decide +kernel
theorem ds_RR_look : xDesc y_RR_look 1 := by decide +kernel

abbrev rm_RR_look : Room := { frames := 0, cells := 0, slots := 0, locals := 0 }
set_option maxHeartbeats 4000000 in
set_option maxRecDepth 100000 in
/-- look -/
theorem c_RR_look (l : Launch) (D : va_G) (cI cJ cQ : ClassId) (o : Nat) (dp : Int) (rs : Int) (mt : Int) (nW : Int) (nH : Int) (hs : Nat) (h : Nat) (gp : Nat) (la : Nat) (st : Nat) (ac : Int) (dI : Int) (kr : Int) (kb : Int) (ov : Int) (bd : Int) (a : Nat) (op : Int) (x : Int) (y : Int) (sc : Int) (wd : Int) (ht : Int) (ln : Int) (rw : Int) (bp : Nat) (ct : Int) (wh : Int) (hop : op = 0 ∨ op = 1) (hov : ov = 0 ∨ ov = 1) (hwh : inR wh) : xMet l D (xT cI cJ cQ) y_RR_look b_RR_look 2 (some .int) rm_RR_look [.ref o, .int (iI wh)] [(o, .inr (4, [.int (iI dp), .ref hs, .ref h, .ref gp, .int (iI rs), .int (iI mt), .int (iI nW), .int (iI nH)])), (hs, .inr (3, [.int (iI ac), .int (iI dI), .ref la, .ref st, .int (iI kr), .int (iI kb), .int (iI ov), .int (iI bd)])), (h, .inr (2, [.ref a, .int (iI op), .int (iI x), .int (iI y), .int (iI sc), .int (iI wd), .int (iI ht), .int (iI ln), .int (iI rw)])), (gp, .inr (1, [.ref bp, .int (iI ct)]))] (fun v ws => v = some (.int (iI (lookS wh ac dI dp rs mt op rw ln sc ct kr kb ov bd))) ∧ ws = [(o, .inr (4, [.int (iI dp), .ref hs, .ref h, .ref gp, .int (iI rs), .int (iI mt), .int (iI nW), .int (iI nH)])), (hs, .inr (3, [.int (iI ac), .int (iI dI), .ref la, .ref st, .int (iI kr), .int (iI kb), .int (iI ov), .int (iI bd)])), (h, .inr (2, [.ref a, .int (iI op), .int (iI x), .int (iI y), .int (iI sc), .int (iI wd), .int (iI ht), .int (iI ln), .int (iI rw)])), (gp, .inr (1, [.ref bp, .int (iI ct)]))]) := by
  refine x_met (by decide) (Nat.le_of_ble_eq_true rfl) ?_
  intro p e s m below meth c hx hb hr hml hts hown hlocks hin hF0 A hA hP hD hK ls hl hS
  have hl : lv_has ls 2 [(0, .ref o), (1, .int (iI wh))] := hl
  refine lv_iload_n hx hb d_RR_look_0 rfl (lv_at hl 1 rfl) ?_
  rcases (show (wh < 0 ∨ 13 < wh) ∨ wh = 0 ∨ wh = 1 ∨ wh = 2 ∨ wh = 3 ∨ wh = 4 ∨ wh = 5 ∨ wh = 6 ∨ wh = 7 ∨ wh = 8 ∨ wh = 9 ∨ wh = 10 ∨ wh = 11 ∨ wh = 12 ∨ wh = 13 by omega) with t_1 | t_1 | t_1 | t_1 | t_1 | t_1 | t_1 | t_1 | t_1 | t_1 | t_1 | t_1 | t_1 | t_1 | t_1
  ·
    refine lv_tableOut (tgt := 233) hx hb d_RR_look_1 (by rw [iI_toInt ⟨by omega, by omega⟩]; omega) (by decide) ?_
    refine xi_iconst hx hb d_RR_look_233 ?_
    -- MISMATCH at return 234: [('lookS wh ac dI dp rs mt op rw ln sc ct kr kb ov bd', 'lookS wh ac dI dp rs mt op rw ln sc ct kr kb ov bd', '-1')]
    exact x_iret hx hb hr hlocks hP hD hS (by decide) (by decide) ⟨by rw [lookS_out t_1], rfl⟩ d_RR_look_234
  ·
    subst t_1
    refine lv_tableIn (off := 71) (tgt := 72) hx hb d_RR_look_1 (by decide) (by decide) rfl (by decide) ?_
    refine lv_aload_n hx hb d_RR_look_72 rfl (lv_at hl 0 rfl) ?_
    refine va_get (D := D) (cl := xcl) (ci := 4) (v := .ref hs) (C := R_RR) (T := T_RR) (N := 8) hx hb hts i_RR hown hK hP 0 rfl rfl 1 (by decide) (hts _ kw_142) (fun _ h9 => h9) rfl d_RR_look_73 ?_
    refine va_get (D := D) (cl := xcl) (ci := 3) (v := .int (iI ac)) (C := R_Sh) (T := T_Sh) (N := 8) hx hb hts i_Sh hown hK hP 1 rfl rfl 0 (by decide) (hts _ kw_56) (fun _ h9 => h9) rfl d_RR_look_76 ?_
    -- MISMATCH at return 79: [('lookS wh ac dI dp rs mt op rw ln sc ct kr kb ov bd', 'lookS wh ac dI dp rs mt op rw ln sc ct kr kb ov bd', 'ac')]
    exact x_iret hx hb hr hlocks hP hD hS (by decide) (by decide) ⟨by simp [lookS], rfl⟩ d_RR_look_79
  ·
    subst t_1
    refine lv_tableIn (off := 79) (tgt := 80) hx hb d_RR_look_1 (by decide) (by decide) rfl (by decide) ?_
    refine lv_aload_n hx hb d_RR_look_80 rfl (lv_at hl 0 rfl) ?_
    refine va_get (D := D) (cl := xcl) (ci := 4) (v := .ref hs) (C := R_RR) (T := T_RR) (N := 8) hx hb hts i_RR hown hK hP 0 rfl rfl 1 (by decide) (hts _ kw_142) (fun _ h9 => h9) rfl d_RR_look_81 ?_
    refine va_get (D := D) (cl := xcl) (ci := 3) (v := .int (iI dI)) (C := R_Sh) (T := T_Sh) (N := 8) hx hb hts i_Sh hown hK hP 1 rfl rfl 1 (by decide) (hts _ kw_58) (fun _ h9 => h9) rfl d_RR_look_84 ?_
    -- MISMATCH at return 87: [('lookS wh ac dI dp rs mt op rw ln sc ct kr kb ov bd', 'lookS wh ac dI dp rs mt op rw ln sc ct kr kb ov bd', 'dI')]
    exact x_iret hx hb hr hlocks hP hD hS (by decide) (by decide) ⟨by simp [lookS], rfl⟩ d_RR_look_87
  ·
    subst t_1
    refine lv_tableIn (off := 87) (tgt := 88) hx hb d_RR_look_1 (by decide) (by decide) rfl (by decide) ?_
    refine lv_aload_n hx hb d_RR_look_88 rfl (lv_at hl 0 rfl) ?_
    refine va_get (D := D) (cl := xcl) (ci := 4) (v := .int (iI dp)) (C := R_RR) (T := T_RR) (N := 8) hx hb hts i_RR hown hK hP 0 rfl rfl 0 (by decide) (hts _ kw_141) (fun _ h9 => h9) rfl d_RR_look_89 ?_
    -- MISMATCH at return 92: [('lookS wh ac dI dp rs mt op rw ln sc ct kr kb ov bd', 'lookS wh ac dI dp rs mt op rw ln sc ct kr kb ov bd', 'dp')]
    exact x_iret hx hb hr hlocks hP hD hS (by decide) (by decide) ⟨by simp [lookS], rfl⟩ d_RR_look_92
  ·
    subst t_1
    refine lv_tableIn (off := 92) (tgt := 93) hx hb d_RR_look_1 (by decide) (by decide) rfl (by decide) ?_
    refine lv_aload_n hx hb d_RR_look_93 rfl (lv_at hl 0 rfl) ?_
    refine va_get (D := D) (cl := xcl) (ci := 4) (v := .int (iI rs)) (C := R_RR) (T := T_RR) (N := 8) hx hb hts i_RR hown hK hP 0 rfl rfl 4 (by decide) (hts _ kw_145) (fun _ h9 => h9) rfl d_RR_look_94 ?_
    -- MISMATCH at return 97: [('lookS wh ac dI dp rs mt op rw ln sc ct kr kb ov bd', 'lookS wh ac dI dp rs mt op rw ln sc ct kr kb ov bd', 'rs')]
    exact x_iret hx hb hr hlocks hP hD hS (by decide) (by decide) ⟨by simp [lookS], rfl⟩ d_RR_look_97
  ·
    subst t_1
    refine lv_tableIn (off := 97) (tgt := 98) hx hb d_RR_look_1 (by decide) (by decide) rfl (by decide) ?_
    refine lv_aload_n hx hb d_RR_look_98 rfl (lv_at hl 0 rfl) ?_
    refine va_get (D := D) (cl := xcl) (ci := 4) (v := .int (iI mt)) (C := R_RR) (T := T_RR) (N := 8) hx hb hts i_RR hown hK hP 0 rfl rfl 5 (by decide) (hts _ kw_146) (fun _ h9 => h9) rfl d_RR_look_99 ?_
    -- MISMATCH at return 102: [('lookS wh ac dI dp rs mt op rw ln sc ct kr kb ov bd', 'lookS wh ac dI dp rs mt op rw ln sc ct kr kb ov bd', 'mt')]
    exact x_iret hx hb hr hlocks hP hD hS (by decide) (by decide) ⟨by simp [lookS], rfl⟩ d_RR_look_102
  ·
    subst t_1
    refine lv_tableIn (off := 102) (tgt := 103) hx hb d_RR_look_1 (by decide) (by decide) rfl (by decide) ?_
    refine lv_aload_n hx hb d_RR_look_103 rfl (lv_at hl 0 rfl) ?_
    refine va_get (D := D) (cl := xcl) (ci := 4) (v := .ref h) (C := R_RR) (T := T_RR) (N := 8) hx hb hts i_RR hown hK hP 0 rfl rfl 2 (by decide) (hts _ kw_143) (fun _ h9 => h9) rfl d_RR_look_104 ?_
    refine va_get (D := D) (cl := xcl) (ci := 2) (v := .int (iI op)) (C := R_Ra) (T := T_Ra) (N := 9) hx hb hts i_Ra hown hK hP 2 rfl rfl 1 (by decide) (hts _ kw_95) (fun _ h9 => h9) rfl d_RR_look_107 ?_
    refine xi_if_eq (tgt := 117) hx hb d_RR_look_110 (by decide) ⟨by omega, by omega⟩ (fun c_110 => ?_) (fun c_110 => ?_)
    ·
      refine xi_iconst hx hb d_RR_look_117 ?_
      -- MISMATCH at return 118: [('lookS wh ac dI dp rs mt op rw ln sc ct kr kb ov bd', 'lookS wh ac dI dp rs mt op rw ln sc ct kr kb ov bd', '0')]
      exact x_iret hx hb hr hlocks hP hD hS (by decide) (by decide) ⟨by simp [lookS, c_110], rfl⟩ d_RR_look_118
    ·
      refine xi_iconst hx hb d_RR_look_113 ?_
      refine lv_goto (tgt := 118) hx hb d_RR_look_114 (by decide) ?_
      -- MISMATCH at return 118: [('lookS wh ac dI dp rs mt op rw ln sc ct kr kb ov bd', 'lookS wh ac dI dp rs mt op rw ln sc ct kr kb ov bd', '1')]
      exact x_iret hx hb hr hlocks hP hD hS (by decide) (by decide) ⟨by simp [lookS, c_110], rfl⟩ d_RR_look_118
  ·
    subst t_1
    refine lv_tableIn (off := 118) (tgt := 119) hx hb d_RR_look_1 (by decide) (by decide) rfl (by decide) ?_
    refine lv_aload_n hx hb d_RR_look_119 rfl (lv_at hl 0 rfl) ?_
    refine va_get (D := D) (cl := xcl) (ci := 4) (v := .ref h) (C := R_RR) (T := T_RR) (N := 8) hx hb hts i_RR hown hK hP 0 rfl rfl 2 (by decide) (hts _ kw_143) (fun _ h9 => h9) rfl d_RR_look_120 ?_
    refine va_get (D := D) (cl := xcl) (ci := 2) (v := .int (iI op)) (C := R_Ra) (T := T_Ra) (N := 9) hx hb hts i_Ra hown hK hP 2 rfl rfl 1 (by decide) (hts _ kw_95) (fun _ h9 => h9) rfl d_RR_look_123 ?_
    refine xi_if_eq (tgt := 139) hx hb d_RR_look_126 (by decide) ⟨by omega, by omega⟩ (fun c_126 => ?_) (fun c_126 => ?_)
    ·
      refine xi_iconst hx hb d_RR_look_139 ?_
      -- MISMATCH at return 140: [('lookS wh ac dI dp rs mt op rw ln sc ct kr kb ov bd', 'lookS wh ac dI dp rs mt op rw ln sc ct kr kb ov bd', '-1')]
      exact x_iret hx hb hr hlocks hP hD hS (by decide) (by decide) ⟨by simp [lookS, c_126], rfl⟩ d_RR_look_140
    ·
      refine lv_aload_n hx hb d_RR_look_129 rfl (lv_at hl 0 rfl) ?_
      refine va_get (D := D) (cl := xcl) (ci := 4) (v := .ref h) (C := R_RR) (T := T_RR) (N := 8) hx hb hts i_RR hown hK hP 0 rfl rfl 2 (by decide) (hts _ kw_143) (fun _ h9 => h9) rfl d_RR_look_130 ?_
      refine va_get (D := D) (cl := xcl) (ci := 2) (v := .int (iI rw)) (C := R_Ra) (T := T_Ra) (N := 9) hx hb hts i_Ra hown hK hP 2 rfl rfl 8 (by decide) (hts _ kw_106) (fun _ h9 => h9) rfl d_RR_look_133 ?_
      refine lv_goto (tgt := 140) hx hb d_RR_look_136 (by decide) ?_
      -- MISMATCH at return 140: [('lookS wh ac dI dp rs mt op rw ln sc ct kr kb ov bd', 'lookS wh ac dI dp rs mt op rw ln sc ct kr kb ov bd', 'rw')]
      exact x_iret hx hb hr hlocks hP hD hS (by decide) (by decide) ⟨by simp [lookS, c_126], rfl⟩ d_RR_look_140
  ·
    subst t_1
    refine lv_tableIn (off := 140) (tgt := 141) hx hb d_RR_look_1 (by decide) (by decide) rfl (by decide) ?_
    refine lv_aload_n hx hb d_RR_look_141 rfl (lv_at hl 0 rfl) ?_
    refine va_get (D := D) (cl := xcl) (ci := 4) (v := .ref h) (C := R_RR) (T := T_RR) (N := 8) hx hb hts i_RR hown hK hP 0 rfl rfl 2 (by decide) (hts _ kw_143) (fun _ h9 => h9) rfl d_RR_look_142 ?_
    refine va_get (D := D) (cl := xcl) (ci := 2) (v := .int (iI op)) (C := R_Ra) (T := T_Ra) (N := 9) hx hb hts i_Ra hown hK hP 2 rfl rfl 1 (by decide) (hts _ kw_95) (fun _ h9 => h9) rfl d_RR_look_145 ?_
    refine xi_if_eq (tgt := 161) hx hb d_RR_look_148 (by decide) ⟨by omega, by omega⟩ (fun c_148 => ?_) (fun c_148 => ?_)
    ·
      refine xi_iconst hx hb d_RR_look_161 ?_
      -- MISMATCH at return 162: [('lookS wh ac dI dp rs mt op rw ln sc ct kr kb ov bd', 'lookS wh ac dI dp rs mt op rw ln sc ct kr kb ov bd', '-1')]
      exact x_iret hx hb hr hlocks hP hD hS (by decide) (by decide) ⟨by simp [lookS, c_148], rfl⟩ d_RR_look_162
    ·
      refine lv_aload_n hx hb d_RR_look_151 rfl (lv_at hl 0 rfl) ?_
      refine va_get (D := D) (cl := xcl) (ci := 4) (v := .ref h) (C := R_RR) (T := T_RR) (N := 8) hx hb hts i_RR hown hK hP 0 rfl rfl 2 (by decide) (hts _ kw_143) (fun _ h9 => h9) rfl d_RR_look_152 ?_
      refine va_get (D := D) (cl := xcl) (ci := 2) (v := .int (iI ln)) (C := R_Ra) (T := T_Ra) (N := 9) hx hb hts i_Ra hown hK hP 2 rfl rfl 7 (by decide) (hts _ kw_104) (fun _ h9 => h9) rfl d_RR_look_155 ?_
      refine lv_goto (tgt := 162) hx hb d_RR_look_158 (by decide) ?_
      -- MISMATCH at return 162: [('lookS wh ac dI dp rs mt op rw ln sc ct kr kb ov bd', 'lookS wh ac dI dp rs mt op rw ln sc ct kr kb ov bd', 'ln')]
      exact x_iret hx hb hr hlocks hP hD hS (by decide) (by decide) ⟨by simp [lookS, c_148], rfl⟩ d_RR_look_162
  ·
    subst t_1
    refine lv_tableIn (off := 162) (tgt := 163) hx hb d_RR_look_1 (by decide) (by decide) rfl (by decide) ?_
    refine lv_aload_n hx hb d_RR_look_163 rfl (lv_at hl 0 rfl) ?_
    refine va_get (D := D) (cl := xcl) (ci := 4) (v := .ref h) (C := R_RR) (T := T_RR) (N := 8) hx hb hts i_RR hown hK hP 0 rfl rfl 2 (by decide) (hts _ kw_143) (fun _ h9 => h9) rfl d_RR_look_164 ?_
    refine va_get (D := D) (cl := xcl) (ci := 2) (v := .int (iI op)) (C := R_Ra) (T := T_Ra) (N := 9) hx hb hts i_Ra hown hK hP 2 rfl rfl 1 (by decide) (hts _ kw_95) (fun _ h9 => h9) rfl d_RR_look_167 ?_
    refine xi_if_eq (tgt := 183) hx hb d_RR_look_170 (by decide) ⟨by omega, by omega⟩ (fun c_170 => ?_) (fun c_170 => ?_)
    ·
      refine xi_iconst hx hb d_RR_look_183 ?_
      -- MISMATCH at return 184: [('lookS wh ac dI dp rs mt op rw ln sc ct kr kb ov bd', 'lookS wh ac dI dp rs mt op rw ln sc ct kr kb ov bd', '-1')]
      exact x_iret hx hb hr hlocks hP hD hS (by decide) (by decide) ⟨by simp [lookS, c_170], rfl⟩ d_RR_look_184
    ·
      refine lv_aload_n hx hb d_RR_look_173 rfl (lv_at hl 0 rfl) ?_
      refine va_get (D := D) (cl := xcl) (ci := 4) (v := .ref h) (C := R_RR) (T := T_RR) (N := 8) hx hb hts i_RR hown hK hP 0 rfl rfl 2 (by decide) (hts _ kw_143) (fun _ h9 => h9) rfl d_RR_look_174 ?_
      refine va_get (D := D) (cl := xcl) (ci := 2) (v := .int (iI sc)) (C := R_Ra) (T := T_Ra) (N := 9) hx hb hts i_Ra hown hK hP 2 rfl rfl 4 (by decide) (hts _ kw_100) (fun _ h9 => h9) rfl d_RR_look_177 ?_
      refine lv_goto (tgt := 184) hx hb d_RR_look_180 (by decide) ?_
      -- MISMATCH at return 184: [('lookS wh ac dI dp rs mt op rw ln sc ct kr kb ov bd', 'lookS wh ac dI dp rs mt op rw ln sc ct kr kb ov bd', 'sc')]
      exact x_iret hx hb hr hlocks hP hD hS (by decide) (by decide) ⟨by simp [lookS, c_170], rfl⟩ d_RR_look_184
  ·
    subst t_1
    refine lv_tableIn (off := 184) (tgt := 185) hx hb d_RR_look_1 (by decide) (by decide) rfl (by decide) ?_
    refine lv_aload_n hx hb d_RR_look_185 rfl (lv_at hl 0 rfl) ?_
    refine va_get (D := D) (cl := xcl) (ci := 4) (v := .ref gp) (C := R_RR) (T := T_RR) (N := 8) hx hb hts i_RR hown hK hP 0 rfl rfl 3 (by decide) (hts _ kw_144) (fun _ h9 => h9) rfl d_RR_look_186 ?_
    refine va_get (D := D) (cl := xcl) (ci := 1) (v := .int (iI ct)) (C := R_Pk) (T := T_Pk) (N := 2) hx hb hts i_Pk hown hK hP 3 rfl rfl 1 (by decide) (hts _ kw_135) (fun _ h9 => h9) rfl d_RR_look_189 ?_
    -- MISMATCH at return 192: [('lookS wh ac dI dp rs mt op rw ln sc ct kr kb ov bd', 'lookS wh ac dI dp rs mt op rw ln sc ct kr kb ov bd', 'ct')]
    exact x_iret hx hb hr hlocks hP hD hS (by decide) (by decide) ⟨by simp [lookS], rfl⟩ d_RR_look_192
  ·
    subst t_1
    refine lv_tableIn (off := 192) (tgt := 193) hx hb d_RR_look_1 (by decide) (by decide) rfl (by decide) ?_
    refine lv_aload_n hx hb d_RR_look_193 rfl (lv_at hl 0 rfl) ?_
    refine va_get (D := D) (cl := xcl) (ci := 4) (v := .ref hs) (C := R_RR) (T := T_RR) (N := 8) hx hb hts i_RR hown hK hP 0 rfl rfl 1 (by decide) (hts _ kw_142) (fun _ h9 => h9) rfl d_RR_look_194 ?_
    refine va_get (D := D) (cl := xcl) (ci := 3) (v := .int (iI kr)) (C := R_Sh) (T := T_Sh) (N := 8) hx hb hts i_Sh hown hK hP 1 rfl rfl 4 (by decide) (hts _ kw_62) (fun _ h9 => h9) rfl d_RR_look_197 ?_
    -- MISMATCH at return 200: [('lookS wh ac dI dp rs mt op rw ln sc ct kr kb ov bd', 'lookS wh ac dI dp rs mt op rw ln sc ct kr kb ov bd', 'kr')]
    exact x_iret hx hb hr hlocks hP hD hS (by decide) (by decide) ⟨by simp [lookS], rfl⟩ d_RR_look_200
  ·
    subst t_1
    refine lv_tableIn (off := 200) (tgt := 201) hx hb d_RR_look_1 (by decide) (by decide) rfl (by decide) ?_
    refine lv_aload_n hx hb d_RR_look_201 rfl (lv_at hl 0 rfl) ?_
    refine va_get (D := D) (cl := xcl) (ci := 4) (v := .ref hs) (C := R_RR) (T := T_RR) (N := 8) hx hb hts i_RR hown hK hP 0 rfl rfl 1 (by decide) (hts _ kw_142) (fun _ h9 => h9) rfl d_RR_look_202 ?_
    refine va_get (D := D) (cl := xcl) (ci := 3) (v := .int (iI kb)) (C := R_Sh) (T := T_Sh) (N := 8) hx hb hts i_Sh hown hK hP 1 rfl rfl 5 (by decide) (hts _ kw_64) (fun _ h9 => h9) rfl d_RR_look_205 ?_
    -- MISMATCH at return 208: [('lookS wh ac dI dp rs mt op rw ln sc ct kr kb ov bd', 'lookS wh ac dI dp rs mt op rw ln sc ct kr kb ov bd', 'kb')]
    exact x_iret hx hb hr hlocks hP hD hS (by decide) (by decide) ⟨by simp [lookS], rfl⟩ d_RR_look_208
  ·
    subst t_1
    refine lv_tableIn (off := 208) (tgt := 209) hx hb d_RR_look_1 (by decide) (by decide) rfl (by decide) ?_
    refine lv_aload_n hx hb d_RR_look_209 rfl (lv_at hl 0 rfl) ?_
    refine va_get (D := D) (cl := xcl) (ci := 4) (v := .ref hs) (C := R_RR) (T := T_RR) (N := 8) hx hb hts i_RR hown hK hP 0 rfl rfl 1 (by decide) (hts _ kw_142) (fun _ h9 => h9) rfl d_RR_look_210 ?_
    refine va_get (D := D) (cl := xcl) (ci := 3) (v := .int (iI ov)) (C := R_Sh) (T := T_Sh) (N := 8) hx hb hts i_Sh hown hK hP 1 rfl rfl 6 (by decide) (hts _ kw_66) (fun _ h9 => h9) rfl d_RR_look_213 ?_
    refine xi_if_eq (tgt := 223) hx hb d_RR_look_216 (by decide) ⟨by omega, by omega⟩ (fun c_216 => ?_) (fun c_216 => ?_)
    ·
      refine xi_iconst hx hb d_RR_look_223 ?_
      -- MISMATCH at return 224: [('lookS wh ac dI dp rs mt op rw ln sc ct kr kb ov bd', 'lookS wh ac dI dp rs mt op rw ln sc ct kr kb ov bd', '0')]
      exact x_iret hx hb hr hlocks hP hD hS (by decide) (by decide) ⟨by simp [lookS, c_216], rfl⟩ d_RR_look_224
    ·
      refine xi_iconst hx hb d_RR_look_219 ?_
      refine lv_goto (tgt := 224) hx hb d_RR_look_220 (by decide) ?_
      -- MISMATCH at return 224: [('lookS wh ac dI dp rs mt op rw ln sc ct kr kb ov bd', 'lookS wh ac dI dp rs mt op rw ln sc ct kr kb ov bd', '1')]
      exact x_iret hx hb hr hlocks hP hD hS (by decide) (by decide) ⟨by simp [lookS, c_216], rfl⟩ d_RR_look_224
  ·
    subst t_1
    refine lv_tableIn (off := 224) (tgt := 225) hx hb d_RR_look_1 (by decide) (by decide) rfl (by decide) ?_
    refine lv_aload_n hx hb d_RR_look_225 rfl (lv_at hl 0 rfl) ?_
    refine va_get (D := D) (cl := xcl) (ci := 4) (v := .ref hs) (C := R_RR) (T := T_RR) (N := 8) hx hb hts i_RR hown hK hP 0 rfl rfl 1 (by decide) (hts _ kw_142) (fun _ h9 => h9) rfl d_RR_look_226 ?_
    refine va_get (D := D) (cl := xcl) (ci := 3) (v := .int (iI bd)) (C := R_Sh) (T := T_Sh) (N := 8) hx hb hts i_Sh hown hK hP 1 rfl rfl 7 (by decide) (hts _ kw_68) (fun _ h9 => h9) rfl d_RR_look_229 ?_
    -- MISMATCH at return 232: [('lookS wh ac dI dp rs mt op rw ln sc ct kr kb ov bd', 'lookS wh ac dI dp rs mt op rw ln sc ct kr kb ov bd', 'bd')]
    exact x_iret hx hb hr hlocks hP hD hS (by decide) (by decide) ⟨by simp [lookS], rfl⟩ d_RR_look_232

theorem d_RR_init_0 : decode b_RR_init 0 = .ok (.aload_n 0, 1) := by decide +kernel
theorem d_RR_init_1 : decode b_RR_init 1 = .ok (.invokespecial 1, 3) := by decide +kernel
theorem d_RR_init_4 : decode b_RR_init 4 = .ok (.aload_n 0, 1) := by decide +kernel
theorem d_RR_init_5 : decode b_RR_init 5 = .ok (.iload_n 3, 1) := by decide +kernel
theorem d_RR_init_6 : decode b_RR_init 6 = .ok (.sipush 300, 3) := by decide +kernel
theorem d_RR_init_9 : decode b_RR_init 9 = .ok (.if_icmp .lt 9, 3) := by decide +kernel
theorem d_RR_init_12 : decode b_RR_init 12 = .ok (.sipush 300, 3) := by decide +kernel
theorem d_RR_init_15 : decode b_RR_init 15 = .ok (.goto 18, 3) := by decide +kernel
theorem d_RR_init_18 : decode b_RR_init 18 = .ok (.iload_n 3, 1) := by decide +kernel
theorem d_RR_init_19 : decode b_RR_init 19 = .ok (.sipush 150, 3) := by decide +kernel
theorem d_RR_init_22 : decode b_RR_init 22 = .ok (.if_icmp .lt 9, 3) := by decide +kernel
theorem d_RR_init_25 : decode b_RR_init 25 = .ok (.sipush 150, 3) := by decide +kernel
theorem d_RR_init_28 : decode b_RR_init 28 = .ok (.goto 5, 3) := by decide +kernel
theorem d_RR_init_31 : decode b_RR_init 31 = .ok (.bipush 75, 2) := by decide +kernel
theorem d_RR_init_33 : decode b_RR_init 33 = .ok (.putfield 7, 3) := by decide +kernel
theorem d_RR_init_36 : decode b_RR_init 36 = .ok (.aload_n 0, 1) := by decide +kernel
theorem d_RR_init_37 : decode b_RR_init 37 = .ok (.new 13, 3) := by decide +kernel
theorem d_RR_init_40 : decode b_RR_init 40 = .ok (.dup, 1) := by decide +kernel
theorem d_RR_init_41 : decode b_RR_init 41 = .ok (.iload_n 1, 1) := by decide +kernel
theorem d_RR_init_42 : decode b_RR_init 42 = .ok (.iload_n 2, 1) := by decide +kernel
theorem d_RR_init_43 : decode b_RR_init 43 = .ok (.invokespecial 15, 3) := by decide +kernel
theorem d_RR_init_46 : decode b_RR_init 46 = .ok (.putfield 18, 3) := by decide +kernel
theorem d_RR_init_49 : decode b_RR_init 49 = .ok (.aload_n 0, 1) := by decide +kernel
theorem d_RR_init_50 : decode b_RR_init 50 = .ok (.new 22, 3) := by decide +kernel
theorem d_RR_init_53 : decode b_RR_init 53 = .ok (.dup, 1) := by decide +kernel
theorem d_RR_init_54 : decode b_RR_init 54 = .ok (.invokespecial 24, 3) := by decide +kernel
theorem d_RR_init_57 : decode b_RR_init 57 = .ok (.putfield 25, 3) := by decide +kernel
theorem d_RR_init_60 : decode b_RR_init 60 = .ok (.aload_n 0, 1) := by decide +kernel
theorem d_RR_init_61 : decode b_RR_init 61 = .ok (.new 29, 3) := by decide +kernel
theorem d_RR_init_64 : decode b_RR_init 64 = .ok (.dup, 1) := by decide +kernel
theorem d_RR_init_65 : decode b_RR_init 65 = .ok (.invokespecial 31, 3) := by decide +kernel
theorem d_RR_init_68 : decode b_RR_init 68 = .ok (.putfield 32, 3) := by decide +kernel
theorem d_RR_init_71 : decode b_RR_init 71 = .ok (.aload_n 0, 1) := by decide +kernel
theorem d_RR_init_72 : decode b_RR_init 72 = .ok (.bipush 75, 2) := by decide +kernel
theorem d_RR_init_74 : decode b_RR_init 74 = .ok (.putfield 36, 3) := by decide +kernel
theorem d_RR_init_77 : decode b_RR_init 77 = .ok (.aload_n 0, 1) := by decide +kernel
theorem d_RR_init_78 : decode b_RR_init 78 = .ok (.iconst 0, 1) := by decide +kernel
theorem d_RR_init_79 : decode b_RR_init 79 = .ok (.putfield 39, 3) := by decide +kernel
theorem d_RR_init_82 : decode b_RR_init 82 = .ok (.aload_n 0, 1) := by decide +kernel
theorem d_RR_init_83 : decode b_RR_init 83 = .ok (.iconst 0, 1) := by decide +kernel
theorem d_RR_init_84 : decode b_RR_init 84 = .ok (.putfield 42, 3) := by decide +kernel
theorem d_RR_init_87 : decode b_RR_init 87 = .ok (.aload_n 0, 1) := by decide +kernel
theorem d_RR_init_88 : decode b_RR_init 88 = .ok (.iconst 0, 1) := by decide +kernel
theorem d_RR_init_89 : decode b_RR_init 89 = .ok (.putfield 45, 3) := by decide +kernel
theorem d_RR_init_92 : decode b_RR_init 92 = .ok (.return_, 1) := by decide +kernel
theorem ds_RR_init : xDesc y_RR_init 3 := by decide +kernel

abbrev rm_RR_init : Room := { frames := 3, cells := 8, slots := 9937, locals := 57 }
set_option maxHeartbeats 4000000 in
set_option maxRecDepth 100000 in
/-- RasterRows(width, height, dpi) -/
theorem c_RR_init (l : Launch) (D : va_G) (cI cJ cQ : ClassId) (o : Nat) (ww : Int) (hh : Int) (dd : Int) (hww : inR ww) (hhh : inR hh) (hdd : inR dd) : xMetF l D (xT cI cJ cQ) xF0 y_RR_init b_RR_init 4 none rm_RR_init [.ref o, .int (iI ww), .int (iI hh), .int (iI dd)] [(o, .inr (4, [.int (iI 0), .null, .null, .null, .int (iI 0), .int (iI 0), .int (iI 0), .int (iI 0)]))] (fun v ws => ∃ (hs : Nat) (h : Nat) (gp : Nat) (la : Nat) (st : Nat) (sw : Nat) (nw : Nat) (a : Nat) (bp : Nat) (dv : Int), v = none ∧ ws = [(o, .inr (4, [.int (iI dv), .ref hs, .ref h, .ref gp, .int (iI 75), .int (iI 0), .int (iI 0), .int (iI 0)])), (hs, .inr (3, [.int (iI (max 1 (min ww 5100))), .int (iI (max 1 (min hh 5100))), .ref la, .ref st, .int (iI 0), .int (iI 0), .int (iI 0), .int (iI 0)])), (la, .inl (cQ, ((max 1 (min hh 5100)).toNat), .inr (.inr (.inr (.inr (fun _ => none)))))), (st, .inr (0, [.int (iI (max 1 (min ww 5100))), .ref sw])), (sw, .inl (cJ, nw, .inr (.inl (fun _ => 0)))), (h, .inr (2, [.ref a, .int (iI 0), .int (iI 0), .int (iI 0), .int (iI 1), .int (iI 0), .int (iI 0), .int (iI 0), .int (iI 0)])), (a, .inl (cI, 640, .inl (iA (fun _ => 0)))), (gp, .inr (1, [.ref bp, .int (iI 0)])), (bp, .inl (cI, 4096, .inl (iA (fun _ => 0))))] ∧ ((300 ≤ dd ∧ dv = 300) ∨ (150 ≤ dd ∧ dd < 300 ∧ dv = 150) ∨ (dd < 150 ∧ dv = 75)) ∧ ((nw : Int) = (max 1 (min ww 5100) + 63) / 64)) := by
  refine x_met (by decide) (Nat.le_of_ble_eq_true rfl) ?_
  intro p e s m below meth c hx hb hr hml hts hown hlocks hin hF0 A hA hP hD hK ls hl hS
  have hl : lv_has ls 4 [(0, .ref o), (1, .int (iI ww)), (2, .int (iI hh)), (3, .int (iI dd))] := hl
  refine lv_aload_n hx hb d_RR_init_0 rfl (lv_at hl 0 rfl) ?_
  refine W.objInit hx hb hown (hts _ kw_21) (hts _ kw_22) (hts _ kw_23) rfl (by rw [hml]; exact hl.1) rfl d_RR_init_1 (Nat.le_of_ble_eq_true rfl) (Nat.le_of_ble_eq_true rfl) ?_
  refine W.eq (g2 := F0 m 4 ls []) rfl ?_
  refine x_cut1 33 (cJ := 0) (sJ := 0) (fun (dv : Int) => [.int (iI dv), .ref o]) (fun (dv : Int) H locs ls => ((300 ≤ dd ∧ dv = 300) ∨ (150 ≤ dd ∧ dd < 300 ∧ dv = 150) ∨ (dd < 150 ∧ dv = 75)) ∧ va_P D xcl [(o, .inr (4, [.int (iI 0), .null, .null, .null, .int (iI 0), .int (iI 0), .int (iI 0), .int (iI 0)]))] H ∧ va_D A [(o, .inr (4, [.int (iI 0), .null, .null, .null, .int (iI 0), .int (iI 0), .int (iI 0), .int (iI 0)]))] ∧ va_S A s.heap H locs ∧ lv_has ls 4 [(0, .ref o), (1, .int (iI ww)), (2, .int (iI hh)), (3, .int (iI dd))]) ?_ ?_
  ·
    intro dv H locs ls hI
    obtain ⟨hdv, hP, hD, hS, hl⟩ := hI
    refine va_putF (D := D) (cl := xcl) (ci := 4) (v := .int (iI dv)) (ty := .int) (C := R_RR) (T := T_RR) (N := 8) hx hb hts i_RR ty_RR ty_RR_ok nm_RR hown hK hP hD hS 0 rfl rfl 0 (by decide) (hts _ kw_141) (fun _ h9 => h9) rfl hin rfl (by decide +kernel) rfl rfl (Nat.le_of_ble_eq_true rfl) d_RR_init_33 (fun H locs hP hD hS => ?_)
    have hP : va_P D xcl [(o, .inr (4, [.int (iI dv), .null, .null, .null, .int (iI 0), .int (iI 0), .int (iI 0), .int (iI 0)]))] _ := hP
    have hD : va_D A [(o, .inr (4, [.int (iI dv), .null, .null, .null, .int (iI 0), .int (iI 0), .int (iI 0), .int (iI 0)]))] := hD
    refine lv_aload_n hx hb d_RR_init_36 rfl (lv_at hl 0 rfl) ?_
    refine va_new (ci := 3) (fs := [.int (iI 0), .int (iI 0), .null, .null, .int (iI 0), .int (iI 0), .int (iI 0), .int (iI 0)]) (C := R_Sh) (T := T_Sh) (N := 8) hx hb hts i_Sh ty_Sh ty_Sh_ok hown (hts _ kw_24) (hts _ kw_25) (hts _ kw_2) hK hP hD hS hA rfl (fun j hj => by rcases (show j = 0 ∨ j = 1 ∨ j = 2 ∨ j = 3 ∨ j = 4 ∨ j = 5 ∨ j = 6 ∨ j = 7 by omega) with rfl | rfl | rfl | rfl | rfl | rfl | rfl | rfl <;> rfl) (by decide) (by decide) d_RR_init_37 (fun q37 H hP hD hS => ?_)
    have hP : va_P D xcl [(o, .inr (4, [.int (iI dv), .null, .null, .null, .int (iI 0), .int (iI 0), .int (iI 0), .int (iI 0)])), (q37, .inr (3, [.int (iI 0), .int (iI 0), .null, .null, .int (iI 0), .int (iI 0), .int (iI 0), .int (iI 0)]))] _ := hP
    have hD : va_D A [(o, .inr (4, [.int (iI dv), .null, .null, .null, .int (iI 0), .int (iI 0), .int (iI 0), .int (iI 0)])), (q37, .inr (3, [.int (iI 0), .int (iI 0), .null, .null, .int (iI 0), .int (iI 0), .int (iI 0), .int (iI 0)]))] := hD
    refine W.cs (cells' := 1) (slots' := 8) rfl rfl ?_
    refine lv_dup hx hb d_RR_init_40 rfl ?_
    refine lv_iload_n hx hb d_RR_init_41 rfl (lv_at hl 1 rfl) ?_
    refine lv_iload_n hx hb d_RR_init_42 rfl (lv_at hl 2 rfl) ?_
    refine x_aft (x_runIF (As := [.int (iI ww), .int (iI hh)]) (rest := [.ref q37, .ref o]) hx hb hml hown hts hF0 (c_Sh_init l D cI cJ cQ q37 ww hh (hww) (hhh)) kw_26 kw_27 kw_2 kw_28 rfl ds_Sh_init (by decide) hK (hP.sub (ws' := [(q37, .inr (3, [.int (iI 0), .int (iI 0), .null, .null, .int (iI 0), .int (iI 0), .int (iI 0), .int (iI 0)]))]) [1] rfl) (hD.sub (ws' := [(q37, .inr (3, [.int (iI 0), .int (iI 0), .null, .null, .int (iI 0), .int (iI 0), .int (iI 0), .int (iI 0)]))]) [1] (by decide) rfl) hl.1 rfl (Nat.le_of_ble_eq_true rfl) d_RR_init_43) hP hD hS hA [1] [0] rfl (wr := [(o, .inr (4, [.int (iI dv), .null, .null, .null, .int (iI 0), .int (iI 0), .int (iI 0), .int (iI 0)]))]) rfl (by decide) (by decide) (fun v w1 H locs hq hP hD hS => ?_)
    obtain ⟨la_43, st_43, sw_43, nw_43, rfl, rfl, hnw_43⟩ := hq
    refine W.widen (k := 4) (n := 5190) (by decide) (by decide) ?_
    refine W.eq (g2 := F0 m 46 ls [.ref q37, .ref o]) rfl ?_
    have hP : va_P D xcl [(o, .inr (4, [.int (iI dv), .null, .null, .null, .int (iI 0), .int (iI 0), .int (iI 0), .int (iI 0)])), (q37, .inr (3, [.int (iI (max 1 (min ww 5100))), .int (iI (max 1 (min hh 5100))), .ref la_43, .ref st_43, .int (iI 0), .int (iI 0), .int (iI 0), .int (iI 0)])), (la_43, .inl (cQ, ((max 1 (min hh 5100)).toNat), .inr (.inr (.inr (.inr (fun _ => none)))))), (st_43, .inr (0, [.int (iI (max 1 (min ww 5100))), .ref sw_43])), (sw_43, .inl (cJ, nw_43, .inr (.inl (fun _ => 0))))] _ := hP
    have hD : va_D A [(o, .inr (4, [.int (iI dv), .null, .null, .null, .int (iI 0), .int (iI 0), .int (iI 0), .int (iI 0)])), (q37, .inr (3, [.int (iI (max 1 (min ww 5100))), .int (iI (max 1 (min hh 5100))), .ref la_43, .ref st_43, .int (iI 0), .int (iI 0), .int (iI 0), .int (iI 0)])), (la_43, .inl (cQ, ((max 1 (min hh 5100)).toNat), .inr (.inr (.inr (.inr (fun _ => none)))))), (st_43, .inr (0, [.int (iI (max 1 (min ww 5100))), .ref sw_43])), (sw_43, .inl (cJ, nw_43, .inr (.inl (fun _ => 0))))] := hD
    refine va_putF (D := D) (cl := xcl) (ci := 4) (v := .ref q37) (ty := .object "RasterRows$Sheet") (C := R_RR) (T := T_RR) (N := 8) hx hb hts i_RR ty_RR ty_RR_ok nm_RR hown hK hP hD hS 0 rfl rfl 1 (by decide) (hts _ kw_142) (fun _ h9 => h9) rfl hin rfl (by decide +kernel) rfl rfl (Nat.le_of_ble_eq_true rfl) d_RR_init_46 (fun H locs hP hD hS => ?_)
    have hP : va_P D xcl [(o, .inr (4, [.int (iI dv), .ref q37, .null, .null, .int (iI 0), .int (iI 0), .int (iI 0), .int (iI 0)])), (q37, .inr (3, [.int (iI (max 1 (min ww 5100))), .int (iI (max 1 (min hh 5100))), .ref la_43, .ref st_43, .int (iI 0), .int (iI 0), .int (iI 0), .int (iI 0)])), (la_43, .inl (cQ, ((max 1 (min hh 5100)).toNat), .inr (.inr (.inr (.inr (fun _ => none)))))), (st_43, .inr (0, [.int (iI (max 1 (min ww 5100))), .ref sw_43])), (sw_43, .inl (cJ, nw_43, .inr (.inl (fun _ => 0))))] _ := hP
    have hD : va_D A [(o, .inr (4, [.int (iI dv), .ref q37, .null, .null, .int (iI 0), .int (iI 0), .int (iI 0), .int (iI 0)])), (q37, .inr (3, [.int (iI (max 1 (min ww 5100))), .int (iI (max 1 (min hh 5100))), .ref la_43, .ref st_43, .int (iI 0), .int (iI 0), .int (iI 0), .int (iI 0)])), (la_43, .inl (cQ, ((max 1 (min hh 5100)).toNat), .inr (.inr (.inr (.inr (fun _ => none)))))), (st_43, .inr (0, [.int (iI (max 1 (min ww 5100))), .ref sw_43])), (sw_43, .inl (cJ, nw_43, .inr (.inl (fun _ => 0))))] := hD
    refine lv_aload_n hx hb d_RR_init_49 rfl (lv_at hl 0 rfl) ?_
    refine va_new (ci := 2) (fs := [.null, .int (iI 0), .int (iI 0), .int (iI 0), .int (iI 0), .int (iI 0), .int (iI 0), .int (iI 0), .int (iI 0)]) (C := R_Ra) (T := T_Ra) (N := 9) hx hb hts i_Ra ty_Ra ty_Ra_ok hown (hts _ kw_86) (hts _ kw_87) (hts _ kw_5) hK hP hD hS hA rfl (fun j hj => by rcases (show j = 0 ∨ j = 1 ∨ j = 2 ∨ j = 3 ∨ j = 4 ∨ j = 5 ∨ j = 6 ∨ j = 7 ∨ j = 8 by omega) with rfl | rfl | rfl | rfl | rfl | rfl | rfl | rfl | rfl <;> rfl) (by decide) (by decide) d_RR_init_50 (fun q50 H hP hD hS => ?_)
    have hP : va_P D xcl [(o, .inr (4, [.int (iI dv), .ref q37, .null, .null, .int (iI 0), .int (iI 0), .int (iI 0), .int (iI 0)])), (q37, .inr (3, [.int (iI (max 1 (min ww 5100))), .int (iI (max 1 (min hh 5100))), .ref la_43, .ref st_43, .int (iI 0), .int (iI 0), .int (iI 0), .int (iI 0)])), (la_43, .inl (cQ, ((max 1 (min hh 5100)).toNat), .inr (.inr (.inr (.inr (fun _ => none)))))), (st_43, .inr (0, [.int (iI (max 1 (min ww 5100))), .ref sw_43])), (sw_43, .inl (cJ, nw_43, .inr (.inl (fun _ => 0)))), (q50, .inr (2, [.null, .int (iI 0), .int (iI 0), .int (iI 0), .int (iI 0), .int (iI 0), .int (iI 0), .int (iI 0), .int (iI 0)]))] _ := hP
    have hD : va_D A [(o, .inr (4, [.int (iI dv), .ref q37, .null, .null, .int (iI 0), .int (iI 0), .int (iI 0), .int (iI 0)])), (q37, .inr (3, [.int (iI (max 1 (min ww 5100))), .int (iI (max 1 (min hh 5100))), .ref la_43, .ref st_43, .int (iI 0), .int (iI 0), .int (iI 0), .int (iI 0)])), (la_43, .inl (cQ, ((max 1 (min hh 5100)).toNat), .inr (.inr (.inr (.inr (fun _ => none)))))), (st_43, .inr (0, [.int (iI (max 1 (min ww 5100))), .ref sw_43])), (sw_43, .inl (cJ, nw_43, .inr (.inl (fun _ => 0)))), (q50, .inr (2, [.null, .int (iI 0), .int (iI 0), .int (iI 0), .int (iI 0), .int (iI 0), .int (iI 0), .int (iI 0), .int (iI 0)]))] := hD
    refine W.cs (cells' := 5) (slots' := 5199) rfl rfl ?_
    refine lv_dup hx hb d_RR_init_53 rfl ?_
    refine x_aft (x_runIN (As := []) (rest := [.ref q50, .ref o]) hx hb hml hown hts (c_Ra_init l D cI cJ cQ q50 ) hF0.2.1 kw_89 kw_5 kw_90 rfl ds_Ra_init (by decide) hK (hP.sub (ws' := [(q50, .inr (2, [.null, .int (iI 0), .int (iI 0), .int (iI 0), .int (iI 0), .int (iI 0), .int (iI 0), .int (iI 0), .int (iI 0)]))]) [5] rfl) (hD.sub (ws' := [(q50, .inr (2, [.null, .int (iI 0), .int (iI 0), .int (iI 0), .int (iI 0), .int (iI 0), .int (iI 0), .int (iI 0), .int (iI 0)]))]) [5] (by decide) rfl) hl.1 rfl (Nat.le_of_ble_eq_true rfl) d_RR_init_54) hP hD hS hA [5] [0, 1, 2, 3, 4] rfl (wr := [(o, .inr (4, [.int (iI dv), .ref q37, .null, .null, .int (iI 0), .int (iI 0), .int (iI 0), .int (iI 0)])), (q37, .inr (3, [.int (iI (max 1 (min ww 5100))), .int (iI (max 1 (min hh 5100))), .ref la_43, .ref st_43, .int (iI 0), .int (iI 0), .int (iI 0), .int (iI 0)])), (la_43, .inl (cQ, ((max 1 (min hh 5100)).toNat), .inr (.inr (.inr (.inr (fun _ => none)))))), (st_43, .inr (0, [.int (iI (max 1 (min ww 5100))), .ref sw_43])), (sw_43, .inl (cJ, nw_43, .inr (.inl (fun _ => 0))))]) rfl (by decide) (by decide) (fun v w1 H locs hq hP hD hS => ?_)
    obtain ⟨a_54, rfl, rfl⟩ := hq
    refine W.widen (k := 6) (n := 5839) (by decide) (by decide) ?_
    refine W.eq (g2 := F0 m 57 ls [.ref q50, .ref o]) rfl ?_
    have hP : va_P D xcl [(o, .inr (4, [.int (iI dv), .ref q37, .null, .null, .int (iI 0), .int (iI 0), .int (iI 0), .int (iI 0)])), (q37, .inr (3, [.int (iI (max 1 (min ww 5100))), .int (iI (max 1 (min hh 5100))), .ref la_43, .ref st_43, .int (iI 0), .int (iI 0), .int (iI 0), .int (iI 0)])), (la_43, .inl (cQ, ((max 1 (min hh 5100)).toNat), .inr (.inr (.inr (.inr (fun _ => none)))))), (st_43, .inr (0, [.int (iI (max 1 (min ww 5100))), .ref sw_43])), (sw_43, .inl (cJ, nw_43, .inr (.inl (fun _ => 0)))), (q50, .inr (2, [.ref a_54, .int (iI 0), .int (iI 0), .int (iI 0), .int (iI 1), .int (iI 0), .int (iI 0), .int (iI 0), .int (iI 0)])), (a_54, .inl (cI, 640, .inl (iA (fun _ => 0))))] _ := hP
    have hD : va_D A [(o, .inr (4, [.int (iI dv), .ref q37, .null, .null, .int (iI 0), .int (iI 0), .int (iI 0), .int (iI 0)])), (q37, .inr (3, [.int (iI (max 1 (min ww 5100))), .int (iI (max 1 (min hh 5100))), .ref la_43, .ref st_43, .int (iI 0), .int (iI 0), .int (iI 0), .int (iI 0)])), (la_43, .inl (cQ, ((max 1 (min hh 5100)).toNat), .inr (.inr (.inr (.inr (fun _ => none)))))), (st_43, .inr (0, [.int (iI (max 1 (min ww 5100))), .ref sw_43])), (sw_43, .inl (cJ, nw_43, .inr (.inl (fun _ => 0)))), (q50, .inr (2, [.ref a_54, .int (iI 0), .int (iI 0), .int (iI 0), .int (iI 1), .int (iI 0), .int (iI 0), .int (iI 0), .int (iI 0)])), (a_54, .inl (cI, 640, .inl (iA (fun _ => 0))))] := hD
    refine va_putF (D := D) (cl := xcl) (ci := 4) (v := .ref q50) (ty := .object "RasterRows$Raster") (C := R_RR) (T := T_RR) (N := 8) hx hb hts i_RR ty_RR ty_RR_ok nm_RR hown hK hP hD hS 0 rfl rfl 2 (by decide) (hts _ kw_143) (fun _ h9 => h9) rfl hin rfl (by decide +kernel) rfl rfl (Nat.le_of_ble_eq_true rfl) d_RR_init_57 (fun H locs hP hD hS => ?_)
    have hP : va_P D xcl [(o, .inr (4, [.int (iI dv), .ref q37, .ref q50, .null, .int (iI 0), .int (iI 0), .int (iI 0), .int (iI 0)])), (q37, .inr (3, [.int (iI (max 1 (min ww 5100))), .int (iI (max 1 (min hh 5100))), .ref la_43, .ref st_43, .int (iI 0), .int (iI 0), .int (iI 0), .int (iI 0)])), (la_43, .inl (cQ, ((max 1 (min hh 5100)).toNat), .inr (.inr (.inr (.inr (fun _ => none)))))), (st_43, .inr (0, [.int (iI (max 1 (min ww 5100))), .ref sw_43])), (sw_43, .inl (cJ, nw_43, .inr (.inl (fun _ => 0)))), (q50, .inr (2, [.ref a_54, .int (iI 0), .int (iI 0), .int (iI 0), .int (iI 1), .int (iI 0), .int (iI 0), .int (iI 0), .int (iI 0)])), (a_54, .inl (cI, 640, .inl (iA (fun _ => 0))))] _ := hP
    have hD : va_D A [(o, .inr (4, [.int (iI dv), .ref q37, .ref q50, .null, .int (iI 0), .int (iI 0), .int (iI 0), .int (iI 0)])), (q37, .inr (3, [.int (iI (max 1 (min ww 5100))), .int (iI (max 1 (min hh 5100))), .ref la_43, .ref st_43, .int (iI 0), .int (iI 0), .int (iI 0), .int (iI 0)])), (la_43, .inl (cQ, ((max 1 (min hh 5100)).toNat), .inr (.inr (.inr (.inr (fun _ => none)))))), (st_43, .inr (0, [.int (iI (max 1 (min ww 5100))), .ref sw_43])), (sw_43, .inl (cJ, nw_43, .inr (.inl (fun _ => 0)))), (q50, .inr (2, [.ref a_54, .int (iI 0), .int (iI 0), .int (iI 0), .int (iI 1), .int (iI 0), .int (iI 0), .int (iI 0), .int (iI 0)])), (a_54, .inl (cI, 640, .inl (iA (fun _ => 0))))] := hD
    refine lv_aload_n hx hb d_RR_init_60 rfl (lv_at hl 0 rfl) ?_
    refine va_new (ci := 1) (fs := [.null, .int (iI 0)]) (C := R_Pk) (T := T_Pk) (N := 2) hx hb hts i_Pk ty_Pk ty_Pk_ok hown (hts _ kw_127) (hts _ kw_128) (hts _ kw_6) hK hP hD hS hA rfl (fun j hj => by rcases (show j = 0 ∨ j = 1 by omega) with rfl | rfl <;> rfl) (by decide) (by decide) d_RR_init_61 (fun q61 H hP hD hS => ?_)
    have hP : va_P D xcl [(o, .inr (4, [.int (iI dv), .ref q37, .ref q50, .null, .int (iI 0), .int (iI 0), .int (iI 0), .int (iI 0)])), (q37, .inr (3, [.int (iI (max 1 (min ww 5100))), .int (iI (max 1 (min hh 5100))), .ref la_43, .ref st_43, .int (iI 0), .int (iI 0), .int (iI 0), .int (iI 0)])), (la_43, .inl (cQ, ((max 1 (min hh 5100)).toNat), .inr (.inr (.inr (.inr (fun _ => none)))))), (st_43, .inr (0, [.int (iI (max 1 (min ww 5100))), .ref sw_43])), (sw_43, .inl (cJ, nw_43, .inr (.inl (fun _ => 0)))), (q50, .inr (2, [.ref a_54, .int (iI 0), .int (iI 0), .int (iI 0), .int (iI 1), .int (iI 0), .int (iI 0), .int (iI 0), .int (iI 0)])), (a_54, .inl (cI, 640, .inl (iA (fun _ => 0)))), (q61, .inr (1, [.null, .int (iI 0)]))] _ := hP
    have hD : va_D A [(o, .inr (4, [.int (iI dv), .ref q37, .ref q50, .null, .int (iI 0), .int (iI 0), .int (iI 0), .int (iI 0)])), (q37, .inr (3, [.int (iI (max 1 (min ww 5100))), .int (iI (max 1 (min hh 5100))), .ref la_43, .ref st_43, .int (iI 0), .int (iI 0), .int (iI 0), .int (iI 0)])), (la_43, .inl (cQ, ((max 1 (min hh 5100)).toNat), .inr (.inr (.inr (.inr (fun _ => none)))))), (st_43, .inr (0, [.int (iI (max 1 (min ww 5100))), .ref sw_43])), (sw_43, .inl (cJ, nw_43, .inr (.inl (fun _ => 0)))), (q50, .inr (2, [.ref a_54, .int (iI 0), .int (iI 0), .int (iI 0), .int (iI 1), .int (iI 0), .int (iI 0), .int (iI 0), .int (iI 0)])), (a_54, .inl (cI, 640, .inl (iA (fun _ => 0)))), (q61, .inr (1, [.null, .int (iI 0)]))] := hD
    refine W.cs (cells' := 7) (slots' := 5841) rfl rfl ?_
    refine lv_dup hx hb d_RR_init_64 rfl ?_
    refine x_aft (x_runIN (As := []) (rest := [.ref q61, .ref o]) hx hb hml hown hts (c_Pk_init l D cI cJ cQ q61 ) hF0.2.2.1 kw_130 kw_6 kw_131 rfl ds_Pk_init (by decide) hK (hP.sub (ws' := [(q61, .inr (1, [.null, .int (iI 0)]))]) [7] rfl) (hD.sub (ws' := [(q61, .inr (1, [.null, .int (iI 0)]))]) [7] (by decide) rfl) hl.1 rfl (Nat.le_of_ble_eq_true rfl) d_RR_init_65) hP hD hS hA [7] [0, 1, 2, 3, 4, 5, 6] rfl (wr := [(o, .inr (4, [.int (iI dv), .ref q37, .ref q50, .null, .int (iI 0), .int (iI 0), .int (iI 0), .int (iI 0)])), (q37, .inr (3, [.int (iI (max 1 (min ww 5100))), .int (iI (max 1 (min hh 5100))), .ref la_43, .ref st_43, .int (iI 0), .int (iI 0), .int (iI 0), .int (iI 0)])), (la_43, .inl (cQ, ((max 1 (min hh 5100)).toNat), .inr (.inr (.inr (.inr (fun _ => none)))))), (st_43, .inr (0, [.int (iI (max 1 (min ww 5100))), .ref sw_43])), (sw_43, .inl (cJ, nw_43, .inr (.inl (fun _ => 0)))), (q50, .inr (2, [.ref a_54, .int (iI 0), .int (iI 0), .int (iI 0), .int (iI 1), .int (iI 0), .int (iI 0), .int (iI 0), .int (iI 0)])), (a_54, .inl (cI, 640, .inl (iA (fun _ => 0))))]) rfl (by decide) (by decide) (fun v w1 H locs hq hP hD hS => ?_)
    obtain ⟨b_65, rfl, rfl⟩ := hq
    refine W.widen (k := 8) (n := 9937) (by decide) (by decide) ?_
    refine W.eq (g2 := F0 m 68 ls [.ref q61, .ref o]) rfl ?_
    have hP : va_P D xcl [(o, .inr (4, [.int (iI dv), .ref q37, .ref q50, .null, .int (iI 0), .int (iI 0), .int (iI 0), .int (iI 0)])), (q37, .inr (3, [.int (iI (max 1 (min ww 5100))), .int (iI (max 1 (min hh 5100))), .ref la_43, .ref st_43, .int (iI 0), .int (iI 0), .int (iI 0), .int (iI 0)])), (la_43, .inl (cQ, ((max 1 (min hh 5100)).toNat), .inr (.inr (.inr (.inr (fun _ => none)))))), (st_43, .inr (0, [.int (iI (max 1 (min ww 5100))), .ref sw_43])), (sw_43, .inl (cJ, nw_43, .inr (.inl (fun _ => 0)))), (q50, .inr (2, [.ref a_54, .int (iI 0), .int (iI 0), .int (iI 0), .int (iI 1), .int (iI 0), .int (iI 0), .int (iI 0), .int (iI 0)])), (a_54, .inl (cI, 640, .inl (iA (fun _ => 0)))), (q61, .inr (1, [.ref b_65, .int (iI 0)])), (b_65, .inl (cI, 4096, .inl (iA (fun _ => 0))))] _ := hP
    have hD : va_D A [(o, .inr (4, [.int (iI dv), .ref q37, .ref q50, .null, .int (iI 0), .int (iI 0), .int (iI 0), .int (iI 0)])), (q37, .inr (3, [.int (iI (max 1 (min ww 5100))), .int (iI (max 1 (min hh 5100))), .ref la_43, .ref st_43, .int (iI 0), .int (iI 0), .int (iI 0), .int (iI 0)])), (la_43, .inl (cQ, ((max 1 (min hh 5100)).toNat), .inr (.inr (.inr (.inr (fun _ => none)))))), (st_43, .inr (0, [.int (iI (max 1 (min ww 5100))), .ref sw_43])), (sw_43, .inl (cJ, nw_43, .inr (.inl (fun _ => 0)))), (q50, .inr (2, [.ref a_54, .int (iI 0), .int (iI 0), .int (iI 0), .int (iI 1), .int (iI 0), .int (iI 0), .int (iI 0), .int (iI 0)])), (a_54, .inl (cI, 640, .inl (iA (fun _ => 0)))), (q61, .inr (1, [.ref b_65, .int (iI 0)])), (b_65, .inl (cI, 4096, .inl (iA (fun _ => 0))))] := hD
    refine va_putF (D := D) (cl := xcl) (ci := 4) (v := .ref q61) (ty := .object "RasterRows$Packed") (C := R_RR) (T := T_RR) (N := 8) hx hb hts i_RR ty_RR ty_RR_ok nm_RR hown hK hP hD hS 0 rfl rfl 3 (by decide) (hts _ kw_144) (fun _ h9 => h9) rfl hin rfl (by decide +kernel) rfl rfl (Nat.le_of_ble_eq_true rfl) d_RR_init_68 (fun H locs hP hD hS => ?_)
    have hP : va_P D xcl [(o, .inr (4, [.int (iI dv), .ref q37, .ref q50, .ref q61, .int (iI 0), .int (iI 0), .int (iI 0), .int (iI 0)])), (q37, .inr (3, [.int (iI (max 1 (min ww 5100))), .int (iI (max 1 (min hh 5100))), .ref la_43, .ref st_43, .int (iI 0), .int (iI 0), .int (iI 0), .int (iI 0)])), (la_43, .inl (cQ, ((max 1 (min hh 5100)).toNat), .inr (.inr (.inr (.inr (fun _ => none)))))), (st_43, .inr (0, [.int (iI (max 1 (min ww 5100))), .ref sw_43])), (sw_43, .inl (cJ, nw_43, .inr (.inl (fun _ => 0)))), (q50, .inr (2, [.ref a_54, .int (iI 0), .int (iI 0), .int (iI 0), .int (iI 1), .int (iI 0), .int (iI 0), .int (iI 0), .int (iI 0)])), (a_54, .inl (cI, 640, .inl (iA (fun _ => 0)))), (q61, .inr (1, [.ref b_65, .int (iI 0)])), (b_65, .inl (cI, 4096, .inl (iA (fun _ => 0))))] _ := hP
    have hD : va_D A [(o, .inr (4, [.int (iI dv), .ref q37, .ref q50, .ref q61, .int (iI 0), .int (iI 0), .int (iI 0), .int (iI 0)])), (q37, .inr (3, [.int (iI (max 1 (min ww 5100))), .int (iI (max 1 (min hh 5100))), .ref la_43, .ref st_43, .int (iI 0), .int (iI 0), .int (iI 0), .int (iI 0)])), (la_43, .inl (cQ, ((max 1 (min hh 5100)).toNat), .inr (.inr (.inr (.inr (fun _ => none)))))), (st_43, .inr (0, [.int (iI (max 1 (min ww 5100))), .ref sw_43])), (sw_43, .inl (cJ, nw_43, .inr (.inl (fun _ => 0)))), (q50, .inr (2, [.ref a_54, .int (iI 0), .int (iI 0), .int (iI 0), .int (iI 1), .int (iI 0), .int (iI 0), .int (iI 0), .int (iI 0)])), (a_54, .inl (cI, 640, .inl (iA (fun _ => 0)))), (q61, .inr (1, [.ref b_65, .int (iI 0)])), (b_65, .inl (cI, 4096, .inl (iA (fun _ => 0))))] := hD
    refine lv_aload_n hx hb d_RR_init_71 rfl (lv_at hl 0 rfl) ?_
    refine xi_bipush hx hb d_RR_init_72 (by decide) ?_
    refine va_put (D := D) (cl := xcl) (ci := 4) (v := .int (iI 75)) (ty := .int) (C := R_RR) (T := T_RR) (N := 8) hx hb hts i_RR ty_RR ty_RR_ok nm_RR hown hK hP hD hS 0 rfl rfl 4 (by decide) (hts _ kw_145) (fun _ h9 => h9) rfl (by decide +kernel) rfl rfl (Nat.le_of_ble_eq_true rfl) d_RR_init_74 (fun H locs hP hD hS => ?_)
    have hP : va_P D xcl [(o, .inr (4, [.int (iI dv), .ref q37, .ref q50, .ref q61, .int (iI 75), .int (iI 0), .int (iI 0), .int (iI 0)])), (q37, .inr (3, [.int (iI (max 1 (min ww 5100))), .int (iI (max 1 (min hh 5100))), .ref la_43, .ref st_43, .int (iI 0), .int (iI 0), .int (iI 0), .int (iI 0)])), (la_43, .inl (cQ, ((max 1 (min hh 5100)).toNat), .inr (.inr (.inr (.inr (fun _ => none)))))), (st_43, .inr (0, [.int (iI (max 1 (min ww 5100))), .ref sw_43])), (sw_43, .inl (cJ, nw_43, .inr (.inl (fun _ => 0)))), (q50, .inr (2, [.ref a_54, .int (iI 0), .int (iI 0), .int (iI 0), .int (iI 1), .int (iI 0), .int (iI 0), .int (iI 0), .int (iI 0)])), (a_54, .inl (cI, 640, .inl (iA (fun _ => 0)))), (q61, .inr (1, [.ref b_65, .int (iI 0)])), (b_65, .inl (cI, 4096, .inl (iA (fun _ => 0))))] _ := hP
    have hD : va_D A [(o, .inr (4, [.int (iI dv), .ref q37, .ref q50, .ref q61, .int (iI 75), .int (iI 0), .int (iI 0), .int (iI 0)])), (q37, .inr (3, [.int (iI (max 1 (min ww 5100))), .int (iI (max 1 (min hh 5100))), .ref la_43, .ref st_43, .int (iI 0), .int (iI 0), .int (iI 0), .int (iI 0)])), (la_43, .inl (cQ, ((max 1 (min hh 5100)).toNat), .inr (.inr (.inr (.inr (fun _ => none)))))), (st_43, .inr (0, [.int (iI (max 1 (min ww 5100))), .ref sw_43])), (sw_43, .inl (cJ, nw_43, .inr (.inl (fun _ => 0)))), (q50, .inr (2, [.ref a_54, .int (iI 0), .int (iI 0), .int (iI 0), .int (iI 1), .int (iI 0), .int (iI 0), .int (iI 0), .int (iI 0)])), (a_54, .inl (cI, 640, .inl (iA (fun _ => 0)))), (q61, .inr (1, [.ref b_65, .int (iI 0)])), (b_65, .inl (cI, 4096, .inl (iA (fun _ => 0))))] := hD
    refine lv_aload_n hx hb d_RR_init_77 rfl (lv_at hl 0 rfl) ?_
    refine xi_iconst hx hb d_RR_init_78 ?_
    refine va_put (D := D) (cl := xcl) (ci := 4) (v := .int (iI 0)) (ty := .int) (C := R_RR) (T := T_RR) (N := 8) hx hb hts i_RR ty_RR ty_RR_ok nm_RR hown hK hP hD hS 0 rfl rfl 5 (by decide) (hts _ kw_146) (fun _ h9 => h9) rfl (by decide +kernel) rfl rfl (Nat.le_of_ble_eq_true rfl) d_RR_init_79 (fun H locs hP hD hS => ?_)
    have hP : va_P D xcl [(o, .inr (4, [.int (iI dv), .ref q37, .ref q50, .ref q61, .int (iI 75), .int (iI 0), .int (iI 0), .int (iI 0)])), (q37, .inr (3, [.int (iI (max 1 (min ww 5100))), .int (iI (max 1 (min hh 5100))), .ref la_43, .ref st_43, .int (iI 0), .int (iI 0), .int (iI 0), .int (iI 0)])), (la_43, .inl (cQ, ((max 1 (min hh 5100)).toNat), .inr (.inr (.inr (.inr (fun _ => none)))))), (st_43, .inr (0, [.int (iI (max 1 (min ww 5100))), .ref sw_43])), (sw_43, .inl (cJ, nw_43, .inr (.inl (fun _ => 0)))), (q50, .inr (2, [.ref a_54, .int (iI 0), .int (iI 0), .int (iI 0), .int (iI 1), .int (iI 0), .int (iI 0), .int (iI 0), .int (iI 0)])), (a_54, .inl (cI, 640, .inl (iA (fun _ => 0)))), (q61, .inr (1, [.ref b_65, .int (iI 0)])), (b_65, .inl (cI, 4096, .inl (iA (fun _ => 0))))] _ := hP
    have hD : va_D A [(o, .inr (4, [.int (iI dv), .ref q37, .ref q50, .ref q61, .int (iI 75), .int (iI 0), .int (iI 0), .int (iI 0)])), (q37, .inr (3, [.int (iI (max 1 (min ww 5100))), .int (iI (max 1 (min hh 5100))), .ref la_43, .ref st_43, .int (iI 0), .int (iI 0), .int (iI 0), .int (iI 0)])), (la_43, .inl (cQ, ((max 1 (min hh 5100)).toNat), .inr (.inr (.inr (.inr (fun _ => none)))))), (st_43, .inr (0, [.int (iI (max 1 (min ww 5100))), .ref sw_43])), (sw_43, .inl (cJ, nw_43, .inr (.inl (fun _ => 0)))), (q50, .inr (2, [.ref a_54, .int (iI 0), .int (iI 0), .int (iI 0), .int (iI 1), .int (iI 0), .int (iI 0), .int (iI 0), .int (iI 0)])), (a_54, .inl (cI, 640, .inl (iA (fun _ => 0)))), (q61, .inr (1, [.ref b_65, .int (iI 0)])), (b_65, .inl (cI, 4096, .inl (iA (fun _ => 0))))] := hD
    refine lv_aload_n hx hb d_RR_init_82 rfl (lv_at hl 0 rfl) ?_
    refine xi_iconst hx hb d_RR_init_83 ?_
    refine va_put (D := D) (cl := xcl) (ci := 4) (v := .int (iI 0)) (ty := .int) (C := R_RR) (T := T_RR) (N := 8) hx hb hts i_RR ty_RR ty_RR_ok nm_RR hown hK hP hD hS 0 rfl rfl 6 (by decide) (hts _ kw_147) (fun _ h9 => h9) rfl (by decide +kernel) rfl rfl (Nat.le_of_ble_eq_true rfl) d_RR_init_84 (fun H locs hP hD hS => ?_)
    have hP : va_P D xcl [(o, .inr (4, [.int (iI dv), .ref q37, .ref q50, .ref q61, .int (iI 75), .int (iI 0), .int (iI 0), .int (iI 0)])), (q37, .inr (3, [.int (iI (max 1 (min ww 5100))), .int (iI (max 1 (min hh 5100))), .ref la_43, .ref st_43, .int (iI 0), .int (iI 0), .int (iI 0), .int (iI 0)])), (la_43, .inl (cQ, ((max 1 (min hh 5100)).toNat), .inr (.inr (.inr (.inr (fun _ => none)))))), (st_43, .inr (0, [.int (iI (max 1 (min ww 5100))), .ref sw_43])), (sw_43, .inl (cJ, nw_43, .inr (.inl (fun _ => 0)))), (q50, .inr (2, [.ref a_54, .int (iI 0), .int (iI 0), .int (iI 0), .int (iI 1), .int (iI 0), .int (iI 0), .int (iI 0), .int (iI 0)])), (a_54, .inl (cI, 640, .inl (iA (fun _ => 0)))), (q61, .inr (1, [.ref b_65, .int (iI 0)])), (b_65, .inl (cI, 4096, .inl (iA (fun _ => 0))))] _ := hP
    have hD : va_D A [(o, .inr (4, [.int (iI dv), .ref q37, .ref q50, .ref q61, .int (iI 75), .int (iI 0), .int (iI 0), .int (iI 0)])), (q37, .inr (3, [.int (iI (max 1 (min ww 5100))), .int (iI (max 1 (min hh 5100))), .ref la_43, .ref st_43, .int (iI 0), .int (iI 0), .int (iI 0), .int (iI 0)])), (la_43, .inl (cQ, ((max 1 (min hh 5100)).toNat), .inr (.inr (.inr (.inr (fun _ => none)))))), (st_43, .inr (0, [.int (iI (max 1 (min ww 5100))), .ref sw_43])), (sw_43, .inl (cJ, nw_43, .inr (.inl (fun _ => 0)))), (q50, .inr (2, [.ref a_54, .int (iI 0), .int (iI 0), .int (iI 0), .int (iI 1), .int (iI 0), .int (iI 0), .int (iI 0), .int (iI 0)])), (a_54, .inl (cI, 640, .inl (iA (fun _ => 0)))), (q61, .inr (1, [.ref b_65, .int (iI 0)])), (b_65, .inl (cI, 4096, .inl (iA (fun _ => 0))))] := hD
    refine lv_aload_n hx hb d_RR_init_87 rfl (lv_at hl 0 rfl) ?_
    refine xi_iconst hx hb d_RR_init_88 ?_
    refine va_put (D := D) (cl := xcl) (ci := 4) (v := .int (iI 0)) (ty := .int) (C := R_RR) (T := T_RR) (N := 8) hx hb hts i_RR ty_RR ty_RR_ok nm_RR hown hK hP hD hS 0 rfl rfl 7 (by decide) (hts _ kw_148) (fun _ h9 => h9) rfl (by decide +kernel) rfl rfl (Nat.le_of_ble_eq_true rfl) d_RR_init_89 (fun H locs hP hD hS => ?_)
    have hP : va_P D xcl [(o, .inr (4, [.int (iI dv), .ref q37, .ref q50, .ref q61, .int (iI 75), .int (iI 0), .int (iI 0), .int (iI 0)])), (q37, .inr (3, [.int (iI (max 1 (min ww 5100))), .int (iI (max 1 (min hh 5100))), .ref la_43, .ref st_43, .int (iI 0), .int (iI 0), .int (iI 0), .int (iI 0)])), (la_43, .inl (cQ, ((max 1 (min hh 5100)).toNat), .inr (.inr (.inr (.inr (fun _ => none)))))), (st_43, .inr (0, [.int (iI (max 1 (min ww 5100))), .ref sw_43])), (sw_43, .inl (cJ, nw_43, .inr (.inl (fun _ => 0)))), (q50, .inr (2, [.ref a_54, .int (iI 0), .int (iI 0), .int (iI 0), .int (iI 1), .int (iI 0), .int (iI 0), .int (iI 0), .int (iI 0)])), (a_54, .inl (cI, 640, .inl (iA (fun _ => 0)))), (q61, .inr (1, [.ref b_65, .int (iI 0)])), (b_65, .inl (cI, 4096, .inl (iA (fun _ => 0))))] _ := hP
    have hD : va_D A [(o, .inr (4, [.int (iI dv), .ref q37, .ref q50, .ref q61, .int (iI 75), .int (iI 0), .int (iI 0), .int (iI 0)])), (q37, .inr (3, [.int (iI (max 1 (min ww 5100))), .int (iI (max 1 (min hh 5100))), .ref la_43, .ref st_43, .int (iI 0), .int (iI 0), .int (iI 0), .int (iI 0)])), (la_43, .inl (cQ, ((max 1 (min hh 5100)).toNat), .inr (.inr (.inr (.inr (fun _ => none)))))), (st_43, .inr (0, [.int (iI (max 1 (min ww 5100))), .ref sw_43])), (sw_43, .inl (cJ, nw_43, .inr (.inl (fun _ => 0)))), (q50, .inr (2, [.ref a_54, .int (iI 0), .int (iI 0), .int (iI 0), .int (iI 1), .int (iI 0), .int (iI 0), .int (iI 0), .int (iI 0)])), (a_54, .inl (cI, 640, .inl (iA (fun _ => 0)))), (q61, .inr (1, [.ref b_65, .int (iI 0)])), (b_65, .inl (cI, 4096, .inl (iA (fun _ => 0))))] := hD
    exact x_vret hx hb hr hlocks hP hD hS (by decide) (by decide) ⟨q37, q50, q61, la_43, st_43, sw_43, nw_43, a_54, b_65, dv, rfl, rfl, hdv, hnw_43⟩ d_RR_init_92
  ·
    intro hJ_33
    refine lv_aload_n hx hb d_RR_init_4 rfl (lv_at hl 0 rfl) ?_
    refine lv_iload_n hx hb d_RR_init_5 rfl (lv_at hl 3 rfl) ?_
    refine xi_sipush hx hb d_RR_init_6 (by decide) ?_
    refine xi_icmp_lt (tgt := 18) hx hb d_RR_init_9 (by decide) ⟨by omega, by omega⟩ ⟨by decide, by decide⟩ (fun c_9 => ?_) (fun c_9 => ?_)
    ·
      refine lv_iload_n hx hb d_RR_init_18 rfl (lv_at hl 3 rfl) ?_
      refine xi_sipush hx hb d_RR_init_19 (by decide) ?_
      refine xi_icmp_lt (tgt := 31) hx hb d_RR_init_22 (by decide) ⟨by omega, by omega⟩ ⟨by decide, by decide⟩ (fun c_22 => ?_) (fun c_22 => ?_)
      ·
        refine xi_bipush hx hb d_RR_init_31 (by decide) ?_
        exact hJ_33 75 _ _ _ ⟨by omega, hP, hD, hS, hl⟩
      ·
        refine xi_sipush hx hb d_RR_init_25 (by decide) ?_
        refine lv_goto (tgt := 33) hx hb d_RR_init_28 (by decide) ?_
        exact hJ_33 150 _ _ _ ⟨by omega, hP, hD, hS, hl⟩
    ·
      refine xi_sipush hx hb d_RR_init_12 (by decide) ?_
      refine lv_goto (tgt := 33) hx hb d_RR_init_15 (by decide) ?_
      exact hJ_33 300 _ _ _ ⟨by omega, hP, hD, hS, hl⟩
