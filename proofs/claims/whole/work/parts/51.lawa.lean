set_option maxRecDepth 100000 in
set_option maxHeartbeats 4000000 in
theorem law_kind {p : Program} {l : Launch} {e : Env} {s : State} {m : MethodId} {below : List Frame} {meth : Method} {c : Code} {D : va_G} {cX cM : Nat → ClassId} {Z b L : Nat} {adX adM : Nat → Nat} {xs : Nat → Int32} {Sim : Nat → xS → mS → Prop} (hZ : 1 ≤ Z ∧ Z ≤ 6) (C0 : lw_At p s m meth c b L xs) (hN : nst s) (hL : L ≤ 2561) (hRx : rD (36 + Z) adX) (hRm : rD 19 adM) (hAx : ∀ i, i < 36 + Z → s.heap.size ≤ adX i) (hAm : ∀ i, i < 19 → s.heap.size ≤ adM i) (hXM : ∀ i j, i < 36 + Z → j < 19 → adX i ≠ adM j) (hKx : va_K D clG (tyX cX) s) (hKm : va_K D clG (tyM cM) s) (hSim : LawOK Z Sim) (i k : Nat) (hi : i + 5 ≤ L) (hk : k ≤ 511) (st : xS) (ms : mS) (hs : Sim k st ms) (H : Heap) (locs : List Loc) (ls : Array Slot) (hP : va_P D clG (pw (36 + Z) adX (xgx Z adX cX st)) H) (hQ : va_P D clG (pw 19 adM (mgx Z adM cM ms)) H) (hS : va_S (fun q => s.heap.size ≤ q) s.heap H locs) (hl : lv_has ls 4 [(0, .ref b), (1, .ref (adX 0)), (2, .ref (adM 0)), (3, .int (nI i))]) (kk : ∀ (st : xS) (ms : mS) (H : Heap) (locs : List Loc) (ls : Array Slot), Sim (k + 1) st ms → va_P D clG (pw (36 + Z) adX (xgx Z adX cX st)) H → va_P D clG (pw 19 adM (mgx Z adM cM ms)) H → va_S (fun q => s.heap.size ≤ q) s.heap H locs → lv_has ls 4 [(0, .ref b), (1, .ref (adX 0)), (2, .ref (adM 0)), (3, .int (nI i))] → W p l e room_1 s m #[Value.ref b] below meth c H locs 673831 7080755 (lw_Z below #[Value.ref b] s) (F0 m 666 ls [])) : W p l e room_1 s m #[Value.ref b] below meth c H locs 673831 7080755 (lw_Z below #[Value.ref b] s) (F0 m 128 ls []) := by
  obtain ⟨hx, hb, hr, hml, hown, hts0, hX, hbl, hlocks, hgv⟩ := C0
  have hts : ∀ w ∈ gtb, w.before #[Value.ref b] s = true := fun w h => hts0 w (List.mem_filter.mp h).1
  obtain ⟨h_kind, h_bunker, h_crane, h_grab, h_g2a, h_g2b, h_share, h_air, h_set, h_control, h_burner, h_run, h_bed, h_gas, h_output, h_burning, h_ash, h_balance, h_plan, h_planx, h_planned, h_pdx, h_skip⟩ := hSim
  refine lv_aload_n (pc := 128) hx hb d_Law_128 rfl (lv_at hl 1 rfl) ?_
  refine lv_aload_n (pc := 129) hx hb d_Law_129 rfl (lv_at hl 0 rfl) ?_
  refine lv_iload_n (pc := 130) hx hb d_Law_130 rfl (lv_at hl 3 rfl) ?_
  refine lv_iconst (v := 1) (pc := 131) hx hb d_Law_131 (by decide) ?_
  refine lv_iadd (pc := 132) hx hb d_Law_132 ?_
  refine lw_sld (pc := 133) hx hb hX hbl hS (i + 1) (by omega) (by omega) (nI_add i 1) d_Law_133 ?_
  refine lv_aload_n (pc := 134) hx hb d_Law_134 rfl (lv_at hl 0 rfl) ?_
  refine lv_iload_n (pc := 135) hx hb d_Law_135 rfl (lv_at hl 3 rfl) ?_
  refine lv_iconst (v := 2) (pc := 136) hx hb d_Law_136 (by decide) ?_
  refine lv_iadd (pc := 137) hx hb d_Law_137 ?_
  refine lw_sld (pc := 138) hx hb hX hbl hS (i + 2) (by omega) (by omega) (nI_add i 2) d_Law_138 ?_
  refine lv_aload_n (pc := 139) hx hb d_Law_139 rfl (lv_at hl 0 rfl) ?_
  refine lv_iload_n (pc := 140) hx hb d_Law_140 rfl (lv_at hl 3 rfl) ?_
  refine lv_iconst (v := 3) (pc := 141) hx hb d_Law_141 (by decide) ?_
  refine lv_iadd (pc := 142) hx hb d_Law_142 ?_
  refine lw_sld (pc := 143) hx hb hX hbl hS (i + 3) (by omega) (by omega) (nI_add i 3) d_Law_143 ?_
  refine lw_ci (pc := 144) (va_runV (As := [.int (xs (i + 1)), .int (xs (i + 2)), .int (xs (i + 3))]) (rest := []) ⟨hx, hb, hml, hown, hts⟩ (c_GL_kind (l := l) hRx hZ st (xs (i + 1)) (xs (i + 2)) (xs (i + 3)) _) ⟨callB_of 3 hts (gd_c wd_269) rfl rfl rfl (hts _ wd_1) (hts _ wd_266) hd_GL_kind ⟨Nat.le_of_ble_eq_true rfl, Nat.le_of_ble_eq_true rfl⟩, hts _ wd_267, hts _ wd_268⟩ ⟨rPc_blind _ _ _ _ _ _ _ _, rg_rec hKx hP 0 (by omega) xgx_X rfl, rPc_at _ hP hKx hN⟩ rfl rfl hl.1 rfl (lv_room (Nat.le_of_ble_eq_true rfl)) d_Law_144 ⟨Nat.le_of_ble_eq_true rfl, Nat.le_of_ble_eq_true rfl⟩) hS hAx hQ (fun i j h1 h2 q => hXM j i h2 h1 q.symm) (fun H locs hP hQ hS => ?_)
  refine lv_aload_n (pc := 147) hx hb d_Law_147 rfl (lv_at hl 2 rfl) ?_
  refine lv_aload_n (pc := 148) hx hb d_Law_148 rfl (lv_at hl 0 rfl) ?_
  refine lv_iload_n (pc := 149) hx hb d_Law_149 rfl (lv_at hl 3 rfl) ?_
  refine lv_iconst (v := 1) (pc := 150) hx hb d_Law_150 (by decide) ?_
  refine lv_iadd (pc := 151) hx hb d_Law_151 ?_
  refine lw_sld (pc := 152) hx hb hX hbl hS (i + 1) (by omega) (by omega) (nI_add i 1) d_Law_152 ?_
  refine lv_aload_n (pc := 153) hx hb d_Law_153 rfl (lv_at hl 0 rfl) ?_
  refine lv_iload_n (pc := 154) hx hb d_Law_154 rfl (lv_at hl 3 rfl) ?_
  refine lv_iconst (v := 2) (pc := 155) hx hb d_Law_155 (by decide) ?_
  refine lv_iadd (pc := 156) hx hb d_Law_156 ?_
  refine lw_sld (pc := 157) hx hb hX hbl hS (i + 2) (by omega) (by omega) (nI_add i 2) d_Law_157 ?_
  refine lv_aload_n (pc := 158) hx hb d_Law_158 rfl (lv_at hl 0 rfl) ?_
  refine lv_iload_n (pc := 159) hx hb d_Law_159 rfl (lv_at hl 3 rfl) ?_
  refine lv_iconst (v := 3) (pc := 160) hx hb d_Law_160 (by decide) ?_
  refine lv_iadd (pc := 161) hx hb d_Law_161 ?_
  refine lw_sld (pc := 162) hx hb hX hbl hS (i + 3) (by omega) (by omega) (nI_add i 3) d_Law_162 ?_
  refine lw_ci (pc := 163) (va_runV (As := [.int (xs (i + 1)), .int (xs (i + 2)), .int (xs (i + 3))]) (rest := [.int ((f_GL_kind Z st (xs (i + 1)) (xs (i + 2)) (xs (i + 3))).1)]) ⟨hx, hb, hml, hown, hts⟩ (c_Mo_kind (l := l) hRm hZ ms (xs (i + 1)) (xs (i + 2)) (xs (i + 3)) _) ⟨callB_of 3 hts (gd_c wd_618) rfl rfl rfl (hts _ wd_9) (hts _ wd_615) hd_Mo_kind ⟨Nat.le_of_ble_eq_true rfl, Nat.le_of_ble_eq_true rfl⟩, hts _ wd_616, hts _ wd_617⟩ ⟨rPc_blind _ _ _ _ _ _ _ _, rg_rec hKm hQ 0 (by omega) mgx_M rfl, rPc_at _ hQ hKm hN⟩ rfl rfl hl.1 rfl (lv_room (Nat.le_of_ble_eq_true rfl)) d_Law_163 ⟨Nat.le_of_ble_eq_true rfl, Nat.le_of_ble_eq_true rfl⟩) hS hAm hP hXM (fun H locs hQ hP hS => ?_)
  have hans := h_kind k st ms (xs (i + 1)) (xs (i + 2)) (xs (i + 3)) hs hk
  refine lv_icmp_eq (tgt := 666) (pc := 166) hx hb d_Law_166 (by decide) (fun c_1 => ?_) (fun c_1 => absurd hans.1 c_1)
  exact kk _ _ H locs ls hans.2 hP hQ hS hl

set_option maxRecDepth 100000 in
set_option maxHeartbeats 4000000 in
theorem law_bunker {p : Program} {l : Launch} {e : Env} {s : State} {m : MethodId} {below : List Frame} {meth : Method} {c : Code} {D : va_G} {cX cM : Nat → ClassId} {Z b L : Nat} {adX adM : Nat → Nat} {xs : Nat → Int32} {Sim : Nat → xS → mS → Prop} (hZ : 1 ≤ Z ∧ Z ≤ 6) (C0 : lw_At p s m meth c b L xs) (hN : nst s) (hL : L ≤ 2561) (hRx : rD (36 + Z) adX) (hRm : rD 19 adM) (hAx : ∀ i, i < 36 + Z → s.heap.size ≤ adX i) (hAm : ∀ i, i < 19 → s.heap.size ≤ adM i) (hXM : ∀ i j, i < 36 + Z → j < 19 → adX i ≠ adM j) (hKx : va_K D clG (tyX cX) s) (hKm : va_K D clG (tyM cM) s) (hSim : LawOK Z Sim) (i k : Nat) (hi : i + 5 ≤ L) (hk : k ≤ 511) (st : xS) (ms : mS) (hs : Sim k st ms) (H : Heap) (locs : List Loc) (ls : Array Slot) (hP : va_P D clG (pw (36 + Z) adX (xgx Z adX cX st)) H) (hQ : va_P D clG (pw 19 adM (mgx Z adM cM ms)) H) (hS : va_S (fun q => s.heap.size ≤ q) s.heap H locs) (hl : lv_has ls 4 [(0, .ref b), (1, .ref (adX 0)), (2, .ref (adM 0)), (3, .int (nI i))]) (kk : ∀ (st : xS) (ms : mS) (H : Heap) (locs : List Loc) (ls : Array Slot), Sim (k + 1) st ms → va_P D clG (pw (36 + Z) adX (xgx Z adX cX st)) H → va_P D clG (pw 19 adM (mgx Z adM cM ms)) H → va_S (fun q => s.heap.size ≤ q) s.heap H locs → lv_has ls 4 [(0, .ref b), (1, .ref (adX 0)), (2, .ref (adM 0)), (3, .int (nI i))] → W p l e room_1 s m #[Value.ref b] below meth c H locs 673831 7080755 (lw_Z below #[Value.ref b] s) (F0 m 666 ls [])) : W p l e room_1 s m #[Value.ref b] below meth c H locs 673831 7080755 (lw_Z below #[Value.ref b] s) (F0 m 171 ls []) := by
  obtain ⟨hx, hb, hr, hml, hown, hts0, hX, hbl, hlocks, hgv⟩ := C0
  have hts : ∀ w ∈ gtb, w.before #[Value.ref b] s = true := fun w h => hts0 w (List.mem_filter.mp h).1
  obtain ⟨h_kind, h_bunker, h_crane, h_grab, h_g2a, h_g2b, h_share, h_air, h_set, h_control, h_burner, h_run, h_bed, h_gas, h_output, h_burning, h_ash, h_balance, h_plan, h_planx, h_planned, h_pdx, h_skip⟩ := hSim
  refine lv_aload_n (pc := 171) hx hb d_Law_171 rfl (lv_at hl 1 rfl) ?_
  refine lv_aload_n (pc := 172) hx hb d_Law_172 rfl (lv_at hl 0 rfl) ?_
  refine lv_iload_n (pc := 173) hx hb d_Law_173 rfl (lv_at hl 3 rfl) ?_
  refine lv_iconst (v := 1) (pc := 174) hx hb d_Law_174 (by decide) ?_
  refine lv_iadd (pc := 175) hx hb d_Law_175 ?_
  refine lw_sld (pc := 176) hx hb hX hbl hS (i + 1) (by omega) (by omega) (nI_add i 1) d_Law_176 ?_
  refine lv_aload_n (pc := 177) hx hb d_Law_177 rfl (lv_at hl 0 rfl) ?_
  refine lv_iload_n (pc := 178) hx hb d_Law_178 rfl (lv_at hl 3 rfl) ?_
  refine lv_iconst (v := 2) (pc := 179) hx hb d_Law_179 (by decide) ?_
  refine lv_iadd (pc := 180) hx hb d_Law_180 ?_
  refine lw_sld (pc := 181) hx hb hX hbl hS (i + 2) (by omega) (by omega) (nI_add i 2) d_Law_181 ?_
  refine lv_aload_n (pc := 182) hx hb d_Law_182 rfl (lv_at hl 0 rfl) ?_
  refine lv_iload_n (pc := 183) hx hb d_Law_183 rfl (lv_at hl 3 rfl) ?_
  refine lv_iconst (v := 3) (pc := 184) hx hb d_Law_184 (by decide) ?_
  refine lv_iadd (pc := 185) hx hb d_Law_185 ?_
  refine lw_sld (pc := 186) hx hb hX hbl hS (i + 3) (by omega) (by omega) (nI_add i 3) d_Law_186 ?_
  refine lw_ci (pc := 187) (va_runV (As := [.int (xs (i + 1)), .int (xs (i + 2)), .int (xs (i + 3))]) (rest := []) ⟨hx, hb, hml, hown, hts⟩ (c_GL_bunker (l := l) hRx hZ st (xs (i + 1)) (xs (i + 2)) (xs (i + 3)) _) ⟨callB_of 3 hts (gd_c wd_277) rfl rfl rfl (hts _ wd_1) (hts _ wd_274) hd_GL_bunker ⟨Nat.le_of_ble_eq_true rfl, Nat.le_of_ble_eq_true rfl⟩, hts _ wd_275, hts _ wd_276⟩ ⟨rPc_blind _ _ _ _ _ _ _ _, rg_rec hKx hP 0 (by omega) xgx_X rfl, rPc_at _ hP hKx hN⟩ rfl rfl hl.1 rfl (lv_room (Nat.le_of_ble_eq_true rfl)) d_Law_187 ⟨Nat.le_of_ble_eq_true rfl, Nat.le_of_ble_eq_true rfl⟩) hS hAx hQ (fun i j h1 h2 q => hXM j i h2 h1 q.symm) (fun H locs hP hQ hS => ?_)
  refine lv_aload_n (pc := 190) hx hb d_Law_190 rfl (lv_at hl 2 rfl) ?_
  refine lv_aload_n (pc := 191) hx hb d_Law_191 rfl (lv_at hl 0 rfl) ?_
  refine lv_iload_n (pc := 192) hx hb d_Law_192 rfl (lv_at hl 3 rfl) ?_
  refine lv_iconst (v := 1) (pc := 193) hx hb d_Law_193 (by decide) ?_
  refine lv_iadd (pc := 194) hx hb d_Law_194 ?_
  refine lw_sld (pc := 195) hx hb hX hbl hS (i + 1) (by omega) (by omega) (nI_add i 1) d_Law_195 ?_
  refine lv_aload_n (pc := 196) hx hb d_Law_196 rfl (lv_at hl 0 rfl) ?_
  refine lv_iload_n (pc := 197) hx hb d_Law_197 rfl (lv_at hl 3 rfl) ?_
  refine lv_iconst (v := 2) (pc := 198) hx hb d_Law_198 (by decide) ?_
  refine lv_iadd (pc := 199) hx hb d_Law_199 ?_
  refine lw_sld (pc := 200) hx hb hX hbl hS (i + 2) (by omega) (by omega) (nI_add i 2) d_Law_200 ?_
  refine lv_aload_n (pc := 201) hx hb d_Law_201 rfl (lv_at hl 0 rfl) ?_
  refine lv_iload_n (pc := 202) hx hb d_Law_202 rfl (lv_at hl 3 rfl) ?_
  refine lv_iconst (v := 3) (pc := 203) hx hb d_Law_203 (by decide) ?_
  refine lv_iadd (pc := 204) hx hb d_Law_204 ?_
  refine lw_sld (pc := 205) hx hb hX hbl hS (i + 3) (by omega) (by omega) (nI_add i 3) d_Law_205 ?_
  refine lw_ci (pc := 206) (va_runV (As := [.int (xs (i + 1)), .int (xs (i + 2)), .int (xs (i + 3))]) (rest := [.int ((f_GL_bunker Z st (xs (i + 1)) (xs (i + 2)) (xs (i + 3))).1)]) ⟨hx, hb, hml, hown, hts⟩ (c_Mo_bunker (l := l) hRm hZ ms (xs (i + 1)) (xs (i + 2)) (xs (i + 3)) _) ⟨callB_of 3 hts (gd_c wd_629) rfl rfl rfl (hts _ wd_9) (hts _ wd_626) hd_Mo_bunker ⟨Nat.le_of_ble_eq_true rfl, Nat.le_of_ble_eq_true rfl⟩, hts _ wd_627, hts _ wd_628⟩ ⟨rPc_blind _ _ _ _ _ _ _ _, rg_rec hKm hQ 0 (by omega) mgx_M rfl, rPc_at _ hQ hKm hN⟩ rfl rfl hl.1 rfl (lv_room (Nat.le_of_ble_eq_true rfl)) d_Law_206 ⟨Nat.le_of_ble_eq_true rfl, Nat.le_of_ble_eq_true rfl⟩) hS hAm hP hXM (fun H locs hQ hP hS => ?_)
  have hans := h_bunker k st ms (xs (i + 1)) (xs (i + 2)) (xs (i + 3)) hs hk
  refine lv_icmp_eq (tgt := 666) (pc := 209) hx hb d_Law_209 (by decide) (fun c_1 => ?_) (fun c_1 => absurd hans.1 c_1)
  exact kk _ _ H locs ls hans.2 hP hQ hS hl

set_option maxRecDepth 100000 in
set_option maxHeartbeats 4000000 in
theorem law_crane {p : Program} {l : Launch} {e : Env} {s : State} {m : MethodId} {below : List Frame} {meth : Method} {c : Code} {D : va_G} {cX cM : Nat → ClassId} {Z b L : Nat} {adX adM : Nat → Nat} {xs : Nat → Int32} {Sim : Nat → xS → mS → Prop} (hZ : 1 ≤ Z ∧ Z ≤ 6) (C0 : lw_At p s m meth c b L xs) (hN : nst s) (hL : L ≤ 2561) (hRx : rD (36 + Z) adX) (hRm : rD 19 adM) (hAx : ∀ i, i < 36 + Z → s.heap.size ≤ adX i) (hAm : ∀ i, i < 19 → s.heap.size ≤ adM i) (hXM : ∀ i j, i < 36 + Z → j < 19 → adX i ≠ adM j) (hKx : va_K D clG (tyX cX) s) (hKm : va_K D clG (tyM cM) s) (hSim : LawOK Z Sim) (i k : Nat) (hi : i + 5 ≤ L) (hk : k ≤ 511) (st : xS) (ms : mS) (hs : Sim k st ms) (H : Heap) (locs : List Loc) (ls : Array Slot) (hP : va_P D clG (pw (36 + Z) adX (xgx Z adX cX st)) H) (hQ : va_P D clG (pw 19 adM (mgx Z adM cM ms)) H) (hS : va_S (fun q => s.heap.size ≤ q) s.heap H locs) (hl : lv_has ls 4 [(0, .ref b), (1, .ref (adX 0)), (2, .ref (adM 0)), (3, .int (nI i))]) (kk : ∀ (st : xS) (ms : mS) (H : Heap) (locs : List Loc) (ls : Array Slot), Sim (k + 1) st ms → va_P D clG (pw (36 + Z) adX (xgx Z adX cX st)) H → va_P D clG (pw 19 adM (mgx Z adM cM ms)) H → va_S (fun q => s.heap.size ≤ q) s.heap H locs → lv_has ls 4 [(0, .ref b), (1, .ref (adX 0)), (2, .ref (adM 0)), (3, .int (nI i))] → W p l e room_1 s m #[Value.ref b] below meth c H locs 673831 7080755 (lw_Z below #[Value.ref b] s) (F0 m 666 ls [])) : W p l e room_1 s m #[Value.ref b] below meth c H locs 673831 7080755 (lw_Z below #[Value.ref b] s) (F0 m 214 ls []) := by
  obtain ⟨hx, hb, hr, hml, hown, hts0, hX, hbl, hlocks, hgv⟩ := C0
  have hts : ∀ w ∈ gtb, w.before #[Value.ref b] s = true := fun w h => hts0 w (List.mem_filter.mp h).1
  obtain ⟨h_kind, h_bunker, h_crane, h_grab, h_g2a, h_g2b, h_share, h_air, h_set, h_control, h_burner, h_run, h_bed, h_gas, h_output, h_burning, h_ash, h_balance, h_plan, h_planx, h_planned, h_pdx, h_skip⟩ := hSim
  refine lv_aload_n (pc := 214) hx hb d_Law_214 rfl (lv_at hl 1 rfl) ?_
  refine lv_aload_n (pc := 215) hx hb d_Law_215 rfl (lv_at hl 0 rfl) ?_
  refine lv_iload_n (pc := 216) hx hb d_Law_216 rfl (lv_at hl 3 rfl) ?_
  refine lv_iconst (v := 1) (pc := 217) hx hb d_Law_217 (by decide) ?_
  refine lv_iadd (pc := 218) hx hb d_Law_218 ?_
  refine lw_sld (pc := 219) hx hb hX hbl hS (i + 1) (by omega) (by omega) (nI_add i 1) d_Law_219 ?_
  refine lw_ci (pc := 220) (va_runV (As := [.int (xs (i + 1))]) (rest := []) ⟨hx, hb, hml, hown, hts⟩ (c_GL_crane (l := l) hRx hZ st (xs (i + 1)) _) ⟨callB_of 1 hts (gd_c wd_289) rfl rfl rfl (hts _ wd_1) (hts _ wd_286) hd_GL_crane ⟨Nat.le_of_ble_eq_true rfl, Nat.le_of_ble_eq_true rfl⟩, hts _ wd_287, hts _ wd_288⟩ ⟨rPc_blind _ _ _ _ _ _ _ _, rg_rec hKx hP 0 (by omega) xgx_X rfl, rPc_at _ hP hKx hN⟩ rfl rfl hl.1 rfl (lv_room (Nat.le_of_ble_eq_true rfl)) d_Law_220 ⟨Nat.le_of_ble_eq_true rfl, Nat.le_of_ble_eq_true rfl⟩) hS hAx hQ (fun i j h1 h2 q => hXM j i h2 h1 q.symm) (fun H locs hP hQ hS => ?_)
  refine lv_aload_n (pc := 223) hx hb d_Law_223 rfl (lv_at hl 2 rfl) ?_
  refine lv_aload_n (pc := 224) hx hb d_Law_224 rfl (lv_at hl 0 rfl) ?_
  refine lv_iload_n (pc := 225) hx hb d_Law_225 rfl (lv_at hl 3 rfl) ?_
  refine lv_iconst (v := 1) (pc := 226) hx hb d_Law_226 (by decide) ?_
  refine lv_iadd (pc := 227) hx hb d_Law_227 ?_
  refine lw_sld (pc := 228) hx hb hX hbl hS (i + 1) (by omega) (by omega) (nI_add i 1) d_Law_228 ?_
  refine lw_ci (pc := 229) (va_runV (As := [.int (xs (i + 1))]) (rest := [.int ((f_GL_crane Z st (xs (i + 1))).1)]) ⟨hx, hb, hml, hown, hts⟩ (c_Mo_crane (l := l) hRm hZ ms (xs (i + 1)) _) ⟨callB_of 1 hts (gd_c wd_642) rfl rfl rfl (hts _ wd_9) (hts _ wd_639) hd_Mo_crane ⟨Nat.le_of_ble_eq_true rfl, Nat.le_of_ble_eq_true rfl⟩, hts _ wd_640, hts _ wd_641⟩ ⟨rPc_blind _ _ _ _ _ _ _ _, rg_rec hKm hQ 0 (by omega) mgx_M rfl, rPc_at _ hQ hKm hN⟩ rfl rfl hl.1 rfl (lv_room (Nat.le_of_ble_eq_true rfl)) d_Law_229 ⟨Nat.le_of_ble_eq_true rfl, Nat.le_of_ble_eq_true rfl⟩) hS hAm hP hXM (fun H locs hQ hP hS => ?_)
  have hans := h_crane k st ms (xs (i + 1)) hs hk
  refine lv_icmp_eq (tgt := 666) (pc := 232) hx hb d_Law_232 (by decide) (fun c_1 => ?_) (fun c_1 => absurd hans.1 c_1)
  exact kk _ _ H locs ls hans.2 hP hQ hS hl

set_option maxRecDepth 100000 in
set_option maxHeartbeats 4000000 in
theorem law_grab {p : Program} {l : Launch} {e : Env} {s : State} {m : MethodId} {below : List Frame} {meth : Method} {c : Code} {D : va_G} {cX cM : Nat → ClassId} {Z b L : Nat} {adX adM : Nat → Nat} {xs : Nat → Int32} {Sim : Nat → xS → mS → Prop} (hZ : 1 ≤ Z ∧ Z ≤ 6) (C0 : lw_At p s m meth c b L xs) (hN : nst s) (hL : L ≤ 2561) (hRx : rD (36 + Z) adX) (hRm : rD 19 adM) (hAx : ∀ i, i < 36 + Z → s.heap.size ≤ adX i) (hAm : ∀ i, i < 19 → s.heap.size ≤ adM i) (hXM : ∀ i j, i < 36 + Z → j < 19 → adX i ≠ adM j) (hKx : va_K D clG (tyX cX) s) (hKm : va_K D clG (tyM cM) s) (hSim : LawOK Z Sim) (i k : Nat) (hi : i + 5 ≤ L) (hk : k ≤ 511) (st : xS) (ms : mS) (hs : Sim k st ms) (H : Heap) (locs : List Loc) (ls : Array Slot) (hP : va_P D clG (pw (36 + Z) adX (xgx Z adX cX st)) H) (hQ : va_P D clG (pw 19 adM (mgx Z adM cM ms)) H) (hS : va_S (fun q => s.heap.size ≤ q) s.heap H locs) (hl : lv_has ls 4 [(0, .ref b), (1, .ref (adX 0)), (2, .ref (adM 0)), (3, .int (nI i))]) (kk : ∀ (st : xS) (ms : mS) (H : Heap) (locs : List Loc) (ls : Array Slot), Sim (k + 1) st ms → va_P D clG (pw (36 + Z) adX (xgx Z adX cX st)) H → va_P D clG (pw 19 adM (mgx Z adM cM ms)) H → va_S (fun q => s.heap.size ≤ q) s.heap H locs → lv_has ls 4 [(0, .ref b), (1, .ref (adX 0)), (2, .ref (adM 0)), (3, .int (nI i))] → W p l e room_1 s m #[Value.ref b] below meth c H locs 673831 7080755 (lw_Z below #[Value.ref b] s) (F0 m 666 ls [])) : W p l e room_1 s m #[Value.ref b] below meth c H locs 673831 7080755 (lw_Z below #[Value.ref b] s) (F0 m 237 ls []) := by
  obtain ⟨hx, hb, hr, hml, hown, hts0, hX, hbl, hlocks, hgv⟩ := C0
  have hts : ∀ w ∈ gtb, w.before #[Value.ref b] s = true := fun w h => hts0 w (List.mem_filter.mp h).1
  obtain ⟨h_kind, h_bunker, h_crane, h_grab, h_g2a, h_g2b, h_share, h_air, h_set, h_control, h_burner, h_run, h_bed, h_gas, h_output, h_burning, h_ash, h_balance, h_plan, h_planx, h_planned, h_pdx, h_skip⟩ := hSim
  refine lv_aload_n (pc := 237) hx hb d_Law_237 rfl (lv_at hl 1 rfl) ?_
  refine lv_aload_n (pc := 238) hx hb d_Law_238 rfl (lv_at hl 0 rfl) ?_
  refine lv_iload_n (pc := 239) hx hb d_Law_239 rfl (lv_at hl 3 rfl) ?_
  refine lv_iconst (v := 1) (pc := 240) hx hb d_Law_240 (by decide) ?_
  refine lv_iadd (pc := 241) hx hb d_Law_241 ?_
  refine lw_sld (pc := 242) hx hb hX hbl hS (i + 1) (by omega) (by omega) (nI_add i 1) d_Law_242 ?_
  refine lw_ci (pc := 243) (va_runV (As := [.int (xs (i + 1))]) (rest := []) ⟨hx, hb, hml, hown, hts⟩ (c_GL_grab (l := l) hRx hZ st (xs (i + 1)) _) ⟨callB_of 1 hts (gd_c wd_293) rfl rfl rfl (hts _ wd_1) (hts _ wd_290) hd_GL_grab ⟨Nat.le_of_ble_eq_true rfl, Nat.le_of_ble_eq_true rfl⟩, hts _ wd_291, hts _ wd_292⟩ ⟨rPc_blind _ _ _ _ _ _ _ _, rg_rec hKx hP 0 (by omega) xgx_X rfl, rPc_at _ hP hKx hN⟩ rfl rfl hl.1 rfl (lv_room (Nat.le_of_ble_eq_true rfl)) d_Law_243 ⟨Nat.le_of_ble_eq_true rfl, Nat.le_of_ble_eq_true rfl⟩) hS hAx hQ (fun i j h1 h2 q => hXM j i h2 h1 q.symm) (fun H locs hP hQ hS => ?_)
  refine lv_aload_n (pc := 246) hx hb d_Law_246 rfl (lv_at hl 2 rfl) ?_
  refine lv_aload_n (pc := 247) hx hb d_Law_247 rfl (lv_at hl 0 rfl) ?_
  refine lv_iload_n (pc := 248) hx hb d_Law_248 rfl (lv_at hl 3 rfl) ?_
  refine lv_iconst (v := 1) (pc := 249) hx hb d_Law_249 (by decide) ?_
  refine lv_iadd (pc := 250) hx hb d_Law_250 ?_
  refine lw_sld (pc := 251) hx hb hX hbl hS (i + 1) (by omega) (by omega) (nI_add i 1) d_Law_251 ?_
  refine lw_ci (pc := 252) (va_runV (As := [.int (xs (i + 1))]) (rest := [.int ((f_GL_grab Z st (xs (i + 1))).1)]) ⟨hx, hb, hml, hown, hts⟩ (c_Mo_grab (l := l) hRm hZ ms (xs (i + 1)) (h_g2a k st ms _ hs hk) (h_g2b k st ms _ hs hk) _) ⟨callB_of 1 hts (gd_c wd_647) rfl rfl rfl (hts _ wd_9) (hts _ wd_644) hd_Mo_grab ⟨Nat.le_of_ble_eq_true rfl, Nat.le_of_ble_eq_true rfl⟩, hts _ wd_645, hts _ wd_646⟩ ⟨rPc_blind _ _ _ _ _ _ _ _, rg_rec hKm hQ 0 (by omega) mgx_M rfl, rPc_at _ hQ hKm hN⟩ rfl rfl hl.1 rfl (lv_room (Nat.le_of_ble_eq_true rfl)) d_Law_252 ⟨Nat.le_of_ble_eq_true rfl, Nat.le_of_ble_eq_true rfl⟩) hS hAm hP hXM (fun H locs hQ hP hS => ?_)
  have hans := h_grab k st ms (xs (i + 1)) hs hk
  refine lv_icmp_eq (tgt := 666) (pc := 255) hx hb d_Law_255 (by decide) (fun c_1 => ?_) (fun c_1 => absurd hans.1 c_1)
  exact kk _ _ H locs ls hans.2 hP hQ hS hl

set_option maxRecDepth 100000 in
set_option maxHeartbeats 4000000 in
theorem law_share {p : Program} {l : Launch} {e : Env} {s : State} {m : MethodId} {below : List Frame} {meth : Method} {c : Code} {D : va_G} {cX cM : Nat → ClassId} {Z b L : Nat} {adX adM : Nat → Nat} {xs : Nat → Int32} {Sim : Nat → xS → mS → Prop} (hZ : 1 ≤ Z ∧ Z ≤ 6) (C0 : lw_At p s m meth c b L xs) (hN : nst s) (hL : L ≤ 2561) (hRx : rD (36 + Z) adX) (hRm : rD 19 adM) (hAx : ∀ i, i < 36 + Z → s.heap.size ≤ adX i) (hAm : ∀ i, i < 19 → s.heap.size ≤ adM i) (hXM : ∀ i j, i < 36 + Z → j < 19 → adX i ≠ adM j) (hKx : va_K D clG (tyX cX) s) (hKm : va_K D clG (tyM cM) s) (hSim : LawOK Z Sim) (i k : Nat) (hi : i + 5 ≤ L) (hk : k ≤ 511) (st : xS) (ms : mS) (hs : Sim k st ms) (H : Heap) (locs : List Loc) (ls : Array Slot) (hP : va_P D clG (pw (36 + Z) adX (xgx Z adX cX st)) H) (hQ : va_P D clG (pw 19 adM (mgx Z adM cM ms)) H) (hS : va_S (fun q => s.heap.size ≤ q) s.heap H locs) (hl : lv_has ls 4 [(0, .ref b), (1, .ref (adX 0)), (2, .ref (adM 0)), (3, .int (nI i))]) (kk : ∀ (st : xS) (ms : mS) (H : Heap) (locs : List Loc) (ls : Array Slot), Sim (k + 1) st ms → va_P D clG (pw (36 + Z) adX (xgx Z adX cX st)) H → va_P D clG (pw 19 adM (mgx Z adM cM ms)) H → va_S (fun q => s.heap.size ≤ q) s.heap H locs → lv_has ls 4 [(0, .ref b), (1, .ref (adX 0)), (2, .ref (adM 0)), (3, .int (nI i))] → W p l e room_1 s m #[Value.ref b] below meth c H locs 673831 7080755 (lw_Z below #[Value.ref b] s) (F0 m 666 ls [])) : W p l e room_1 s m #[Value.ref b] below meth c H locs 673831 7080755 (lw_Z below #[Value.ref b] s) (F0 m 260 ls []) := by
  obtain ⟨hx, hb, hr, hml, hown, hts0, hX, hbl, hlocks, hgv⟩ := C0
  have hts : ∀ w ∈ gtb, w.before #[Value.ref b] s = true := fun w h => hts0 w (List.mem_filter.mp h).1
  obtain ⟨h_kind, h_bunker, h_crane, h_grab, h_g2a, h_g2b, h_share, h_air, h_set, h_control, h_burner, h_run, h_bed, h_gas, h_output, h_burning, h_ash, h_balance, h_plan, h_planx, h_planned, h_pdx, h_skip⟩ := hSim
  refine lv_aload_n (pc := 260) hx hb d_Law_260 rfl (lv_at hl 1 rfl) ?_
  refine lv_aload_n (pc := 261) hx hb d_Law_261 rfl (lv_at hl 0 rfl) ?_
  refine lv_iload_n (pc := 262) hx hb d_Law_262 rfl (lv_at hl 3 rfl) ?_
  refine lv_iconst (v := 1) (pc := 263) hx hb d_Law_263 (by decide) ?_
  refine lv_iadd (pc := 264) hx hb d_Law_264 ?_
  refine lw_sld (pc := 265) hx hb hX hbl hS (i + 1) (by omega) (by omega) (nI_add i 1) d_Law_265 ?_
  refine lv_aload_n (pc := 266) hx hb d_Law_266 rfl (lv_at hl 0 rfl) ?_
  refine lv_iload_n (pc := 267) hx hb d_Law_267 rfl (lv_at hl 3 rfl) ?_
  refine lv_iconst (v := 2) (pc := 268) hx hb d_Law_268 (by decide) ?_
  refine lv_iadd (pc := 269) hx hb d_Law_269 ?_
  refine lw_sld (pc := 270) hx hb hX hbl hS (i + 2) (by omega) (by omega) (nI_add i 2) d_Law_270 ?_
  refine lw_ci (pc := 271) (va_runV (As := [.int (xs (i + 1)), .int (xs (i + 2))]) (rest := []) ⟨hx, hb, hml, hown, hts⟩ (c_GL_share (l := l) hRx hZ st (xs (i + 1)) (xs (i + 2)) _) ⟨callB_of 2 hts (gd_c wd_309) rfl rfl rfl (hts _ wd_1) (hts _ wd_306) hd_GL_share ⟨Nat.le_of_ble_eq_true rfl, Nat.le_of_ble_eq_true rfl⟩, hts _ wd_307, hts _ wd_308⟩ ⟨rPc_blind _ _ _ _ _ _ _ _, rg_rec hKx hP 0 (by omega) xgx_X rfl, rPc_at _ hP hKx hN⟩ rfl rfl hl.1 rfl (lv_room (Nat.le_of_ble_eq_true rfl)) d_Law_271 ⟨Nat.le_of_ble_eq_true rfl, Nat.le_of_ble_eq_true rfl⟩) hS hAx hQ (fun i j h1 h2 q => hXM j i h2 h1 q.symm) (fun H locs hP hQ hS => ?_)
  refine lv_aload_n (pc := 274) hx hb d_Law_274 rfl (lv_at hl 2 rfl) ?_
  refine lv_aload_n (pc := 275) hx hb d_Law_275 rfl (lv_at hl 0 rfl) ?_
  refine lv_iload_n (pc := 276) hx hb d_Law_276 rfl (lv_at hl 3 rfl) ?_
  refine lv_iconst (v := 1) (pc := 277) hx hb d_Law_277 (by decide) ?_
  refine lv_iadd (pc := 278) hx hb d_Law_278 ?_
  refine lw_sld (pc := 279) hx hb hX hbl hS (i + 1) (by omega) (by omega) (nI_add i 1) d_Law_279 ?_
  refine lv_aload_n (pc := 280) hx hb d_Law_280 rfl (lv_at hl 0 rfl) ?_
  refine lv_iload_n (pc := 281) hx hb d_Law_281 rfl (lv_at hl 3 rfl) ?_
  refine lv_iconst (v := 2) (pc := 282) hx hb d_Law_282 (by decide) ?_
  refine lv_iadd (pc := 283) hx hb d_Law_283 ?_
  refine lw_sld (pc := 284) hx hb hX hbl hS (i + 2) (by omega) (by omega) (nI_add i 2) d_Law_284 ?_
  refine lw_ci (pc := 285) (va_runV (As := [.int (xs (i + 1)), .int (xs (i + 2))]) (rest := [.int (f_GL_share Z st (xs (i + 1)) (xs (i + 2)))]) ⟨hx, hb, hml, hown, hts⟩ (c_Mo_share (l := l) hRm hZ ms (xs (i + 1)) (xs (i + 2)) _) ⟨callB_of 2 hts (gd_c wd_655) rfl rfl rfl (hts _ wd_9) (hts _ wd_652) hd_Mo_share ⟨Nat.le_of_ble_eq_true rfl, Nat.le_of_ble_eq_true rfl⟩, hts _ wd_653, hts _ wd_654⟩ ⟨rPc_blind _ _ _ _ _ _ _ _, rg_rec hKm hQ 0 (by omega) mgx_M rfl, rPc_at _ hQ hKm hN⟩ rfl rfl hl.1 rfl (lv_room (Nat.le_of_ble_eq_true rfl)) d_Law_285 ⟨Nat.le_of_ble_eq_true rfl, Nat.le_of_ble_eq_true rfl⟩) hS hAm hP hXM (fun H locs hQ hP hS => ?_)
  have hans := h_share k st ms (xs (i + 1)) (xs (i + 2)) hs hk
  refine lv_icmp_eq (tgt := 666) (pc := 288) hx hb d_Law_288 (by decide) (fun c_1 => ?_) (fun c_1 => absurd hans c_1)
  exact kk st ms H locs ls (h_skip k st ms hs hk) hP hQ hS hl

set_option maxRecDepth 100000 in
set_option maxHeartbeats 4000000 in
theorem law_air {p : Program} {l : Launch} {e : Env} {s : State} {m : MethodId} {below : List Frame} {meth : Method} {c : Code} {D : va_G} {cX cM : Nat → ClassId} {Z b L : Nat} {adX adM : Nat → Nat} {xs : Nat → Int32} {Sim : Nat → xS → mS → Prop} (hZ : 1 ≤ Z ∧ Z ≤ 6) (C0 : lw_At p s m meth c b L xs) (hN : nst s) (hL : L ≤ 2561) (hRx : rD (36 + Z) adX) (hRm : rD 19 adM) (hAx : ∀ i, i < 36 + Z → s.heap.size ≤ adX i) (hAm : ∀ i, i < 19 → s.heap.size ≤ adM i) (hXM : ∀ i j, i < 36 + Z → j < 19 → adX i ≠ adM j) (hKx : va_K D clG (tyX cX) s) (hKm : va_K D clG (tyM cM) s) (hSim : LawOK Z Sim) (i k : Nat) (hi : i + 5 ≤ L) (hk : k ≤ 511) (st : xS) (ms : mS) (hs : Sim k st ms) (H : Heap) (locs : List Loc) (ls : Array Slot) (hP : va_P D clG (pw (36 + Z) adX (xgx Z adX cX st)) H) (hQ : va_P D clG (pw 19 adM (mgx Z adM cM ms)) H) (hS : va_S (fun q => s.heap.size ≤ q) s.heap H locs) (hl : lv_has ls 4 [(0, .ref b), (1, .ref (adX 0)), (2, .ref (adM 0)), (3, .int (nI i))]) (kk : ∀ (st : xS) (ms : mS) (H : Heap) (locs : List Loc) (ls : Array Slot), Sim (k + 1) st ms → va_P D clG (pw (36 + Z) adX (xgx Z adX cX st)) H → va_P D clG (pw 19 adM (mgx Z adM cM ms)) H → va_S (fun q => s.heap.size ≤ q) s.heap H locs → lv_has ls 4 [(0, .ref b), (1, .ref (adX 0)), (2, .ref (adM 0)), (3, .int (nI i))] → W p l e room_1 s m #[Value.ref b] below meth c H locs 673831 7080755 (lw_Z below #[Value.ref b] s) (F0 m 666 ls [])) : W p l e room_1 s m #[Value.ref b] below meth c H locs 673831 7080755 (lw_Z below #[Value.ref b] s) (F0 m 293 ls []) := by
  obtain ⟨hx, hb, hr, hml, hown, hts0, hX, hbl, hlocks, hgv⟩ := C0
  have hts : ∀ w ∈ gtb, w.before #[Value.ref b] s = true := fun w h => hts0 w (List.mem_filter.mp h).1
  obtain ⟨h_kind, h_bunker, h_crane, h_grab, h_g2a, h_g2b, h_share, h_air, h_set, h_control, h_burner, h_run, h_bed, h_gas, h_output, h_burning, h_ash, h_balance, h_plan, h_planx, h_planned, h_pdx, h_skip⟩ := hSim
  refine lv_aload_n (pc := 293) hx hb d_Law_293 rfl (lv_at hl 1 rfl) ?_
  refine lv_aload_n (pc := 294) hx hb d_Law_294 rfl (lv_at hl 0 rfl) ?_
  refine lv_iload_n (pc := 295) hx hb d_Law_295 rfl (lv_at hl 3 rfl) ?_
  refine lv_iconst (v := 1) (pc := 296) hx hb d_Law_296 (by decide) ?_
  refine lv_iadd (pc := 297) hx hb d_Law_297 ?_
  refine lw_sld (pc := 298) hx hb hX hbl hS (i + 1) (by omega) (by omega) (nI_add i 1) d_Law_298 ?_
  refine lv_aload_n (pc := 299) hx hb d_Law_299 rfl (lv_at hl 0 rfl) ?_
  refine lv_iload_n (pc := 300) hx hb d_Law_300 rfl (lv_at hl 3 rfl) ?_
  refine lv_iconst (v := 2) (pc := 301) hx hb d_Law_301 (by decide) ?_
  refine lv_iadd (pc := 302) hx hb d_Law_302 ?_
  refine lw_sld (pc := 303) hx hb hX hbl hS (i + 2) (by omega) (by omega) (nI_add i 2) d_Law_303 ?_
  refine lv_aload_n (pc := 304) hx hb d_Law_304 rfl (lv_at hl 0 rfl) ?_
  refine lv_iload_n (pc := 305) hx hb d_Law_305 rfl (lv_at hl 3 rfl) ?_
  refine lv_iconst (v := 3) (pc := 306) hx hb d_Law_306 (by decide) ?_
  refine lv_iadd (pc := 307) hx hb d_Law_307 ?_
  refine lw_sld (pc := 308) hx hb hX hbl hS (i + 3) (by omega) (by omega) (nI_add i 3) d_Law_308 ?_
  refine lw_ci (pc := 309) (va_runV (As := [.int (xs (i + 1)), .int (xs (i + 2)), .int (xs (i + 3))]) (rest := []) ⟨hx, hb, hml, hown, hts⟩ (c_GL_air (l := l) hRx hZ st (xs (i + 1)) (xs (i + 2)) (xs (i + 3)) _) ⟨callB_of 3 hts (gd_c wd_313) rfl rfl rfl (hts _ wd_1) (hts _ wd_310) hd_GL_air ⟨Nat.le_of_ble_eq_true rfl, Nat.le_of_ble_eq_true rfl⟩, hts _ wd_311, hts _ wd_312⟩ ⟨rPc_blind _ _ _ _ _ _ _ _, rg_rec hKx hP 0 (by omega) xgx_X rfl, rPc_at _ hP hKx hN⟩ rfl rfl hl.1 rfl (lv_room (Nat.le_of_ble_eq_true rfl)) d_Law_309 ⟨Nat.le_of_ble_eq_true rfl, Nat.le_of_ble_eq_true rfl⟩) hS hAx hQ (fun i j h1 h2 q => hXM j i h2 h1 q.symm) (fun H locs hP hQ hS => ?_)
  refine lv_aload_n (pc := 312) hx hb d_Law_312 rfl (lv_at hl 2 rfl) ?_
  refine lv_aload_n (pc := 313) hx hb d_Law_313 rfl (lv_at hl 0 rfl) ?_
  refine lv_iload_n (pc := 314) hx hb d_Law_314 rfl (lv_at hl 3 rfl) ?_
  refine lv_iconst (v := 1) (pc := 315) hx hb d_Law_315 (by decide) ?_
  refine lv_iadd (pc := 316) hx hb d_Law_316 ?_
  refine lw_sld (pc := 317) hx hb hX hbl hS (i + 1) (by omega) (by omega) (nI_add i 1) d_Law_317 ?_
  refine lv_aload_n (pc := 318) hx hb d_Law_318 rfl (lv_at hl 0 rfl) ?_
  refine lv_iload_n (pc := 319) hx hb d_Law_319 rfl (lv_at hl 3 rfl) ?_
  refine lv_iconst (v := 2) (pc := 320) hx hb d_Law_320 (by decide) ?_
  refine lv_iadd (pc := 321) hx hb d_Law_321 ?_
  refine lw_sld (pc := 322) hx hb hX hbl hS (i + 2) (by omega) (by omega) (nI_add i 2) d_Law_322 ?_
  refine lv_aload_n (pc := 323) hx hb d_Law_323 rfl (lv_at hl 0 rfl) ?_
  refine lv_iload_n (pc := 324) hx hb d_Law_324 rfl (lv_at hl 3 rfl) ?_
  refine lv_iconst (v := 3) (pc := 325) hx hb d_Law_325 (by decide) ?_
  refine lv_iadd (pc := 326) hx hb d_Law_326 ?_
  refine lw_sld (pc := 327) hx hb hX hbl hS (i + 3) (by omega) (by omega) (nI_add i 3) d_Law_327 ?_
  refine lw_ci (pc := 328) (va_runV (As := [.int (xs (i + 1)), .int (xs (i + 2)), .int (xs (i + 3))]) (rest := [.int ((f_GL_air Z st (xs (i + 1)) (xs (i + 2)) (xs (i + 3))).1)]) ⟨hx, hb, hml, hown, hts⟩ (c_Mo_air (l := l) hRm hZ ms (xs (i + 1)) (xs (i + 2)) (xs (i + 3)) _) ⟨callB_of 3 hts (gd_c wd_659) rfl rfl rfl (hts _ wd_9) (hts _ wd_656) hd_Mo_air ⟨Nat.le_of_ble_eq_true rfl, Nat.le_of_ble_eq_true rfl⟩, hts _ wd_657, hts _ wd_658⟩ ⟨rPc_blind _ _ _ _ _ _ _ _, rg_rec hKm hQ 0 (by omega) mgx_M rfl, rPc_at _ hQ hKm hN⟩ rfl rfl hl.1 rfl (lv_room (Nat.le_of_ble_eq_true rfl)) d_Law_328 ⟨Nat.le_of_ble_eq_true rfl, Nat.le_of_ble_eq_true rfl⟩) hS hAm hP hXM (fun H locs hQ hP hS => ?_)
  have hans := h_air k st ms (xs (i + 1)) (xs (i + 2)) (xs (i + 3)) hs hk
  refine lv_icmp_eq (tgt := 666) (pc := 331) hx hb d_Law_331 (by decide) (fun c_1 => ?_) (fun c_1 => absurd hans.1 c_1)
  exact kk _ _ H locs ls hans.2 hP hQ hS hl

set_option maxRecDepth 100000 in
set_option maxHeartbeats 4000000 in
theorem law_set {p : Program} {l : Launch} {e : Env} {s : State} {m : MethodId} {below : List Frame} {meth : Method} {c : Code} {D : va_G} {cX cM : Nat → ClassId} {Z b L : Nat} {adX adM : Nat → Nat} {xs : Nat → Int32} {Sim : Nat → xS → mS → Prop} (hZ : 1 ≤ Z ∧ Z ≤ 6) (C0 : lw_At p s m meth c b L xs) (hN : nst s) (hL : L ≤ 2561) (hRx : rD (36 + Z) adX) (hRm : rD 19 adM) (hAx : ∀ i, i < 36 + Z → s.heap.size ≤ adX i) (hAm : ∀ i, i < 19 → s.heap.size ≤ adM i) (hXM : ∀ i j, i < 36 + Z → j < 19 → adX i ≠ adM j) (hKx : va_K D clG (tyX cX) s) (hKm : va_K D clG (tyM cM) s) (hSim : LawOK Z Sim) (i k : Nat) (hi : i + 5 ≤ L) (hk : k ≤ 511) (st : xS) (ms : mS) (hs : Sim k st ms) (H : Heap) (locs : List Loc) (ls : Array Slot) (hP : va_P D clG (pw (36 + Z) adX (xgx Z adX cX st)) H) (hQ : va_P D clG (pw 19 adM (mgx Z adM cM ms)) H) (hS : va_S (fun q => s.heap.size ≤ q) s.heap H locs) (hl : lv_has ls 4 [(0, .ref b), (1, .ref (adX 0)), (2, .ref (adM 0)), (3, .int (nI i))]) (kk : ∀ (st : xS) (ms : mS) (H : Heap) (locs : List Loc) (ls : Array Slot), Sim (k + 1) st ms → va_P D clG (pw (36 + Z) adX (xgx Z adX cX st)) H → va_P D clG (pw 19 adM (mgx Z adM cM ms)) H → va_S (fun q => s.heap.size ≤ q) s.heap H locs → lv_has ls 4 [(0, .ref b), (1, .ref (adX 0)), (2, .ref (adM 0)), (3, .int (nI i))] → W p l e room_1 s m #[Value.ref b] below meth c H locs 673831 7080755 (lw_Z below #[Value.ref b] s) (F0 m 666 ls [])) : W p l e room_1 s m #[Value.ref b] below meth c H locs 673831 7080755 (lw_Z below #[Value.ref b] s) (F0 m 336 ls []) := by
  obtain ⟨hx, hb, hr, hml, hown, hts0, hX, hbl, hlocks, hgv⟩ := C0
  have hts : ∀ w ∈ gtb, w.before #[Value.ref b] s = true := fun w h => hts0 w (List.mem_filter.mp h).1
  obtain ⟨h_kind, h_bunker, h_crane, h_grab, h_g2a, h_g2b, h_share, h_air, h_set, h_control, h_burner, h_run, h_bed, h_gas, h_output, h_burning, h_ash, h_balance, h_plan, h_planx, h_planned, h_pdx, h_skip⟩ := hSim
  refine lv_aload_n (pc := 336) hx hb d_Law_336 rfl (lv_at hl 1 rfl) ?_
  refine lv_aload_n (pc := 337) hx hb d_Law_337 rfl (lv_at hl 0 rfl) ?_
  refine lv_iload_n (pc := 338) hx hb d_Law_338 rfl (lv_at hl 3 rfl) ?_
  refine lv_iconst (v := 1) (pc := 339) hx hb d_Law_339 (by decide) ?_
  refine lv_iadd (pc := 340) hx hb d_Law_340 ?_
  refine lw_sld (pc := 341) hx hb hX hbl hS (i + 1) (by omega) (by omega) (nI_add i 1) d_Law_341 ?_
  refine lv_aload_n (pc := 342) hx hb d_Law_342 rfl (lv_at hl 0 rfl) ?_
  refine lv_iload_n (pc := 343) hx hb d_Law_343 rfl (lv_at hl 3 rfl) ?_
  refine lv_iconst (v := 2) (pc := 344) hx hb d_Law_344 (by decide) ?_
  refine lv_iadd (pc := 345) hx hb d_Law_345 ?_
  refine lw_sld (pc := 346) hx hb hX hbl hS (i + 2) (by omega) (by omega) (nI_add i 2) d_Law_346 ?_
  refine lw_ci (pc := 347) (va_runV (As := [.int (xs (i + 1)), .int (xs (i + 2))]) (rest := []) ⟨hx, hb, hml, hown, hts⟩ (c_GL_set (l := l) hRx hZ st (xs (i + 1)) (xs (i + 2)) _) ⟨callB_of 2 hts (gd_c wd_321) rfl rfl rfl (hts _ wd_1) (hts _ wd_318) hd_GL_set ⟨Nat.le_of_ble_eq_true rfl, Nat.le_of_ble_eq_true rfl⟩, hts _ wd_319, hts _ wd_320⟩ ⟨rPc_blind _ _ _ _ _ _ _ _, rg_rec hKx hP 0 (by omega) xgx_X rfl, rPc_at _ hP hKx hN⟩ rfl rfl hl.1 rfl (lv_room (Nat.le_of_ble_eq_true rfl)) d_Law_347 ⟨Nat.le_of_ble_eq_true rfl, Nat.le_of_ble_eq_true rfl⟩) hS hAx hQ (fun i j h1 h2 q => hXM j i h2 h1 q.symm) (fun H locs hP hQ hS => ?_)
  refine lv_aload_n (pc := 350) hx hb d_Law_350 rfl (lv_at hl 2 rfl) ?_
  refine lv_aload_n (pc := 351) hx hb d_Law_351 rfl (lv_at hl 0 rfl) ?_
  refine lv_iload_n (pc := 352) hx hb d_Law_352 rfl (lv_at hl 3 rfl) ?_
  refine lv_iconst (v := 1) (pc := 353) hx hb d_Law_353 (by decide) ?_
  refine lv_iadd (pc := 354) hx hb d_Law_354 ?_
  refine lw_sld (pc := 355) hx hb hX hbl hS (i + 1) (by omega) (by omega) (nI_add i 1) d_Law_355 ?_
  refine lv_aload_n (pc := 356) hx hb d_Law_356 rfl (lv_at hl 0 rfl) ?_
  refine lv_iload_n (pc := 357) hx hb d_Law_357 rfl (lv_at hl 3 rfl) ?_
  refine lv_iconst (v := 2) (pc := 358) hx hb d_Law_358 (by decide) ?_
  refine lv_iadd (pc := 359) hx hb d_Law_359 ?_
  refine lw_sld (pc := 360) hx hb hX hbl hS (i + 2) (by omega) (by omega) (nI_add i 2) d_Law_360 ?_
  refine lw_ci (pc := 361) (va_runV (As := [.int (xs (i + 1)), .int (xs (i + 2))]) (rest := [.int ((f_GL_set Z st (xs (i + 1)) (xs (i + 2))).1)]) ⟨hx, hb, hml, hown, hts⟩ (c_Mo_set (l := l) hRm hZ ms (xs (i + 1)) (xs (i + 2)) _) ⟨callB_of 2 hts (gd_c wd_667) rfl rfl rfl (hts _ wd_9) (hts _ wd_664) hd_Mo_set ⟨Nat.le_of_ble_eq_true rfl, Nat.le_of_ble_eq_true rfl⟩, hts _ wd_665, hts _ wd_666⟩ ⟨rPc_blind _ _ _ _ _ _ _ _, rg_rec hKm hQ 0 (by omega) mgx_M rfl, rPc_at _ hQ hKm hN⟩ rfl rfl hl.1 rfl (lv_room (Nat.le_of_ble_eq_true rfl)) d_Law_361 ⟨Nat.le_of_ble_eq_true rfl, Nat.le_of_ble_eq_true rfl⟩) hS hAm hP hXM (fun H locs hQ hP hS => ?_)
  have hans := h_set k st ms (xs (i + 1)) (xs (i + 2)) hs hk
  refine lv_icmp_eq (tgt := 666) (pc := 364) hx hb d_Law_364 (by decide) (fun c_1 => ?_) (fun c_1 => absurd hans.1 c_1)
  exact kk _ _ H locs ls hans.2 hP hQ hS hl

set_option maxRecDepth 100000 in
set_option maxHeartbeats 4000000 in
theorem law_control {p : Program} {l : Launch} {e : Env} {s : State} {m : MethodId} {below : List Frame} {meth : Method} {c : Code} {D : va_G} {cX cM : Nat → ClassId} {Z b L : Nat} {adX adM : Nat → Nat} {xs : Nat → Int32} {Sim : Nat → xS → mS → Prop} (hZ : 1 ≤ Z ∧ Z ≤ 6) (C0 : lw_At p s m meth c b L xs) (hN : nst s) (hL : L ≤ 2561) (hRx : rD (36 + Z) adX) (hRm : rD 19 adM) (hAx : ∀ i, i < 36 + Z → s.heap.size ≤ adX i) (hAm : ∀ i, i < 19 → s.heap.size ≤ adM i) (hXM : ∀ i j, i < 36 + Z → j < 19 → adX i ≠ adM j) (hKx : va_K D clG (tyX cX) s) (hKm : va_K D clG (tyM cM) s) (hSim : LawOK Z Sim) (i k : Nat) (hi : i + 5 ≤ L) (hk : k ≤ 511) (st : xS) (ms : mS) (hs : Sim k st ms) (H : Heap) (locs : List Loc) (ls : Array Slot) (hP : va_P D clG (pw (36 + Z) adX (xgx Z adX cX st)) H) (hQ : va_P D clG (pw 19 adM (mgx Z adM cM ms)) H) (hS : va_S (fun q => s.heap.size ≤ q) s.heap H locs) (hl : lv_has ls 4 [(0, .ref b), (1, .ref (adX 0)), (2, .ref (adM 0)), (3, .int (nI i))]) (kk : ∀ (st : xS) (ms : mS) (H : Heap) (locs : List Loc) (ls : Array Slot), Sim (k + 1) st ms → va_P D clG (pw (36 + Z) adX (xgx Z adX cX st)) H → va_P D clG (pw 19 adM (mgx Z adM cM ms)) H → va_S (fun q => s.heap.size ≤ q) s.heap H locs → lv_has ls 4 [(0, .ref b), (1, .ref (adX 0)), (2, .ref (adM 0)), (3, .int (nI i))] → W p l e room_1 s m #[Value.ref b] below meth c H locs 673831 7080755 (lw_Z below #[Value.ref b] s) (F0 m 666 ls [])) : W p l e room_1 s m #[Value.ref b] below meth c H locs 673831 7080755 (lw_Z below #[Value.ref b] s) (F0 m 369 ls []) := by
  obtain ⟨hx, hb, hr, hml, hown, hts0, hX, hbl, hlocks, hgv⟩ := C0
  have hts : ∀ w ∈ gtb, w.before #[Value.ref b] s = true := fun w h => hts0 w (List.mem_filter.mp h).1
  obtain ⟨h_kind, h_bunker, h_crane, h_grab, h_g2a, h_g2b, h_share, h_air, h_set, h_control, h_burner, h_run, h_bed, h_gas, h_output, h_burning, h_ash, h_balance, h_plan, h_planx, h_planned, h_pdx, h_skip⟩ := hSim
  refine lv_aload_n (pc := 369) hx hb d_Law_369 rfl (lv_at hl 1 rfl) ?_
  refine lv_aload_n (pc := 370) hx hb d_Law_370 rfl (lv_at hl 0 rfl) ?_
  refine lv_iload_n (pc := 371) hx hb d_Law_371 rfl (lv_at hl 3 rfl) ?_
  refine lv_iconst (v := 1) (pc := 372) hx hb d_Law_372 (by decide) ?_
  refine lv_iadd (pc := 373) hx hb d_Law_373 ?_
  refine lw_sld (pc := 374) hx hb hX hbl hS (i + 1) (by omega) (by omega) (nI_add i 1) d_Law_374 ?_
  refine lv_aload_n (pc := 375) hx hb d_Law_375 rfl (lv_at hl 0 rfl) ?_
  refine lv_iload_n (pc := 376) hx hb d_Law_376 rfl (lv_at hl 3 rfl) ?_
  refine lv_iconst (v := 2) (pc := 377) hx hb d_Law_377 (by decide) ?_
  refine lv_iadd (pc := 378) hx hb d_Law_378 ?_
  refine lw_sld (pc := 379) hx hb hX hbl hS (i + 2) (by omega) (by omega) (nI_add i 2) d_Law_379 ?_
  refine lv_aload_n (pc := 380) hx hb d_Law_380 rfl (lv_at hl 0 rfl) ?_
  refine lv_iload_n (pc := 381) hx hb d_Law_381 rfl (lv_at hl 3 rfl) ?_
  refine lv_iconst (v := 3) (pc := 382) hx hb d_Law_382 (by decide) ?_
  refine lv_iadd (pc := 383) hx hb d_Law_383 ?_
  refine lw_sld (pc := 384) hx hb hX hbl hS (i + 3) (by omega) (by omega) (nI_add i 3) d_Law_384 ?_
  refine lv_aload_n (pc := 385) hx hb d_Law_385 rfl (lv_at hl 0 rfl) ?_
  refine lv_iload_n (pc := 386) hx hb d_Law_386 rfl (lv_at hl 3 rfl) ?_
  refine lv_iconst (v := 4) (pc := 387) hx hb d_Law_387 (by decide) ?_
  refine lv_iadd (pc := 388) hx hb d_Law_388 ?_
  refine lw_sld (pc := 389) hx hb hX hbl hS (i + 4) (by omega) (by omega) (nI_add i 4) d_Law_389 ?_
  refine lw_ci (pc := 390) (va_runV (As := [.int (xs (i + 1)), .int (xs (i + 2)), .int (xs (i + 3)), .int (xs (i + 4))]) (rest := []) ⟨hx, hb, hml, hown, hts⟩ (c_GL_control (l := l) hRx hZ st (xs (i + 1)) (xs (i + 2)) (xs (i + 3)) (xs (i + 4)) _) ⟨callB_of 4 hts (gd_c wd_325) rfl rfl rfl (hts _ wd_1) (hts _ wd_322) hd_GL_control ⟨Nat.le_of_ble_eq_true rfl, Nat.le_of_ble_eq_true rfl⟩, hts _ wd_323, hts _ wd_324⟩ ⟨rPc_blind _ _ _ _ _ _ _ _, rg_rec hKx hP 0 (by omega) xgx_X rfl, rPc_at _ hP hKx hN⟩ rfl rfl hl.1 rfl (lv_room (Nat.le_of_ble_eq_true rfl)) d_Law_390 ⟨Nat.le_of_ble_eq_true rfl, Nat.le_of_ble_eq_true rfl⟩) hS hAx hQ (fun i j h1 h2 q => hXM j i h2 h1 q.symm) (fun H locs hP hQ hS => ?_)
  refine lv_aload_n (pc := 393) hx hb d_Law_393 rfl (lv_at hl 2 rfl) ?_
  refine lv_aload_n (pc := 394) hx hb d_Law_394 rfl (lv_at hl 0 rfl) ?_
  refine lv_iload_n (pc := 395) hx hb d_Law_395 rfl (lv_at hl 3 rfl) ?_
  refine lv_iconst (v := 1) (pc := 396) hx hb d_Law_396 (by decide) ?_
  refine lv_iadd (pc := 397) hx hb d_Law_397 ?_
  refine lw_sld (pc := 398) hx hb hX hbl hS (i + 1) (by omega) (by omega) (nI_add i 1) d_Law_398 ?_
  refine lv_aload_n (pc := 399) hx hb d_Law_399 rfl (lv_at hl 0 rfl) ?_
  refine lv_iload_n (pc := 400) hx hb d_Law_400 rfl (lv_at hl 3 rfl) ?_
  refine lv_iconst (v := 2) (pc := 401) hx hb d_Law_401 (by decide) ?_
  refine lv_iadd (pc := 402) hx hb d_Law_402 ?_
  refine lw_sld (pc := 403) hx hb hX hbl hS (i + 2) (by omega) (by omega) (nI_add i 2) d_Law_403 ?_
  refine lv_aload_n (pc := 404) hx hb d_Law_404 rfl (lv_at hl 0 rfl) ?_
  refine lv_iload_n (pc := 405) hx hb d_Law_405 rfl (lv_at hl 3 rfl) ?_
  refine lv_iconst (v := 3) (pc := 406) hx hb d_Law_406 (by decide) ?_
  refine lv_iadd (pc := 407) hx hb d_Law_407 ?_
  refine lw_sld (pc := 408) hx hb hX hbl hS (i + 3) (by omega) (by omega) (nI_add i 3) d_Law_408 ?_
  refine lv_aload_n (pc := 409) hx hb d_Law_409 rfl (lv_at hl 0 rfl) ?_
  refine lv_iload_n (pc := 410) hx hb d_Law_410 rfl (lv_at hl 3 rfl) ?_
  refine lv_iconst (v := 4) (pc := 411) hx hb d_Law_411 (by decide) ?_
  refine lv_iadd (pc := 412) hx hb d_Law_412 ?_
  refine lw_sld (pc := 413) hx hb hX hbl hS (i + 4) (by omega) (by omega) (nI_add i 4) d_Law_413 ?_
  refine lw_ci (pc := 414) (va_runV (As := [.int (xs (i + 1)), .int (xs (i + 2)), .int (xs (i + 3)), .int (xs (i + 4))]) (rest := [.int ((f_GL_control Z st (xs (i + 1)) (xs (i + 2)) (xs (i + 3)) (xs (i + 4))).1)]) ⟨hx, hb, hml, hown, hts⟩ (c_Mo_control (l := l) hRm hZ ms (xs (i + 1)) (xs (i + 2)) (xs (i + 3)) (xs (i + 4)) _) ⟨callB_of 4 hts (gd_c wd_671) rfl rfl rfl (hts _ wd_9) (hts _ wd_668) hd_Mo_control ⟨Nat.le_of_ble_eq_true rfl, Nat.le_of_ble_eq_true rfl⟩, hts _ wd_669, hts _ wd_670⟩ ⟨rPc_blind _ _ _ _ _ _ _ _, rg_rec hKm hQ 0 (by omega) mgx_M rfl, rPc_at _ hQ hKm hN⟩ rfl rfl hl.1 rfl (lv_room (Nat.le_of_ble_eq_true rfl)) d_Law_414 ⟨Nat.le_of_ble_eq_true rfl, Nat.le_of_ble_eq_true rfl⟩) hS hAm hP hXM (fun H locs hQ hP hS => ?_)
  have hans := h_control k st ms (xs (i + 1)) (xs (i + 2)) (xs (i + 3)) (xs (i + 4)) hs hk
  refine lv_icmp_eq (tgt := 666) (pc := 417) hx hb d_Law_417 (by decide) (fun c_1 => ?_) (fun c_1 => absurd hans.1 c_1)
  exact kk _ _ H locs ls hans.2 hP hQ hS hl

set_option maxRecDepth 100000 in
set_option maxHeartbeats 4000000 in
theorem law_burner {p : Program} {l : Launch} {e : Env} {s : State} {m : MethodId} {below : List Frame} {meth : Method} {c : Code} {D : va_G} {cX cM : Nat → ClassId} {Z b L : Nat} {adX adM : Nat → Nat} {xs : Nat → Int32} {Sim : Nat → xS → mS → Prop} (hZ : 1 ≤ Z ∧ Z ≤ 6) (C0 : lw_At p s m meth c b L xs) (hN : nst s) (hL : L ≤ 2561) (hRx : rD (36 + Z) adX) (hRm : rD 19 adM) (hAx : ∀ i, i < 36 + Z → s.heap.size ≤ adX i) (hAm : ∀ i, i < 19 → s.heap.size ≤ adM i) (hXM : ∀ i j, i < 36 + Z → j < 19 → adX i ≠ adM j) (hKx : va_K D clG (tyX cX) s) (hKm : va_K D clG (tyM cM) s) (hSim : LawOK Z Sim) (i k : Nat) (hi : i + 5 ≤ L) (hk : k ≤ 511) (st : xS) (ms : mS) (hs : Sim k st ms) (H : Heap) (locs : List Loc) (ls : Array Slot) (hP : va_P D clG (pw (36 + Z) adX (xgx Z adX cX st)) H) (hQ : va_P D clG (pw 19 adM (mgx Z adM cM ms)) H) (hS : va_S (fun q => s.heap.size ≤ q) s.heap H locs) (hl : lv_has ls 4 [(0, .ref b), (1, .ref (adX 0)), (2, .ref (adM 0)), (3, .int (nI i))]) (kk : ∀ (st : xS) (ms : mS) (H : Heap) (locs : List Loc) (ls : Array Slot), Sim (k + 1) st ms → va_P D clG (pw (36 + Z) adX (xgx Z adX cX st)) H → va_P D clG (pw 19 adM (mgx Z adM cM ms)) H → va_S (fun q => s.heap.size ≤ q) s.heap H locs → lv_has ls 4 [(0, .ref b), (1, .ref (adX 0)), (2, .ref (adM 0)), (3, .int (nI i))] → W p l e room_1 s m #[Value.ref b] below meth c H locs 673831 7080755 (lw_Z below #[Value.ref b] s) (F0 m 666 ls [])) : W p l e room_1 s m #[Value.ref b] below meth c H locs 673831 7080755 (lw_Z below #[Value.ref b] s) (F0 m 422 ls []) := by
  obtain ⟨hx, hb, hr, hml, hown, hts0, hX, hbl, hlocks, hgv⟩ := C0
  have hts : ∀ w ∈ gtb, w.before #[Value.ref b] s = true := fun w h => hts0 w (List.mem_filter.mp h).1
  obtain ⟨h_kind, h_bunker, h_crane, h_grab, h_g2a, h_g2b, h_share, h_air, h_set, h_control, h_burner, h_run, h_bed, h_gas, h_output, h_burning, h_ash, h_balance, h_plan, h_planx, h_planned, h_pdx, h_skip⟩ := hSim
  refine lv_aload_n (pc := 422) hx hb d_Law_422 rfl (lv_at hl 1 rfl) ?_
  refine lv_aload_n (pc := 423) hx hb d_Law_423 rfl (lv_at hl 0 rfl) ?_
  refine lv_iload_n (pc := 424) hx hb d_Law_424 rfl (lv_at hl 3 rfl) ?_
  refine lv_iconst (v := 1) (pc := 425) hx hb d_Law_425 (by decide) ?_
  refine lv_iadd (pc := 426) hx hb d_Law_426 ?_
  refine lw_sld (pc := 427) hx hb hX hbl hS (i + 1) (by omega) (by omega) (nI_add i 1) d_Law_427 ?_
  refine lv_aload_n (pc := 428) hx hb d_Law_428 rfl (lv_at hl 0 rfl) ?_
  refine lv_iload_n (pc := 429) hx hb d_Law_429 rfl (lv_at hl 3 rfl) ?_
  refine lv_iconst (v := 2) (pc := 430) hx hb d_Law_430 (by decide) ?_
  refine lv_iadd (pc := 431) hx hb d_Law_431 ?_
  refine lw_sld (pc := 432) hx hb hX hbl hS (i + 2) (by omega) (by omega) (nI_add i 2) d_Law_432 ?_
  refine lw_ci (pc := 433) (va_runV (As := [.int (xs (i + 1)), .int (xs (i + 2))]) (rest := []) ⟨hx, hb, hml, hown, hts⟩ (c_GL_burner (l := l) hRx hZ st (xs (i + 1)) (xs (i + 2)) _) ⟨callB_of 2 hts (gd_c wd_337) rfl rfl rfl (hts _ wd_1) (hts _ wd_334) hd_GL_burner ⟨Nat.le_of_ble_eq_true rfl, Nat.le_of_ble_eq_true rfl⟩, hts _ wd_335, hts _ wd_336⟩ ⟨rPc_blind _ _ _ _ _ _ _ _, rg_rec hKx hP 0 (by omega) xgx_X rfl, rPc_at _ hP hKx hN⟩ rfl rfl hl.1 rfl (lv_room (Nat.le_of_ble_eq_true rfl)) d_Law_433 ⟨Nat.le_of_ble_eq_true rfl, Nat.le_of_ble_eq_true rfl⟩) hS hAx hQ (fun i j h1 h2 q => hXM j i h2 h1 q.symm) (fun H locs hP hQ hS => ?_)
  refine lv_aload_n (pc := 436) hx hb d_Law_436 rfl (lv_at hl 2 rfl) ?_
  refine lv_aload_n (pc := 437) hx hb d_Law_437 rfl (lv_at hl 0 rfl) ?_
  refine lv_iload_n (pc := 438) hx hb d_Law_438 rfl (lv_at hl 3 rfl) ?_
  refine lv_iconst (v := 1) (pc := 439) hx hb d_Law_439 (by decide) ?_
  refine lv_iadd (pc := 440) hx hb d_Law_440 ?_
  refine lw_sld (pc := 441) hx hb hX hbl hS (i + 1) (by omega) (by omega) (nI_add i 1) d_Law_441 ?_
  refine lv_aload_n (pc := 442) hx hb d_Law_442 rfl (lv_at hl 0 rfl) ?_
  refine lv_iload_n (pc := 443) hx hb d_Law_443 rfl (lv_at hl 3 rfl) ?_
  refine lv_iconst (v := 2) (pc := 444) hx hb d_Law_444 (by decide) ?_
  refine lv_iadd (pc := 445) hx hb d_Law_445 ?_
  refine lw_sld (pc := 446) hx hb hX hbl hS (i + 2) (by omega) (by omega) (nI_add i 2) d_Law_446 ?_
  refine lw_ci (pc := 447) (va_runV (As := [.int (xs (i + 1)), .int (xs (i + 2))]) (rest := [.int ((f_GL_burner Z st (xs (i + 1)) (xs (i + 2))).1)]) ⟨hx, hb, hml, hown, hts⟩ (c_Mo_burner (l := l) hRm hZ ms (xs (i + 1)) (xs (i + 2)) _) ⟨callB_of 2 hts (gd_c wd_677) rfl rfl rfl (hts _ wd_9) (hts _ wd_674) hd_Mo_burner ⟨Nat.le_of_ble_eq_true rfl, Nat.le_of_ble_eq_true rfl⟩, hts _ wd_675, hts _ wd_676⟩ ⟨rPc_blind _ _ _ _ _ _ _ _, rg_rec hKm hQ 0 (by omega) mgx_M rfl, rPc_at _ hQ hKm hN⟩ rfl rfl hl.1 rfl (lv_room (Nat.le_of_ble_eq_true rfl)) d_Law_447 ⟨Nat.le_of_ble_eq_true rfl, Nat.le_of_ble_eq_true rfl⟩) hS hAm hP hXM (fun H locs hQ hP hS => ?_)
  have hans := h_burner k st ms (xs (i + 1)) (xs (i + 2)) hs hk
  refine lv_icmp_eq (tgt := 666) (pc := 450) hx hb d_Law_450 (by decide) (fun c_1 => ?_) (fun c_1 => absurd hans.1 c_1)
  exact kk _ _ H locs ls hans.2 hP hQ hS hl
