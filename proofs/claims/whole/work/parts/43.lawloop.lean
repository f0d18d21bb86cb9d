set_option maxHeartbeats 4000000 in
set_option maxRecDepth 100000 in
theorem law_loop {p : Program} {l : Launch} {e : Env} {s : State} {m : MethodId} {below : List Frame} {meth : Method} {c : Code} {D : va_G} {cI cJ : ClassId} {ax am : Nat → Nat} {b L : Nat} {xs : Nat → Int32} (hL : L ≤ 3072) (C0 : lw_At p s m meth c b L xs) (hK : KK D cI cJ s) :
    ∀ u : Nat, u ≤ L / 6 → ∀ (z3 : Int), z3 = 6 * (u : Int) → ∀ (n : Int) (st hr ca : Nat → Int) (pcs : Int) (fr lv : Nat → Int) (k : Int) (ts th sp hv : Nat → Int) (pr hc lu ll up lo : Int) (mf rr mh : Nat → Int) (H : Heap) (locs : List Loc), VU n st hr ca → VT k ts th sp pr hc → va_P D vwCl (wX ax cI cJ n st hr ca pcs fr lv k ts th sp hv pr hc) H → va_P D vwCl (wM am cI n st hr ca sp k ts th pr hc lu ll up lo mf rr mh) H → va_D (fun q : Nat => s.heap.size ≤ q) ((wX ax cI cJ n st hr ca pcs fr lv k ts th sp hv pr hc) ++ (wM am cI n st hr ca sp k ts th pr hc lu ll up lo mf rr mh)) → va_S (fun q : Nat => s.heap.size ≤ q) s.heap H locs → ∀ ls : Array Slot, lv_has ls 4 [(0, .ref b), (1, .ref (ax 0)), (2, .ref (am 0)), (3, .int (zi (z3)))] → W p l e room_1 s m #[Value.ref b] below meth c H locs 23 1190 (lw_Z below #[Value.ref b] s) (F0 m 18 ls []) := by
  obtain ⟨hx, hb, hrt, hml, hown, hts, hX, hbl, hlocks, hgv⟩ := C0
  have hT := TT_of hts
  have hbA : ¬ (fun q : Nat => s.heap.size ≤ q) b := Nat.not_le.mpr hbl
  refine lp_up (fun u => ∀ (z3 : Int), z3 = 6 * (u : Int) → ∀ (n : Int) (st hr ca : Nat → Int) (pcs : Int) (fr lv : Nat → Int) (k : Int) (ts th sp hv : Nat → Int) (pr hc lu ll up lo : Int) (mf rr mh : Nat → Int) (H : Heap) (locs : List Loc), VU n st hr ca → VT k ts th sp pr hc → va_P D vwCl (wX ax cI cJ n st hr ca pcs fr lv k ts th sp hv pr hc) H → va_P D vwCl (wM am cI n st hr ca sp k ts th pr hc lu ll up lo mf rr mh) H → va_D (fun q : Nat => s.heap.size ≤ q) ((wX ax cI cJ n st hr ca pcs fr lv k ts th sp hv pr hc) ++ (wM am cI n st hr ca sp k ts th pr hc lu ll up lo mf rr mh)) → va_S (fun q : Nat => s.heap.size ≤ q) s.heap H locs → ∀ ls : Array Slot, lv_has ls 4 [(0, .ref b), (1, .ref (ax 0)), (2, .ref (am 0)), (3, .int (zi (z3)))] → W p l e room_1 s m #[Value.ref b] below meth c H locs 23 1190 (lw_Z below #[Value.ref b] s) (F0 m 18 ls [])) (L / 6) ?_ ?_
  · intro z3 e3 n st hr ca pcs fr lv k ts th sp hv pr hc lu ll up lo mf rr mh H locs hU hV hPX hPM hD hS ls hl
    refine lv_iload_n (pc := 18) hx hb dL_law_18 rfl (lv_at hl 3 rfl) ?_
    refine lv_aload_n (pc := 19) hx hb dL_law_19 rfl (lv_at hl 0 rfl) ?_
    refine z_slen (pc := 20) hx hb hX hbl hbA hS dL_law_20 ?_
    refine z_bipush (pc := 21) hx hb dL_law_21 (by decide) ?_
    refine z_isub (pc := 23) hx hb dL_law_23 ?_
    refine z_icmp_gt (tgt := 1001) (pc := 24) hx hb dL_law_24 (by decide) (by omega) (by omega) (fun c_1 => ?_) (fun c_1 => absurd c_1 (by omega))
    refine lv_iconst (v := 1) (pc := 1001) hx hb dL_law_1001 (by decide) ?_
    refine va_forget (fun q hq => hS.2.2 q hq) ?_
    exact lw_ret hx hb hrt hlocks dL_law_1002
  · intro u hu ih z3 e3 n st hr ca pcs fr lv k ts th sp hv pr hc lu ll up lo mf rr mh H locs hU hV hPX hPM hD hS ls hl
    refine lv_iload_n (pc := 18) hx hb dL_law_18 rfl (lv_at hl 3 rfl) ?_
    refine lv_aload_n (pc := 19) hx hb dL_law_19 rfl (lv_at hl 0 rfl) ?_
    refine z_slen (pc := 20) hx hb hX hbl hbA hS dL_law_20 ?_
    refine z_bipush (pc := 21) hx hb dL_law_21 (by decide) ?_
    refine z_isub (pc := 23) hx hb dL_law_23 ?_
    refine z_icmp_gt (tgt := 1001) (pc := 24) hx hb dL_law_24 (by decide) (by omega) (by omega) (fun c_1 => absurd c_1 (by omega)) (fun c_1 => ?_)
    refine lv_aload_n (pc := 27) hx hb dL_law_27 rfl (lv_at hl 0 rfl) ?_
    refine lv_iload_n (pc := 28) hx hb dL_law_28 rfl (lv_at hl 3 rfl) ?_
    refine z_sld (pc := 29) hx hb hX hbl hbA hS (6 * u) (by omega) (by omega) (by omega) dL_law_29 ?_
    refine z_bipush (pc := 30) hx hb dL_law_30 (by decide) ?_
    refine z_and31 (pc := 32) hx hb dL_law_32 (fun v hv32 => ?_)
    rcases (show (v < 0 ∨ 21 < v) ∨ v = 0 ∨ v = 1 ∨ v = 2 ∨ v = 3 ∨ v = 4 ∨ v = 5 ∨ v = 6 ∨ v = 7 ∨ v = 8 ∨ v = 9 ∨ v = 10 ∨ v = 11 ∨ v = 12 ∨ v = 13 ∨ v = 14 ∨ v = 15 ∨ v = 16 ∨ v = 17 ∨ v = 18 ∨ v = 19 ∨ v = 20 ∨ v = 21 by omega) with qv | qv | qv | qv | qv | qv | qv | qv | qv | qv | qv | qv | qv | qv | qv | qv | qv | qv | qv | qv | qv | qv | qv
    · refine z_tabOut (tgt := 995) (pc := 33) hx hb dL_law_33 (by omega) qv (by decide) ?_
      refine lv_iinc (v := zi (z3 + 6)) (lv' := [(3, .int (zi ((z3 + 6)))), (0, .ref b), (1, .ref (ax 0)), (2, .ref (am 0))]) (pc := 995) hx hb dL_law_995 hl (k := 3) rfl (zi_add _ _) (by decide) rfl (fun ls hl => ?_)
      refine lv_goto (tgt := 18) (pc := 998) hx hb dL_law_998 (by decide) ?_
      exact ih (z3 + 6) (by omega) _ _ _ _ _ _ _ _ _ _ _ _ _ _ _ _ _ _ _ _ _ _ _ hU hV hPX hPM hD hS ls (lv_sub hl [1, 2, 3, 0] rfl)
    · refine z_tabIn (tgt := 136) (pc := 33) hx hb (0) dL_law_33 qv (by decide) (by decide) (by decide) rfl (by decide) ?_
      refine lv_aload_n (pc := 136) hx hb dL_law_136 rfl (lv_at hl 1 rfl) ?_
      refine lv_aload_n (pc := 137) hx hb dL_law_137 rfl (lv_at hl 0 rfl) ?_
      refine lv_iload_n (pc := 138) hx hb dL_law_138 rfl (lv_at hl 3 rfl) ?_
      refine z_iconst (pc := 139) hx hb dL_law_139 ?_
      refine z_iadd (pc := 140) hx hb dL_law_140 ?_
      refine z_sld (pc := 141) hx hb hX hbl hbA hS (6 * u + 1) (by omega) (by omega) (by omega) dL_law_141 ?_
      refine lv_aload_n (pc := 142) hx hb dL_law_142 rfl (lv_at hl 0 rfl) ?_
      refine lv_iload_n (pc := 143) hx hb dL_law_143 rfl (lv_at hl 3 rfl) ?_
      refine z_iconst (pc := 144) hx hb dL_law_144 ?_
      refine z_iadd (pc := 145) hx hb dL_law_145 ?_
      refine z_sld (pc := 146) hx hb hX hbl hbA hS (6 * u + 2) (by omega) (by omega) (by omega) dL_law_146 ?_
      refine lv_aload_n (pc := 147) hx hb dL_law_147 rfl (lv_at hl 0 rfl) ?_
      refine lv_iload_n (pc := 148) hx hb dL_law_148 rfl (lv_at hl 3 rfl) ?_
      refine z_iconst (pc := 149) hx hb dL_law_149 ?_
      refine z_iadd (pc := 150) hx hb dL_law_150 ?_
      refine z_sld (pc := 151) hx hb hX hbl hbA hS (6 * u + 3) (by omega) (by omega) (by omega) dL_law_151 ?_
      refine wr_V (pc := 152) hx hb hml hown hT hK (c_X3_unit D cI cJ l ax n st hr ca pcs fr lv k ts th sp hv pr hc hU ((xs (6 * u + 1)).toInt) (zi_rng _) ((xs (6 * u + 2)).toInt) (zi_rng _) ((xs (6 * u + 3)).toInt) (zi_rng _)) ca_X3_unit tw_97 hPX hD.left hS (fun q h => inW_l hD h) 0 3 rfl rfl rfl ⟨Nat.le_of_ble_eq_true rfl, Nat.le_of_ble_eq_true rfl⟩ rfl hl.1 (As := [.int (zi ((xs (6 * u + 1)).toInt)), .int (zi ((xs (6 * u + 2)).toInt)), .int (zi ((xs (6 * u + 3)).toInt))]) (rest := []) rfl (Nat.le_of_ble_eq_true rfl) ⟨Nat.le_of_ble_eq_true rfl, Nat.le_of_ble_eq_true rfl⟩ dL_law_152 (fun v_ ws_ H locs hΦ hPn hz_ hk_ hS => ?_)
      replace hPM := fr_r hD hPM hk_
      obtain ⟨x_X3, hx_X3, rfl, rfl⟩ := hΦ
      subst hx_X3
      replace hPX : va_P D vwCl (wX ax cI cJ ((unitS n st hr ca ((xs (6 * u + 1)).toInt) ((xs (6 * u + 2)).toInt) ((xs (6 * u + 3)).toInt)).2.1) ((unitS n st hr ca ((xs (6 * u + 1)).toInt) ((xs (6 * u + 2)).toInt) ((xs (6 * u + 3)).toInt)).2.2.1) ((unitS n st hr ca ((xs (6 * u + 1)).toInt) ((xs (6 * u + 2)).toInt) ((xs (6 * u + 3)).toInt)).2.2.2.1) ((unitS n st hr ca ((xs (6 * u + 1)).toInt) ((xs (6 * u + 2)).toInt) ((xs (6 * u + 3)).toInt)).2.2.2.2) pcs fr lv k ts th sp hv pr hc) H := hPn
      replace hD : va_D (fun q : Nat => s.heap.size ≤ q) ((wX ax cI cJ ((unitS n st hr ca ((xs (6 * u + 1)).toInt) ((xs (6 * u + 2)).toInt) ((xs (6 * u + 3)).toInt)).2.1) ((unitS n st hr ca ((xs (6 * u + 1)).toInt) ((xs (6 * u + 2)).toInt) ((xs (6 * u + 3)).toInt)).2.2.1) ((unitS n st hr ca ((xs (6 * u + 1)).toInt) ((xs (6 * u + 2)).toInt) ((xs (6 * u + 3)).toInt)).2.2.2.1) ((unitS n st hr ca ((xs (6 * u + 1)).toInt) ((xs (6 * u + 2)).toInt) ((xs (6 * u + 3)).toInt)).2.2.2.2) pcs fr lv k ts th sp hv pr hc) ++ (wM am cI n st hr ca sp k ts th pr hc lu ll up lo mf rr mh)) := hD.same rfl
      refine lv_aload_n (pc := 155) hx hb dL_law_155 rfl (lv_at hl 2 rfl) ?_
      refine lv_aload_n (pc := 156) hx hb dL_law_156 rfl (lv_at hl 0 rfl) ?_
      refine lv_iload_n (pc := 157) hx hb dL_law_157 rfl (lv_at hl 3 rfl) ?_
      refine z_iconst (pc := 158) hx hb dL_law_158 ?_
      refine z_iadd (pc := 159) hx hb dL_law_159 ?_
      refine z_sld (pc := 160) hx hb hX hbl hbA hS (6 * u + 1) (by omega) (by omega) (by omega) dL_law_160 ?_
      refine lv_aload_n (pc := 161) hx hb dL_law_161 rfl (lv_at hl 0 rfl) ?_
      refine lv_iload_n (pc := 162) hx hb dL_law_162 rfl (lv_at hl 3 rfl) ?_
      refine z_iconst (pc := 163) hx hb dL_law_163 ?_
      refine z_iadd (pc := 164) hx hb dL_law_164 ?_
      refine z_sld (pc := 165) hx hb hX hbl hbA hS (6 * u + 2) (by omega) (by omega) (by omega) dL_law_165 ?_
      refine lv_aload_n (pc := 166) hx hb dL_law_166 rfl (lv_at hl 0 rfl) ?_
      refine lv_iload_n (pc := 167) hx hb dL_law_167 rfl (lv_at hl 3 rfl) ?_
      refine z_iconst (pc := 168) hx hb dL_law_168 ?_
      refine z_iadd (pc := 169) hx hb dL_law_169 ?_
      refine z_sld (pc := 170) hx hb hX hbl hbA hS (6 * u + 3) (by omega) (by omega) (by omega) dL_law_170 ?_
      refine wr_V (pc := 171) hx hb hml hown hT hK (c_X4_unit D cI cJ l am n st hr ca sp k ts th pr hc lu ll up lo mf rr mh hU ((xs (6 * u + 1)).toInt) (zi_rng _) ((xs (6 * u + 2)).toInt) (zi_rng _) ((xs (6 * u + 3)).toInt) (zi_rng _)) ca_X4_unit tw_389 hPM hD.right hS (fun q h => inW_r hD h) 0 4 rfl rfl rfl ⟨Nat.le_of_ble_eq_true rfl, Nat.le_of_ble_eq_true rfl⟩ rfl hl.1 (As := [.int (zi ((xs (6 * u + 1)).toInt)), .int (zi ((xs (6 * u + 2)).toInt)), .int (zi ((xs (6 * u + 3)).toInt))]) (rest := [.int (zi ((unitS n st hr ca ((xs (6 * u + 1)).toInt) ((xs (6 * u + 2)).toInt) ((xs (6 * u + 3)).toInt)).1))]) rfl (Nat.le_of_ble_eq_true rfl) ⟨Nat.le_of_ble_eq_true rfl, Nat.le_of_ble_eq_true rfl⟩ dL_law_171 (fun v_ ws_ H locs hΦ hPn hz_ hk_ hS => ?_)
      replace hPX := fr_l hD hPX hk_
      obtain ⟨x_X4, hx_X4, rfl, rfl⟩ := hΦ
      subst hx_X4
      replace hPM : va_P D vwCl (wM am cI ((unitS n st hr ca ((xs (6 * u + 1)).toInt) ((xs (6 * u + 2)).toInt) ((xs (6 * u + 3)).toInt)).2.1) ((unitS n st hr ca ((xs (6 * u + 1)).toInt) ((xs (6 * u + 2)).toInt) ((xs (6 * u + 3)).toInt)).2.2.1) ((unitS n st hr ca ((xs (6 * u + 1)).toInt) ((xs (6 * u + 2)).toInt) ((xs (6 * u + 3)).toInt)).2.2.2.1) ((unitS n st hr ca ((xs (6 * u + 1)).toInt) ((xs (6 * u + 2)).toInt) ((xs (6 * u + 3)).toInt)).2.2.2.2) sp k ts th pr hc lu ll up lo mf rr mh) H := hPn
      replace hD : va_D (fun q : Nat => s.heap.size ≤ q) ((wX ax cI cJ ((unitS n st hr ca ((xs (6 * u + 1)).toInt) ((xs (6 * u + 2)).toInt) ((xs (6 * u + 3)).toInt)).2.1) ((unitS n st hr ca ((xs (6 * u + 1)).toInt) ((xs (6 * u + 2)).toInt) ((xs (6 * u + 3)).toInt)).2.2.1) ((unitS n st hr ca ((xs (6 * u + 1)).toInt) ((xs (6 * u + 2)).toInt) ((xs (6 * u + 3)).toInt)).2.2.2.1) ((unitS n st hr ca ((xs (6 * u + 1)).toInt) ((xs (6 * u + 2)).toInt) ((xs (6 * u + 3)).toInt)).2.2.2.2) pcs fr lv k ts th sp hv pr hc) ++ (wM am cI ((unitS n st hr ca ((xs (6 * u + 1)).toInt) ((xs (6 * u + 2)).toInt) ((xs (6 * u + 3)).toInt)).2.1) ((unitS n st hr ca ((xs (6 * u + 1)).toInt) ((xs (6 * u + 2)).toInt) ((xs (6 * u + 3)).toInt)).2.2.1) ((unitS n st hr ca ((xs (6 * u + 1)).toInt) ((xs (6 * u + 2)).toInt) ((xs (6 * u + 3)).toInt)).2.2.2.1) ((unitS n st hr ca ((xs (6 * u + 1)).toInt) ((xs (6 * u + 2)).toInt) ((xs (6 * u + 3)).toInt)).2.2.2.2) sp k ts th pr hc lu ll up lo mf rr mh)) := hD.same rfl
      refine z_sameI (tgt := 995) (pc := 174) hx hb dL_law_174 (by decide) ?_
      refine lv_iinc (v := zi (z3 + 6)) (lv' := [(3, .int (zi ((z3 + 6)))), (0, .ref b), (1, .ref (ax 0)), (2, .ref (am 0))]) (pc := 995) hx hb dL_law_995 hl (k := 3) rfl (zi_add _ _) (by decide) rfl (fun ls hl => ?_)
      refine lv_goto (tgt := 18) (pc := 998) hx hb dL_law_998 (by decide) ?_
      exact ih (z3 + 6) (by omega) _ _ _ _ _ _ _ _ _ _ _ _ _ _ _ _ _ _ _ _ _ _ _ (VU_unit hU _ _ _) hV hPX hPM hD hS ls (lv_sub hl [1, 2, 3, 0] rfl)
    · refine z_tabIn (tgt := 179) (pc := 33) hx hb (1) dL_law_33 qv (by decide) (by decide) (by decide) rfl (by decide) ?_
      refine lv_aload_n (pc := 179) hx hb dL_law_179 rfl (lv_at hl 1 rfl) ?_
      refine lv_aload_n (pc := 180) hx hb dL_law_180 rfl (lv_at hl 0 rfl) ?_
      refine lv_iload_n (pc := 181) hx hb dL_law_181 rfl (lv_at hl 3 rfl) ?_
      refine z_iconst (pc := 182) hx hb dL_law_182 ?_
      refine z_iadd (pc := 183) hx hb dL_law_183 ?_
      refine z_sld (pc := 184) hx hb hX hbl hbA hS (6 * u + 1) (by omega) (by omega) (by omega) dL_law_184 ?_
      refine lv_aload_n (pc := 185) hx hb dL_law_185 rfl (lv_at hl 0 rfl) ?_
      refine lv_iload_n (pc := 186) hx hb dL_law_186 rfl (lv_at hl 3 rfl) ?_
      refine z_iconst (pc := 187) hx hb dL_law_187 ?_
      refine z_iadd (pc := 188) hx hb dL_law_188 ?_
      refine z_sld (pc := 189) hx hb hX hbl hbA hS (6 * u + 2) (by omega) (by omega) (by omega) dL_law_189 ?_
      refine lv_aload_n (pc := 190) hx hb dL_law_190 rfl (lv_at hl 0 rfl) ?_
      refine lv_iload_n (pc := 191) hx hb dL_law_191 rfl (lv_at hl 3 rfl) ?_
      refine z_iconst (pc := 192) hx hb dL_law_192 ?_
      refine z_iadd (pc := 193) hx hb dL_law_193 ?_
      refine z_sld (pc := 194) hx hb hX hbl hbA hS (6 * u + 3) (by omega) (by omega) (by omega) dL_law_194 ?_
      refine lv_aload_n (pc := 195) hx hb dL_law_195 rfl (lv_at hl 0 rfl) ?_
      refine lv_iload_n (pc := 196) hx hb dL_law_196 rfl (lv_at hl 3 rfl) ?_
      refine z_iconst (pc := 197) hx hb dL_law_197 ?_
      refine z_iadd (pc := 198) hx hb dL_law_198 ?_
      refine z_sld (pc := 199) hx hb hX hbl hbA hS (6 * u + 4) (by omega) (by omega) (by omega) dL_law_199 ?_
      refine wr_V (pc := 200) hx hb hml hown hT hK (c_X3_set D cI cJ l ax n st hr ca pcs fr lv k ts th sp hv pr hc hU ((xs (6 * u + 1)).toInt) (zi_rng _) ((xs (6 * u + 2)).toInt) (zi_rng _) ((xs (6 * u + 3)).toInt) (zi_rng _) ((xs (6 * u + 4)).toInt) (zi_rng _)) ca_X3_set tw_119 hPX hD.left hS (fun q h => inW_l hD h) 0 3 rfl rfl rfl ⟨Nat.le_of_ble_eq_true rfl, Nat.le_of_ble_eq_true rfl⟩ rfl hl.1 (As := [.int (zi ((xs (6 * u + 1)).toInt)), .int (zi ((xs (6 * u + 2)).toInt)), .int (zi ((xs (6 * u + 3)).toInt)), .int (zi ((xs (6 * u + 4)).toInt))]) (rest := []) rfl (Nat.le_of_ble_eq_true rfl) ⟨Nat.le_of_ble_eq_true rfl, Nat.le_of_ble_eq_true rfl⟩ dL_law_200 (fun v_ ws_ H locs hΦ hPn hz_ hk_ hS => ?_)
      replace hPM := fr_r hD hPM hk_
      obtain ⟨x_X3, hx_X3, rfl, rfl⟩ := hΦ
      subst hx_X3
      replace hPX : va_P D vwCl (wX ax cI cJ n ((setS n st hr ca ((xs (6 * u + 1)).toInt) ((xs (6 * u + 2)).toInt) ((xs (6 * u + 3)).toInt) ((xs (6 * u + 4)).toInt)).2.1) ((setS n st hr ca ((xs (6 * u + 1)).toInt) ((xs (6 * u + 2)).toInt) ((xs (6 * u + 3)).toInt) ((xs (6 * u + 4)).toInt)).2.2.1) ((setS n st hr ca ((xs (6 * u + 1)).toInt) ((xs (6 * u + 2)).toInt) ((xs (6 * u + 3)).toInt) ((xs (6 * u + 4)).toInt)).2.2.2) pcs fr lv k ts th sp hv pr hc) H := hPn
      replace hD : va_D (fun q : Nat => s.heap.size ≤ q) ((wX ax cI cJ n ((setS n st hr ca ((xs (6 * u + 1)).toInt) ((xs (6 * u + 2)).toInt) ((xs (6 * u + 3)).toInt) ((xs (6 * u + 4)).toInt)).2.1) ((setS n st hr ca ((xs (6 * u + 1)).toInt) ((xs (6 * u + 2)).toInt) ((xs (6 * u + 3)).toInt) ((xs (6 * u + 4)).toInt)).2.2.1) ((setS n st hr ca ((xs (6 * u + 1)).toInt) ((xs (6 * u + 2)).toInt) ((xs (6 * u + 3)).toInt) ((xs (6 * u + 4)).toInt)).2.2.2) pcs fr lv k ts th sp hv pr hc) ++ (wM am cI n st hr ca sp k ts th pr hc lu ll up lo mf rr mh)) := hD.same rfl
      refine lv_aload_n (pc := 203) hx hb dL_law_203 rfl (lv_at hl 2 rfl) ?_
      refine lv_aload_n (pc := 204) hx hb dL_law_204 rfl (lv_at hl 0 rfl) ?_
      refine lv_iload_n (pc := 205) hx hb dL_law_205 rfl (lv_at hl 3 rfl) ?_
      refine z_iconst (pc := 206) hx hb dL_law_206 ?_
      refine z_iadd (pc := 207) hx hb dL_law_207 ?_
      refine z_sld (pc := 208) hx hb hX hbl hbA hS (6 * u + 1) (by omega) (by omega) (by omega) dL_law_208 ?_
      refine lv_aload_n (pc := 209) hx hb dL_law_209 rfl (lv_at hl 0 rfl) ?_
      refine lv_iload_n (pc := 210) hx hb dL_law_210 rfl (lv_at hl 3 rfl) ?_
      refine z_iconst (pc := 211) hx hb dL_law_211 ?_
      refine z_iadd (pc := 212) hx hb dL_law_212 ?_
      refine z_sld (pc := 213) hx hb hX hbl hbA hS (6 * u + 2) (by omega) (by omega) (by omega) dL_law_213 ?_
      refine lv_aload_n (pc := 214) hx hb dL_law_214 rfl (lv_at hl 0 rfl) ?_
      refine lv_iload_n (pc := 215) hx hb dL_law_215 rfl (lv_at hl 3 rfl) ?_
      refine z_iconst (pc := 216) hx hb dL_law_216 ?_
      refine z_iadd (pc := 217) hx hb dL_law_217 ?_
      refine z_sld (pc := 218) hx hb hX hbl hbA hS (6 * u + 3) (by omega) (by omega) (by omega) dL_law_218 ?_
      refine lv_aload_n (pc := 219) hx hb dL_law_219 rfl (lv_at hl 0 rfl) ?_
      refine lv_iload_n (pc := 220) hx hb dL_law_220 rfl (lv_at hl 3 rfl) ?_
      refine z_iconst (pc := 221) hx hb dL_law_221 ?_
      refine z_iadd (pc := 222) hx hb dL_law_222 ?_
      refine z_sld (pc := 223) hx hb hX hbl hbA hS (6 * u + 4) (by omega) (by omega) (by omega) dL_law_223 ?_
      refine wr_V (pc := 224) hx hb hml hown hT hK (c_X4_set D cI cJ l am n st hr ca sp k ts th pr hc lu ll up lo mf rr mh hU ((xs (6 * u + 1)).toInt) (zi_rng _) ((xs (6 * u + 2)).toInt) (zi_rng _) ((xs (6 * u + 3)).toInt) (zi_rng _) ((xs (6 * u + 4)).toInt) (zi_rng _)) ca_X4_set tw_409 hPM hD.right hS (fun q h => inW_r hD h) 0 4 rfl rfl rfl ⟨Nat.le_of_ble_eq_true rfl, Nat.le_of_ble_eq_true rfl⟩ rfl hl.1 (As := [.int (zi ((xs (6 * u + 1)).toInt)), .int (zi ((xs (6 * u + 2)).toInt)), .int (zi ((xs (6 * u + 3)).toInt)), .int (zi ((xs (6 * u + 4)).toInt))]) (rest := [.int (zi ((setS n st hr ca ((xs (6 * u + 1)).toInt) ((xs (6 * u + 2)).toInt) ((xs (6 * u + 3)).toInt) ((xs (6 * u + 4)).toInt)).1))]) rfl (Nat.le_of_ble_eq_true rfl) ⟨Nat.le_of_ble_eq_true rfl, Nat.le_of_ble_eq_true rfl⟩ dL_law_224 (fun v_ ws_ H locs hΦ hPn hz_ hk_ hS => ?_)
      replace hPX := fr_l hD hPX hk_
      obtain ⟨x_X4, hx_X4, rfl, rfl⟩ := hΦ
      subst hx_X4
      replace hPM : va_P D vwCl (wM am cI n ((setS n st hr ca ((xs (6 * u + 1)).toInt) ((xs (6 * u + 2)).toInt) ((xs (6 * u + 3)).toInt) ((xs (6 * u + 4)).toInt)).2.1) ((setS n st hr ca ((xs (6 * u + 1)).toInt) ((xs (6 * u + 2)).toInt) ((xs (6 * u + 3)).toInt) ((xs (6 * u + 4)).toInt)).2.2.1) ((setS n st hr ca ((xs (6 * u + 1)).toInt) ((xs (6 * u + 2)).toInt) ((xs (6 * u + 3)).toInt) ((xs (6 * u + 4)).toInt)).2.2.2) sp k ts th pr hc lu ll up lo mf rr mh) H := hPn
      replace hD : va_D (fun q : Nat => s.heap.size ≤ q) ((wX ax cI cJ n ((setS n st hr ca ((xs (6 * u + 1)).toInt) ((xs (6 * u + 2)).toInt) ((xs (6 * u + 3)).toInt) ((xs (6 * u + 4)).toInt)).2.1) ((setS n st hr ca ((xs (6 * u + 1)).toInt) ((xs (6 * u + 2)).toInt) ((xs (6 * u + 3)).toInt) ((xs (6 * u + 4)).toInt)).2.2.1) ((setS n st hr ca ((xs (6 * u + 1)).toInt) ((xs (6 * u + 2)).toInt) ((xs (6 * u + 3)).toInt) ((xs (6 * u + 4)).toInt)).2.2.2) pcs fr lv k ts th sp hv pr hc) ++ (wM am cI n ((setS n st hr ca ((xs (6 * u + 1)).toInt) ((xs (6 * u + 2)).toInt) ((xs (6 * u + 3)).toInt) ((xs (6 * u + 4)).toInt)).2.1) ((setS n st hr ca ((xs (6 * u + 1)).toInt) ((xs (6 * u + 2)).toInt) ((xs (6 * u + 3)).toInt) ((xs (6 * u + 4)).toInt)).2.2.1) ((setS n st hr ca ((xs (6 * u + 1)).toInt) ((xs (6 * u + 2)).toInt) ((xs (6 * u + 3)).toInt) ((xs (6 * u + 4)).toInt)).2.2.2) sp k ts th pr hc lu ll up lo mf rr mh)) := hD.same rfl
      refine z_sameI (tgt := 995) (pc := 227) hx hb dL_law_227 (by decide) ?_
      refine lv_iinc (v := zi (z3 + 6)) (lv' := [(3, .int (zi ((z3 + 6)))), (0, .ref b), (1, .ref (ax 0)), (2, .ref (am 0))]) (pc := 995) hx hb dL_law_995 hl (k := 3) rfl (zi_add _ _) (by decide) rfl (fun ls hl => ?_)
      refine lv_goto (tgt := 18) (pc := 998) hx hb dL_law_998 (by decide) ?_
      exact ih (z3 + 6) (by omega) _ _ _ _ _ _ _ _ _ _ _ _ _ _ _ _ _ _ _ _ _ _ _ (VU_set hU _ _ _ _) hV hPX hPM hD hS ls (lv_sub hl [1, 2, 3, 0] rfl)
    · refine z_tabIn (tgt := 232) (pc := 33) hx hb (2) dL_law_33 qv (by decide) (by decide) (by decide) rfl (by decide) ?_
      refine lv_aload_n (pc := 232) hx hb dL_law_232 rfl (lv_at hl 1 rfl) ?_
      refine wr_V (pc := 233) hx hb hml hown hT hK (c_X3_drop D cI cJ l ax n st hr ca pcs fr lv k ts th sp hv pr hc hU ) ca_X3_drop tw_124 hPX hD.left hS (fun q h => inW_l hD h) 0 3 rfl rfl rfl ⟨Nat.le_of_ble_eq_true rfl, Nat.le_of_ble_eq_true rfl⟩ rfl hl.1 (As := []) (rest := []) rfl (Nat.le_of_ble_eq_true rfl) ⟨Nat.le_of_ble_eq_true rfl, Nat.le_of_ble_eq_true rfl⟩ dL_law_233 (fun v_ ws_ H locs hΦ hPn hz_ hk_ hS => ?_)
      replace hPM := fr_r hD hPM hk_
      obtain ⟨x_X3, hx_X3, rfl, rfl⟩ := hΦ
      subst hx_X3
      replace hPX : va_P D vwCl (wX ax cI cJ ((dropS n).2) st hr ca pcs fr lv k ts th sp hv pr hc) H := hPn
      replace hD : va_D (fun q : Nat => s.heap.size ≤ q) ((wX ax cI cJ ((dropS n).2) st hr ca pcs fr lv k ts th sp hv pr hc) ++ (wM am cI n st hr ca sp k ts th pr hc lu ll up lo mf rr mh)) := hD.same rfl
      refine lv_aload_n (pc := 236) hx hb dL_law_236 rfl (lv_at hl 2 rfl) ?_
      refine wr_V (pc := 237) hx hb hml hown hT hK (c_X4_drop D cI cJ l am n st hr ca sp k ts th pr hc lu ll up lo mf rr mh hU ) ca_X4_drop tw_417 hPM hD.right hS (fun q h => inW_r hD h) 0 4 rfl rfl rfl ⟨Nat.le_of_ble_eq_true rfl, Nat.le_of_ble_eq_true rfl⟩ rfl hl.1 (As := []) (rest := [.int (zi ((dropS n).1))]) rfl (Nat.le_of_ble_eq_true rfl) ⟨Nat.le_of_ble_eq_true rfl, Nat.le_of_ble_eq_true rfl⟩ dL_law_237 (fun v_ ws_ H locs hΦ hPn hz_ hk_ hS => ?_)
      replace hPX := fr_l hD hPX hk_
      obtain ⟨x_X4, hx_X4, rfl, rfl⟩ := hΦ
      subst hx_X4
      replace hPM : va_P D vwCl (wM am cI ((dropS n).2) st hr ca sp k ts th pr hc lu ll up lo mf rr mh) H := hPn
      replace hD : va_D (fun q : Nat => s.heap.size ≤ q) ((wX ax cI cJ ((dropS n).2) st hr ca pcs fr lv k ts th sp hv pr hc) ++ (wM am cI ((dropS n).2) st hr ca sp k ts th pr hc lu ll up lo mf rr mh)) := hD.same rfl
      refine z_sameI (tgt := 995) (pc := 240) hx hb dL_law_240 (by decide) ?_
      refine lv_iinc (v := zi (z3 + 6)) (lv' := [(3, .int (zi ((z3 + 6)))), (0, .ref b), (1, .ref (ax 0)), (2, .ref (am 0))]) (pc := 995) hx hb dL_law_995 hl (k := 3) rfl (zi_add _ _) (by decide) rfl (fun ls hl => ?_)
      refine lv_goto (tgt := 18) (pc := 998) hx hb dL_law_998 (by decide) ?_
      exact ih (z3 + 6) (by omega) _ _ _ _ _ _ _ _ _ _ _ _ _ _ _ _ _ _ _ _ _ _ _ (VU_drop hU) hV hPX hPM hD hS ls (lv_sub hl [1, 2, 3, 0] rfl)
    · refine z_tabIn (tgt := 245) (pc := 33) hx hb (3) dL_law_33 qv (by decide) (by decide) (by decide) rfl (by decide) ?_
      refine lv_aload_n (pc := 245) hx hb dL_law_245 rfl (lv_at hl 1 rfl) ?_
      refine lv_aload_n (pc := 246) hx hb dL_law_246 rfl (lv_at hl 0 rfl) ?_
      refine lv_iload_n (pc := 247) hx hb dL_law_247 rfl (lv_at hl 3 rfl) ?_
      refine z_iconst (pc := 248) hx hb dL_law_248 ?_
      refine z_iadd (pc := 249) hx hb dL_law_249 ?_
      refine z_sld (pc := 250) hx hb hX hbl hbA hS (6 * u + 1) (by omega) (by omega) (by omega) dL_law_250 ?_
      refine lv_aload_n (pc := 251) hx hb dL_law_251 rfl (lv_at hl 0 rfl) ?_
      refine lv_iload_n (pc := 252) hx hb dL_law_252 rfl (lv_at hl 3 rfl) ?_
      refine z_iconst (pc := 253) hx hb dL_law_253 ?_
      refine z_iadd (pc := 254) hx hb dL_law_254 ?_
      refine z_sld (pc := 255) hx hb hX hbl hbA hS (6 * u + 2) (by omega) (by omega) (by omega) dL_law_255 ?_
      refine rd_V (pc := 256) hx hb hml hown hT hK (c_X3_told D cI cJ l ax n st hr ca pcs fr lv k ts th sp hv pr hc hU hV.2.2.2.2.1 ((xs (6 * u + 1)).toInt) (zi_rng _) ((xs (6 * u + 2)).toInt) (zi_rng _)) ca_X3_told tw_128 hPX 0 3 rfl rfl rfl ⟨Nat.le_of_ble_eq_true rfl, Nat.le_of_ble_eq_true rfl⟩ rfl hl.1 (As := [.int (zi ((xs (6 * u + 1)).toInt)), .int (zi ((xs (6 * u + 2)).toInt))]) (rest := []) rfl (Nat.le_of_ble_eq_true rfl) ⟨Nat.le_of_ble_eq_true rfl, Nat.le_of_ble_eq_true rfl⟩ dL_law_256 ?_
      refine lv_aload_n (pc := 259) hx hb dL_law_259 rfl (lv_at hl 2 rfl) ?_
      refine lv_aload_n (pc := 260) hx hb dL_law_260 rfl (lv_at hl 0 rfl) ?_
      refine lv_iload_n (pc := 261) hx hb dL_law_261 rfl (lv_at hl 3 rfl) ?_
      refine z_iconst (pc := 262) hx hb dL_law_262 ?_
      refine z_iadd (pc := 263) hx hb dL_law_263 ?_
      refine z_sld (pc := 264) hx hb hX hbl hbA hS (6 * u + 1) (by omega) (by omega) (by omega) dL_law_264 ?_
      refine lv_aload_n (pc := 265) hx hb dL_law_265 rfl (lv_at hl 0 rfl) ?_
      refine lv_iload_n (pc := 266) hx hb dL_law_266 rfl (lv_at hl 3 rfl) ?_
      refine z_iconst (pc := 267) hx hb dL_law_267 ?_
      refine z_iadd (pc := 268) hx hb dL_law_268 ?_
      refine z_sld (pc := 269) hx hb hX hbl hbA hS (6 * u + 2) (by omega) (by omega) (by omega) dL_law_269 ?_
      refine rd_V (pc := 270) hx hb hml hown hT hK (c_X4_told D cI cJ l am n st hr ca sp k ts th pr hc lu ll up lo mf rr mh hU hV.2.2.2.2.1 ((xs (6 * u + 1)).toInt) (zi_rng _) ((xs (6 * u + 2)).toInt) (zi_rng _)) ca_X4_told tw_421 hPM 0 4 rfl rfl rfl ⟨Nat.le_of_ble_eq_true rfl, Nat.le_of_ble_eq_true rfl⟩ rfl hl.1 (As := [.int (zi ((xs (6 * u + 1)).toInt)), .int (zi ((xs (6 * u + 2)).toInt))]) (rest := [.int (zi ((toldZ n st hr ca sp ((xs (6 * u + 1)).toInt) ((xs (6 * u + 2)).toInt))))]) rfl (Nat.le_of_ble_eq_true rfl) ⟨Nat.le_of_ble_eq_true rfl, Nat.le_of_ble_eq_true rfl⟩ dL_law_270 ?_
      refine z_sameI (tgt := 995) (pc := 273) hx hb dL_law_273 (by decide) ?_
      refine lv_iinc (v := zi (z3 + 6)) (lv' := [(3, .int (zi ((z3 + 6)))), (0, .ref b), (1, .ref (ax 0)), (2, .ref (am 0))]) (pc := 995) hx hb dL_law_995 hl (k := 3) rfl (zi_add _ _) (by decide) rfl (fun ls hl => ?_)
      refine lv_goto (tgt := 18) (pc := 998) hx hb dL_law_998 (by decide) ?_
      exact ih (z3 + 6) (by omega) _ _ _ _ _ _ _ _ _ _ _ _ _ _ _ _ _ _ _ _ _ _ _ hU hV hPX hPM hD hS ls (lv_sub hl [1, 2, 3, 0] rfl)
    · refine z_tabIn (tgt := 278) (pc := 33) hx hb (4) dL_law_33 qv (by decide) (by decide) (by decide) rfl (by decide) ?_
      refine lv_aload_n (pc := 278) hx hb dL_law_278 rfl (lv_at hl 1 rfl) ?_
      refine lv_aload_n (pc := 279) hx hb dL_law_279 rfl (lv_at hl 0 rfl) ?_
      refine lv_iload_n (pc := 280) hx hb dL_law_280 rfl (lv_at hl 3 rfl) ?_
      refine z_iconst (pc := 281) hx hb dL_law_281 ?_
      refine z_iadd (pc := 282) hx hb dL_law_282 ?_
      refine z_sld (pc := 283) hx hb hX hbl hbA hS (6 * u + 1) (by omega) (by omega) (by omega) dL_law_283 ?_
      refine lv_aload_n (pc := 284) hx hb dL_law_284 rfl (lv_at hl 0 rfl) ?_
      refine lv_iload_n (pc := 285) hx hb dL_law_285 rfl (lv_at hl 3 rfl) ?_
      refine z_iconst (pc := 286) hx hb dL_law_286 ?_
      refine z_iadd (pc := 287) hx hb dL_law_287 ?_
      refine z_sld (pc := 288) hx hb hX hbl hbA hS (6 * u + 2) (by omega) (by omega) (by omega) dL_law_288 ?_
      refine rd_V (pc := 289) hx hb hml hown hT hK (c_X3_count D cI cJ l ax n st hr ca pcs fr lv k ts th sp hv pr hc hU hV.2.2.2.2.1 ((xs (6 * u + 1)).toInt) (zi_rng _) ((xs (6 * u + 2)).toInt) (zi_rng _)) ca_X3_count tw_136 hPX 0 3 rfl rfl rfl ⟨Nat.le_of_ble_eq_true rfl, Nat.le_of_ble_eq_true rfl⟩ rfl hl.1 (As := [.int (zi ((xs (6 * u + 1)).toInt)), .int (zi ((xs (6 * u + 2)).toInt))]) (rest := []) rfl (Nat.le_of_ble_eq_true rfl) ⟨Nat.le_of_ble_eq_true rfl, Nat.le_of_ble_eq_true rfl⟩ dL_law_289 ?_
      refine lv_aload_n (pc := 292) hx hb dL_law_292 rfl (lv_at hl 2 rfl) ?_
      refine lv_aload_n (pc := 293) hx hb dL_law_293 rfl (lv_at hl 0 rfl) ?_
      refine lv_iload_n (pc := 294) hx hb dL_law_294 rfl (lv_at hl 3 rfl) ?_
      refine z_iconst (pc := 295) hx hb dL_law_295 ?_
      refine z_iadd (pc := 296) hx hb dL_law_296 ?_
      refine z_sld (pc := 297) hx hb hX hbl hbA hS (6 * u + 1) (by omega) (by omega) (by omega) dL_law_297 ?_
      refine lv_aload_n (pc := 298) hx hb dL_law_298 rfl (lv_at hl 0 rfl) ?_
      refine lv_iload_n (pc := 299) hx hb dL_law_299 rfl (lv_at hl 3 rfl) ?_
      refine z_iconst (pc := 300) hx hb dL_law_300 ?_
      refine z_iadd (pc := 301) hx hb dL_law_301 ?_
      refine z_sld (pc := 302) hx hb hX hbl hbA hS (6 * u + 2) (by omega) (by omega) (by omega) dL_law_302 ?_
      refine rd_V (pc := 303) hx hb hml hown hT hK (c_X4_count D cI cJ l am n st hr ca sp k ts th pr hc lu ll up lo mf rr mh hU hV.2.2.2.2.1 ((xs (6 * u + 1)).toInt) (zi_rng _) ((xs (6 * u + 2)).toInt) (zi_rng _)) ca_X4_count tw_429 hPM 0 4 rfl rfl rfl ⟨Nat.le_of_ble_eq_true rfl, Nat.le_of_ble_eq_true rfl⟩ rfl hl.1 (As := [.int (zi ((xs (6 * u + 1)).toInt)), .int (zi ((xs (6 * u + 2)).toInt))]) (rest := [.int (zi ((countZ n st hr ca sp ((xs (6 * u + 1)).toInt) ((xs (6 * u + 2)).toInt))))]) rfl (Nat.le_of_ble_eq_true rfl) ⟨Nat.le_of_ble_eq_true rfl, Nat.le_of_ble_eq_true rfl⟩ dL_law_303 ?_
      refine z_sameI (tgt := 995) (pc := 306) hx hb dL_law_306 (by decide) ?_
      refine lv_iinc (v := zi (z3 + 6)) (lv' := [(3, .int (zi ((z3 + 6)))), (0, .ref b), (1, .ref (ax 0)), (2, .ref (am 0))]) (pc := 995) hx hb dL_law_995 hl (k := 3) rfl (zi_add _ _) (by decide) rfl (fun ls hl => ?_)
      refine lv_goto (tgt := 18) (pc := 998) hx hb dL_law_998 (by decide) ?_
      exact ih (z3 + 6) (by omega) _ _ _ _ _ _ _ _ _ _ _ _ _ _ _ _ _ _ _ _ _ _ _ hU hV hPX hPM hD hS ls (lv_sub hl [1, 2, 3, 0] rfl)
    · refine z_tabIn (tgt := 311) (pc := 33) hx hb (5) dL_law_33 qv (by decide) (by decide) (by decide) rfl (by decide) ?_
      refine lv_aload_n (pc := 311) hx hb dL_law_311 rfl (lv_at hl 1 rfl) ?_
      refine lv_aload_n (pc := 312) hx hb dL_law_312 rfl (lv_at hl 0 rfl) ?_
      refine lv_iload_n (pc := 313) hx hb dL_law_313 rfl (lv_at hl 3 rfl) ?_
      refine z_iconst (pc := 314) hx hb dL_law_314 ?_
      refine z_iadd (pc := 315) hx hb dL_law_315 ?_
      refine z_sld (pc := 316) hx hb hX hbl hbA hS (6 * u + 1) (by omega) (by omega) (by omega) dL_law_316 ?_
      refine lv_aload_n (pc := 317) hx hb dL_law_317 rfl (lv_at hl 0 rfl) ?_
      refine lv_iload_n (pc := 318) hx hb dL_law_318 rfl (lv_at hl 3 rfl) ?_
      refine z_iconst (pc := 319) hx hb dL_law_319 ?_
      refine z_iadd (pc := 320) hx hb dL_law_320 ?_
      refine z_sld (pc := 321) hx hb hX hbl hbA hS (6 * u + 2) (by omega) (by omega) (by omega) dL_law_321 ?_
      refine rd_V (pc := 322) hx hb hml hown hT hK (c_X3_risk D cI cJ l ax n st hr ca pcs fr lv k ts th sp hv pr hc hU ((xs (6 * u + 1)).toInt) (zi_rng _) ((xs (6 * u + 2)).toInt) (zi_rng _)) ca_X3_risk tw_151 hPX 0 3 rfl rfl rfl ⟨Nat.le_of_ble_eq_true rfl, Nat.le_of_ble_eq_true rfl⟩ rfl hl.1 (As := [.int (zi ((xs (6 * u + 1)).toInt)), .int (zi ((xs (6 * u + 2)).toInt))]) (rest := []) rfl (Nat.le_of_ble_eq_true rfl) ⟨Nat.le_of_ble_eq_true rfl, Nat.le_of_ble_eq_true rfl⟩ dL_law_322 ?_
      refine lv_aload_n (pc := 325) hx hb dL_law_325 rfl (lv_at hl 2 rfl) ?_
      refine lv_aload_n (pc := 326) hx hb dL_law_326 rfl (lv_at hl 0 rfl) ?_
      refine lv_iload_n (pc := 327) hx hb dL_law_327 rfl (lv_at hl 3 rfl) ?_
      refine z_iconst (pc := 328) hx hb dL_law_328 ?_
      refine z_iadd (pc := 329) hx hb dL_law_329 ?_
      refine z_sld (pc := 330) hx hb hX hbl hbA hS (6 * u + 1) (by omega) (by omega) (by omega) dL_law_330 ?_
      refine lv_aload_n (pc := 331) hx hb dL_law_331 rfl (lv_at hl 0 rfl) ?_
      refine lv_iload_n (pc := 332) hx hb dL_law_332 rfl (lv_at hl 3 rfl) ?_
      refine z_iconst (pc := 333) hx hb dL_law_333 ?_
      refine z_iadd (pc := 334) hx hb dL_law_334 ?_
      refine z_sld (pc := 335) hx hb hX hbl hbA hS (6 * u + 2) (by omega) (by omega) (by omega) dL_law_335 ?_
      refine rd_V (pc := 336) hx hb hml hown hT hK (c_X4_risk D cI cJ l am n st hr ca sp k ts th pr hc lu ll up lo mf rr mh hU ((xs (6 * u + 1)).toInt) (zi_rng _) ((xs (6 * u + 2)).toInt) (zi_rng _)) ca_X4_risk tw_442 hPM 0 4 rfl rfl rfl ⟨Nat.le_of_ble_eq_true rfl, Nat.le_of_ble_eq_true rfl⟩ rfl hl.1 (As := [.int (zi ((xs (6 * u + 1)).toInt)), .int (zi ((xs (6 * u + 2)).toInt))]) (rest := [.int (zi ((riskZ n st hr ((xs (6 * u + 1)).toInt) ((xs (6 * u + 2)).toInt))))]) rfl (Nat.le_of_ble_eq_true rfl) ⟨Nat.le_of_ble_eq_true rfl, Nat.le_of_ble_eq_true rfl⟩ dL_law_336 ?_
      refine z_sameI (tgt := 995) (pc := 339) hx hb dL_law_339 (by decide) ?_
      refine lv_iinc (v := zi (z3 + 6)) (lv' := [(3, .int (zi ((z3 + 6)))), (0, .ref b), (1, .ref (ax 0)), (2, .ref (am 0))]) (pc := 995) hx hb dL_law_995 hl (k := 3) rfl (zi_add _ _) (by decide) rfl (fun ls hl => ?_)
      refine lv_goto (tgt := 18) (pc := 998) hx hb dL_law_998 (by decide) ?_
      exact ih (z3 + 6) (by omega) _ _ _ _ _ _ _ _ _ _ _ _ _ _ _ _ _ _ _ _ _ _ _ hU hV hPX hPM hD hS ls (lv_sub hl [1, 2, 3, 0] rfl)
    · refine z_tabIn (tgt := 344) (pc := 33) hx hb (6) dL_law_33 qv (by decide) (by decide) (by decide) rfl (by decide) ?_
      refine lv_aload_n (pc := 344) hx hb dL_law_344 rfl (lv_at hl 1 rfl) ?_
      refine lv_aload_n (pc := 345) hx hb dL_law_345 rfl (lv_at hl 0 rfl) ?_
      refine lv_iload_n (pc := 346) hx hb dL_law_346 rfl (lv_at hl 3 rfl) ?_
      refine z_iconst (pc := 347) hx hb dL_law_347 ?_
      refine z_iadd (pc := 348) hx hb dL_law_348 ?_
      refine z_sld (pc := 349) hx hb hX hbl hbA hS (6 * u + 1) (by omega) (by omega) (by omega) dL_law_349 ?_
      refine lv_aload_n (pc := 350) hx hb dL_law_350 rfl (lv_at hl 0 rfl) ?_
      refine lv_iload_n (pc := 351) hx hb dL_law_351 rfl (lv_at hl 3 rfl) ?_
      refine z_iconst (pc := 352) hx hb dL_law_352 ?_
      refine z_iadd (pc := 353) hx hb dL_law_353 ?_
      refine z_sld (pc := 354) hx hb hX hbl hbA hS (6 * u + 2) (by omega) (by omega) (by omega) dL_law_354 ?_
      refine lv_aload_n (pc := 355) hx hb dL_law_355 rfl (lv_at hl 0 rfl) ?_
      refine lv_iload_n (pc := 356) hx hb dL_law_356 rfl (lv_at hl 3 rfl) ?_
      refine z_iconst (pc := 357) hx hb dL_law_357 ?_
      refine z_iadd (pc := 358) hx hb dL_law_358 ?_
      refine z_sld (pc := 359) hx hb hX hbl hbA hS (6 * u + 3) (by omega) (by omega) (by omega) dL_law_359 ?_
      refine lv_aload_n (pc := 360) hx hb dL_law_360 rfl (lv_at hl 0 rfl) ?_
      refine lv_iload_n (pc := 361) hx hb dL_law_361 rfl (lv_at hl 3 rfl) ?_
      refine z_iconst (pc := 362) hx hb dL_law_362 ?_
      refine z_iadd (pc := 363) hx hb dL_law_363 ?_
      refine z_sld (pc := 364) hx hb hX hbl hbA hS (6 * u + 4) (by omega) (by omega) (by omega) dL_law_364 ?_
      refine wr_V (pc := 365) hx hb hml hown hT hK (c_X3_left D cI cJ l ax n st hr ca pcs fr lv k ts th sp hv pr hc hU ((xs (6 * u + 1)).toInt) (zi_rng _) ((xs (6 * u + 2)).toInt) (zi_rng _) ((xs (6 * u + 3)).toInt) (zi_rng _) ((xs (6 * u + 4)).toInt) (zi_rng _)) ca_X3_left tw_160 hPX hD.left hS (fun q h => inW_l hD h) 0 3 rfl rfl rfl ⟨Nat.le_of_ble_eq_true rfl, Nat.le_of_ble_eq_true rfl⟩ rfl hl.1 (As := [.int (zi ((xs (6 * u + 1)).toInt)), .int (zi ((xs (6 * u + 2)).toInt)), .int (zi ((xs (6 * u + 3)).toInt)), .int (zi ((xs (6 * u + 4)).toInt))]) (rest := []) rfl (Nat.le_of_ble_eq_true rfl) ⟨Nat.le_of_ble_eq_true rfl, Nat.le_of_ble_eq_true rfl⟩ dL_law_365 (fun v_ ws_ H locs hΦ hPn hz_ hk_ hS => ?_)
      replace hPM := fr_r hD hPM hk_
      obtain ⟨rfl, pcs_, fr_, lv_, rfl⟩ := hΦ
      replace hPX : va_P D vwCl (wX ax cI cJ n st hr ca pcs_ fr_ lv_ k ts th sp hv pr hc) H := hPn
      replace hD : va_D (fun q : Nat => s.heap.size ≤ q) ((wX ax cI cJ n st hr ca pcs_ fr_ lv_ k ts th sp hv pr hc) ++ (wM am cI n st hr ca sp k ts th pr hc lu ll up lo mf rr mh)) := hD.same rfl
      refine lv_aload_n (pc := 368) hx hb dL_law_368 rfl (lv_at hl 2 rfl) ?_
      refine lv_aload_n (pc := 369) hx hb dL_law_369 rfl (lv_at hl 0 rfl) ?_
      refine lv_iload_n (pc := 370) hx hb dL_law_370 rfl (lv_at hl 3 rfl) ?_
      refine z_iconst (pc := 371) hx hb dL_law_371 ?_
      refine z_iadd (pc := 372) hx hb dL_law_372 ?_
      refine z_sld (pc := 373) hx hb hX hbl hbA hS (6 * u + 1) (by omega) (by omega) (by omega) dL_law_373 ?_
      refine lv_aload_n (pc := 374) hx hb dL_law_374 rfl (lv_at hl 0 rfl) ?_
      refine lv_iload_n (pc := 375) hx hb dL_law_375 rfl (lv_at hl 3 rfl) ?_
      refine z_iconst (pc := 376) hx hb dL_law_376 ?_
      refine z_iadd (pc := 377) hx hb dL_law_377 ?_
      refine z_sld (pc := 378) hx hb hX hbl hbA hS (6 * u + 2) (by omega) (by omega) (by omega) dL_law_378 ?_
      refine lv_aload_n (pc := 379) hx hb dL_law_379 rfl (lv_at hl 0 rfl) ?_
      refine lv_iload_n (pc := 380) hx hb dL_law_380 rfl (lv_at hl 3 rfl) ?_
      refine z_iconst (pc := 381) hx hb dL_law_381 ?_
      refine z_iadd (pc := 382) hx hb dL_law_382 ?_
      refine z_sld (pc := 383) hx hb hX hbl hbA hS (6 * u + 3) (by omega) (by omega) (by omega) dL_law_383 ?_
      refine lv_aload_n (pc := 384) hx hb dL_law_384 rfl (lv_at hl 0 rfl) ?_
      refine lv_iload_n (pc := 385) hx hb dL_law_385 rfl (lv_at hl 3 rfl) ?_
      refine z_iconst (pc := 386) hx hb dL_law_386 ?_
      refine z_iadd (pc := 387) hx hb dL_law_387 ?_
      refine z_sld (pc := 388) hx hb hX hbl hbA hS (6 * u + 4) (by omega) (by omega) (by omega) dL_law_388 ?_
      refine wr_V (pc := 389) hx hb hml hown hT hK (c_X4_left D cI cJ l am n st hr ca sp k ts th pr hc lu ll up lo mf rr mh hU ((xs (6 * u + 1)).toInt) (zi_rng _) ((xs (6 * u + 2)).toInt) (zi_rng _) ((xs (6 * u + 3)).toInt) (zi_rng _) ((xs (6 * u + 4)).toInt) (zi_rng _)) ca_X4_left tw_450 hPM hD.right hS (fun q h => inW_r hD h) 0 4 rfl rfl rfl ⟨Nat.le_of_ble_eq_true rfl, Nat.le_of_ble_eq_true rfl⟩ rfl hl.1 (As := [.int (zi ((xs (6 * u + 1)).toInt)), .int (zi ((xs (6 * u + 2)).toInt)), .int (zi ((xs (6 * u + 3)).toInt)), .int (zi ((xs (6 * u + 4)).toInt))]) (rest := [.long (zj ((leftV n st hr ca ((xs (6 * u + 1)).toInt) ((xs (6 * u + 2)).toInt) ((xs (6 * u + 3)).toInt) ((xs (6 * u + 4)).toInt))))]) rfl (Nat.le_of_ble_eq_true rfl) ⟨Nat.le_of_ble_eq_true rfl, Nat.le_of_ble_eq_true rfl⟩ dL_law_389 (fun v_ ws_ H locs hΦ hPn hz_ hk_ hS => ?_)
      replace hPX := fr_l hD hPX hk_
      obtain ⟨rfl, lu_, ll_, up_, lo_, mf_, rr_, rfl⟩ := hΦ
      replace hPM : va_P D vwCl (wM am cI n st hr ca sp k ts th pr hc lu_ ll_ up_ lo_ mf_ rr_ mh) H := hPn
      replace hD : va_D (fun q : Nat => s.heap.size ≤ q) ((wX ax cI cJ n st hr ca pcs_ fr_ lv_ k ts th sp hv pr hc) ++ (wM am cI n st hr ca sp k ts th pr hc lu_ ll_ up_ lo_ mf_ rr_ mh)) := hD.same rfl
      refine z_sameJ (tgt := 995) (pc := 392) hx hb dL_law_392 dL_law_393 (by decide) ?_
      refine lv_iinc (v := zi (z3 + 6)) (lv' := [(3, .int (zi ((z3 + 6)))), (0, .ref b), (1, .ref (ax 0)), (2, .ref (am 0))]) (pc := 995) hx hb dL_law_995 hl (k := 3) rfl (zi_add _ _) (by decide) rfl (fun ls hl => ?_)
      refine lv_goto (tgt := 18) (pc := 998) hx hb dL_law_998 (by decide) ?_
      exact ih (z3 + 6) (by omega) _ _ _ _ _ _ _ _ _ _ _ _ _ _ _ _ _ _ _ _ _ _ _ hU hV hPX hPM hD hS ls (lv_sub hl [1, 2, 3, 0] rfl)
    · refine z_tabIn (tgt := 398) (pc := 33) hx hb (7) dL_law_33 qv (by decide) (by decide) (by decide) rfl (by decide) ?_
      refine lv_aload_n (pc := 398) hx hb dL_law_398 rfl (lv_at hl 1 rfl) ?_
      refine lv_aload_n (pc := 399) hx hb dL_law_399 rfl (lv_at hl 0 rfl) ?_
      refine lv_iload_n (pc := 400) hx hb dL_law_400 rfl (lv_at hl 3 rfl) ?_
      refine z_iconst (pc := 401) hx hb dL_law_401 ?_
      refine z_iadd (pc := 402) hx hb dL_law_402 ?_
      refine z_sld (pc := 403) hx hb hX hbl hbA hS (6 * u + 1) (by omega) (by omega) (by omega) dL_law_403 ?_
      refine lv_aload_n (pc := 404) hx hb dL_law_404 rfl (lv_at hl 0 rfl) ?_
      refine lv_iload_n (pc := 405) hx hb dL_law_405 rfl (lv_at hl 3 rfl) ?_
      refine z_iconst (pc := 406) hx hb dL_law_406 ?_
      refine z_iadd (pc := 407) hx hb dL_law_407 ?_
      refine z_sld (pc := 408) hx hb hX hbl hbA hS (6 * u + 2) (by omega) (by omega) (by omega) dL_law_408 ?_
      refine lv_aload_n (pc := 409) hx hb dL_law_409 rfl (lv_at hl 0 rfl) ?_
      refine lv_iload_n (pc := 410) hx hb dL_law_410 rfl (lv_at hl 3 rfl) ?_
      refine z_iconst (pc := 411) hx hb dL_law_411 ?_
      refine z_iadd (pc := 412) hx hb dL_law_412 ?_
      refine z_sld (pc := 413) hx hb hX hbl hbA hS (6 * u + 3) (by omega) (by omega) (by omega) dL_law_413 ?_
      refine lv_aload_n (pc := 414) hx hb dL_law_414 rfl (lv_at hl 0 rfl) ?_
      refine lv_iload_n (pc := 415) hx hb dL_law_415 rfl (lv_at hl 3 rfl) ?_
      refine z_iconst (pc := 416) hx hb dL_law_416 ?_
      refine z_iadd (pc := 417) hx hb dL_law_417 ?_
      refine z_sld (pc := 418) hx hb hX hbl hbA hS (6 * u + 4) (by omega) (by omega) (by omega) dL_law_418 ?_
      refine wr_V (pc := 419) hx hb hml hown hT hK (c_X3_time D cI cJ l ax n st hr ca pcs fr lv k ts th sp hv pr hc hU ((xs (6 * u + 1)).toInt) (zi_rng _) ((xs (6 * u + 2)).toInt) (zi_rng _) ((xs (6 * u + 3)).toInt) (zi_rng _) ((xs (6 * u + 4)).toInt) (zi_rng _)) ca_X3_time tw_203 hPX hD.left hS (fun q h => inW_l hD h) 0 3 rfl rfl rfl ⟨Nat.le_of_ble_eq_true rfl, Nat.le_of_ble_eq_true rfl⟩ rfl hl.1 (As := [.int (zi ((xs (6 * u + 1)).toInt)), .int (zi ((xs (6 * u + 2)).toInt)), .int (zi ((xs (6 * u + 3)).toInt)), .int (zi ((xs (6 * u + 4)).toInt))]) (rest := []) rfl (Nat.le_of_ble_eq_true rfl) ⟨Nat.le_of_ble_eq_true rfl, Nat.le_of_ble_eq_true rfl⟩ dL_law_419 (fun v_ ws_ H locs hΦ hPn hz_ hk_ hS => ?_)
      replace hPM := fr_r hD hPM hk_
      obtain ⟨rfl, pcs_, fr_, lv_, rfl⟩ := hΦ
      replace hPX : va_P D vwCl (wX ax cI cJ n st hr ca pcs_ fr_ lv_ k ts th sp hv pr hc) H := hPn
      replace hD : va_D (fun q : Nat => s.heap.size ≤ q) ((wX ax cI cJ n st hr ca pcs_ fr_ lv_ k ts th sp hv pr hc) ++ (wM am cI n st hr ca sp k ts th pr hc lu ll up lo mf rr mh)) := hD.same rfl
      refine lv_aload_n (pc := 422) hx hb dL_law_422 rfl (lv_at hl 2 rfl) ?_
      refine lv_aload_n (pc := 423) hx hb dL_law_423 rfl (lv_at hl 0 rfl) ?_
      refine lv_iload_n (pc := 424) hx hb dL_law_424 rfl (lv_at hl 3 rfl) ?_
      refine z_iconst (pc := 425) hx hb dL_law_425 ?_
      refine z_iadd (pc := 426) hx hb dL_law_426 ?_
      refine z_sld (pc := 427) hx hb hX hbl hbA hS (6 * u + 1) (by omega) (by omega) (by omega) dL_law_427 ?_
      refine lv_aload_n (pc := 428) hx hb dL_law_428 rfl (lv_at hl 0 rfl) ?_
      refine lv_iload_n (pc := 429) hx hb dL_law_429 rfl (lv_at hl 3 rfl) ?_
      refine z_iconst (pc := 430) hx hb dL_law_430 ?_
      refine z_iadd (pc := 431) hx hb dL_law_431 ?_
      refine z_sld (pc := 432) hx hb hX hbl hbA hS (6 * u + 2) (by omega) (by omega) (by omega) dL_law_432 ?_
      refine lv_aload_n (pc := 433) hx hb dL_law_433 rfl (lv_at hl 0 rfl) ?_
      refine lv_iload_n (pc := 434) hx hb dL_law_434 rfl (lv_at hl 3 rfl) ?_
      refine z_iconst (pc := 435) hx hb dL_law_435 ?_
      refine z_iadd (pc := 436) hx hb dL_law_436 ?_
      refine z_sld (pc := 437) hx hb hX hbl hbA hS (6 * u + 3) (by omega) (by omega) (by omega) dL_law_437 ?_
      refine lv_aload_n (pc := 438) hx hb dL_law_438 rfl (lv_at hl 0 rfl) ?_
      refine lv_iload_n (pc := 439) hx hb dL_law_439 rfl (lv_at hl 3 rfl) ?_
      refine z_iconst (pc := 440) hx hb dL_law_440 ?_
      refine z_iadd (pc := 441) hx hb dL_law_441 ?_
      refine z_sld (pc := 442) hx hb hX hbl hbA hS (6 * u + 4) (by omega) (by omega) (by omega) dL_law_442 ?_
      refine wr_V (pc := 443) hx hb hml hown hT hK (c_X4_time D cI cJ l am n st hr ca sp k ts th pr hc lu ll up lo mf rr mh hU ((xs (6 * u + 1)).toInt) (zi_rng _) ((xs (6 * u + 2)).toInt) (zi_rng _) ((xs (6 * u + 3)).toInt) (zi_rng _) ((xs (6 * u + 4)).toInt) (zi_rng _)) ca_X4_time tw_474 hPM hD.right hS (fun q h => inW_r hD h) 0 4 rfl rfl rfl ⟨Nat.le_of_ble_eq_true rfl, Nat.le_of_ble_eq_true rfl⟩ rfl hl.1 (As := [.int (zi ((xs (6 * u + 1)).toInt)), .int (zi ((xs (6 * u + 2)).toInt)), .int (zi ((xs (6 * u + 3)).toInt)), .int (zi ((xs (6 * u + 4)).toInt))]) (rest := [.int (zi ((timeV n st hr ca ((xs (6 * u + 1)).toInt) ((xs (6 * u + 2)).toInt) ((xs (6 * u + 3)).toInt) ((xs (6 * u + 4)).toInt))))]) rfl (Nat.le_of_ble_eq_true rfl) ⟨Nat.le_of_ble_eq_true rfl, Nat.le_of_ble_eq_true rfl⟩ dL_law_443 (fun v_ ws_ H locs hΦ hPn hz_ hk_ hS => ?_)
      replace hPX := fr_l hD hPX hk_
      obtain ⟨rfl, lu_, ll_, up_, lo_, mf_, rr_, rfl⟩ := hΦ
      replace hPM : va_P D vwCl (wM am cI n st hr ca sp k ts th pr hc lu_ ll_ up_ lo_ mf_ rr_ mh) H := hPn
      replace hD : va_D (fun q : Nat => s.heap.size ≤ q) ((wX ax cI cJ n st hr ca pcs_ fr_ lv_ k ts th sp hv pr hc) ++ (wM am cI n st hr ca sp k ts th pr hc lu_ ll_ up_ lo_ mf_ rr_ mh)) := hD.same rfl
      refine z_sameI (tgt := 995) (pc := 446) hx hb dL_law_446 (by decide) ?_
      refine lv_iinc (v := zi (z3 + 6)) (lv' := [(3, .int (zi ((z3 + 6)))), (0, .ref b), (1, .ref (ax 0)), (2, .ref (am 0))]) (pc := 995) hx hb dL_law_995 hl (k := 3) rfl (zi_add _ _) (by decide) rfl (fun ls hl => ?_)
      refine lv_goto (tgt := 18) (pc := 998) hx hb dL_law_998 (by decide) ?_
      exact ih (z3 + 6) (by omega) _ _ _ _ _ _ _ _ _ _ _ _ _ _ _ _ _ _ _ _ _ _ _ hU hV hPX hPM hD hS ls (lv_sub hl [1, 2, 3, 0] rfl)
    · refine z_tabIn (tgt := 451) (pc := 33) hx hb (8) dL_law_33 qv (by decide) (by decide) (by decide) rfl (by decide) ?_
      refine lv_aload_n (pc := 451) hx hb dL_law_451 rfl (lv_at hl 1 rfl) ?_
      refine lv_aload_n (pc := 452) hx hb dL_law_452 rfl (lv_at hl 0 rfl) ?_
      refine lv_iload_n (pc := 453) hx hb dL_law_453 rfl (lv_at hl 3 rfl) ?_
      refine z_iconst (pc := 454) hx hb dL_law_454 ?_
      refine z_iadd (pc := 455) hx hb dL_law_455 ?_
      refine z_sld (pc := 456) hx hb hX hbl hbA hS (6 * u + 1) (by omega) (by omega) (by omega) dL_law_456 ?_
      refine lv_aload_n (pc := 457) hx hb dL_law_457 rfl (lv_at hl 0 rfl) ?_
      refine lv_iload_n (pc := 458) hx hb dL_law_458 rfl (lv_at hl 3 rfl) ?_
      refine z_iconst (pc := 459) hx hb dL_law_459 ?_
      refine z_iadd (pc := 460) hx hb dL_law_460 ?_
      refine z_sld (pc := 461) hx hb hX hbl hbA hS (6 * u + 2) (by omega) (by omega) (by omega) dL_law_461 ?_
      refine lv_aload_n (pc := 462) hx hb dL_law_462 rfl (lv_at hl 0 rfl) ?_
      refine lv_iload_n (pc := 463) hx hb dL_law_463 rfl (lv_at hl 3 rfl) ?_
      refine z_iconst (pc := 464) hx hb dL_law_464 ?_
      refine z_iadd (pc := 465) hx hb dL_law_465 ?_
      refine z_sld (pc := 466) hx hb hX hbl hbA hS (6 * u + 3) (by omega) (by omega) (by omega) dL_law_466 ?_
      refine lv_aload_n (pc := 467) hx hb dL_law_467 rfl (lv_at hl 0 rfl) ?_
      refine lv_iload_n (pc := 468) hx hb dL_law_468 rfl (lv_at hl 3 rfl) ?_
      refine z_iconst (pc := 469) hx hb dL_law_469 ?_
      refine z_iadd (pc := 470) hx hb dL_law_470 ?_
      refine z_sld (pc := 471) hx hb hX hbl hbA hS (6 * u + 4) (by omega) (by omega) (by omega) dL_law_471 ?_
      refine wr_V (pc := 472) hx hb hml hown hT hK (c_X3_mean D cI cJ l ax n st hr ca pcs fr lv k ts th sp hv pr hc hU ((xs (6 * u + 1)).toInt) (zi_rng _) ((xs (6 * u + 2)).toInt) (zi_rng _) ((xs (6 * u + 3)).toInt) (zi_rng _) ((xs (6 * u + 4)).toInt) (zi_rng _)) ca_X3_mean tw_212 hPX hD.left hS (fun q h => inW_l hD h) 0 3 rfl rfl rfl ⟨Nat.le_of_ble_eq_true rfl, Nat.le_of_ble_eq_true rfl⟩ rfl hl.1 (As := [.int (zi ((xs (6 * u + 1)).toInt)), .int (zi ((xs (6 * u + 2)).toInt)), .int (zi ((xs (6 * u + 3)).toInt)), .int (zi ((xs (6 * u + 4)).toInt))]) (rest := []) rfl (Nat.le_of_ble_eq_true rfl) ⟨Nat.le_of_ble_eq_true rfl, Nat.le_of_ble_eq_true rfl⟩ dL_law_472 (fun v_ ws_ H locs hΦ hPn hz_ hk_ hS => ?_)
      replace hPM := fr_r hD hPM hk_
      obtain ⟨rfl, pcs_, fr_, lv_, rfl⟩ := hΦ
      replace hPX : va_P D vwCl (wX ax cI cJ n st hr ca pcs_ fr_ lv_ k ts th sp hv pr hc) H := hPn
      replace hD : va_D (fun q : Nat => s.heap.size ≤ q) ((wX ax cI cJ n st hr ca pcs_ fr_ lv_ k ts th sp hv pr hc) ++ (wM am cI n st hr ca sp k ts th pr hc lu ll up lo mf rr mh)) := hD.same rfl
      refine lv_aload_n (pc := 475) hx hb dL_law_475 rfl (lv_at hl 2 rfl) ?_
      refine lv_aload_n (pc := 476) hx hb dL_law_476 rfl (lv_at hl 0 rfl) ?_
      refine lv_iload_n (pc := 477) hx hb dL_law_477 rfl (lv_at hl 3 rfl) ?_
      refine z_iconst (pc := 478) hx hb dL_law_478 ?_
      refine z_iadd (pc := 479) hx hb dL_law_479 ?_
      refine z_sld (pc := 480) hx hb hX hbl hbA hS (6 * u + 1) (by omega) (by omega) (by omega) dL_law_480 ?_
      refine lv_aload_n (pc := 481) hx hb dL_law_481 rfl (lv_at hl 0 rfl) ?_
      refine lv_iload_n (pc := 482) hx hb dL_law_482 rfl (lv_at hl 3 rfl) ?_
      refine z_iconst (pc := 483) hx hb dL_law_483 ?_
      refine z_iadd (pc := 484) hx hb dL_law_484 ?_
      refine z_sld (pc := 485) hx hb hX hbl hbA hS (6 * u + 2) (by omega) (by omega) (by omega) dL_law_485 ?_
      refine lv_aload_n (pc := 486) hx hb dL_law_486 rfl (lv_at hl 0 rfl) ?_
      refine lv_iload_n (pc := 487) hx hb dL_law_487 rfl (lv_at hl 3 rfl) ?_
      refine z_iconst (pc := 488) hx hb dL_law_488 ?_
      refine z_iadd (pc := 489) hx hb dL_law_489 ?_
      refine z_sld (pc := 490) hx hb hX hbl hbA hS (6 * u + 3) (by omega) (by omega) (by omega) dL_law_490 ?_
      refine lv_aload_n (pc := 491) hx hb dL_law_491 rfl (lv_at hl 0 rfl) ?_
      refine lv_iload_n (pc := 492) hx hb dL_law_492 rfl (lv_at hl 3 rfl) ?_
      refine z_iconst (pc := 493) hx hb dL_law_493 ?_
      refine z_iadd (pc := 494) hx hb dL_law_494 ?_
      refine z_sld (pc := 495) hx hb hX hbl hbA hS (6 * u + 4) (by omega) (by omega) (by omega) dL_law_495 ?_
      refine wr_V (pc := 496) hx hb hml hown hT hK (c_X4_mean D cI cJ l am n st hr ca sp k ts th pr hc lu ll up lo mf rr mh hU ((xs (6 * u + 1)).toInt) (zi_rng _) ((xs (6 * u + 2)).toInt) (zi_rng _) ((xs (6 * u + 3)).toInt) (zi_rng _) ((xs (6 * u + 4)).toInt) (zi_rng _)) ca_X4_mean tw_483 hPM hD.right hS (fun q h => inW_r hD h) 0 4 rfl rfl rfl ⟨Nat.le_of_ble_eq_true rfl, Nat.le_of_ble_eq_true rfl⟩ rfl hl.1 (As := [.int (zi ((xs (6 * u + 1)).toInt)), .int (zi ((xs (6 * u + 2)).toInt)), .int (zi ((xs (6 * u + 3)).toInt)), .int (zi ((xs (6 * u + 4)).toInt))]) (rest := [.long (zj ((meanV n st hr ca ((xs (6 * u + 1)).toInt) ((xs (6 * u + 2)).toInt) ((xs (6 * u + 3)).toInt) ((xs (6 * u + 4)).toInt))))]) rfl (Nat.le_of_ble_eq_true rfl) ⟨Nat.le_of_ble_eq_true rfl, Nat.le_of_ble_eq_true rfl⟩ dL_law_496 (fun v_ ws_ H locs hΦ hPn hz_ hk_ hS => ?_)
      replace hPX := fr_l hD hPX hk_
      obtain ⟨rfl, lu_, ll_, up_, lo_, mf_, rr_, rfl⟩ := hΦ
      replace hPM : va_P D vwCl (wM am cI n st hr ca sp k ts th pr hc lu_ ll_ up_ lo_ mf_ rr_ mh) H := hPn
      replace hD : va_D (fun q : Nat => s.heap.size ≤ q) ((wX ax cI cJ n st hr ca pcs_ fr_ lv_ k ts th sp hv pr hc) ++ (wM am cI n st hr ca sp k ts th pr hc lu_ ll_ up_ lo_ mf_ rr_ mh)) := hD.same rfl
      refine z_sameJ (tgt := 995) (pc := 499) hx hb dL_law_499 dL_law_500 (by decide) ?_
      refine lv_iinc (v := zi (z3 + 6)) (lv' := [(3, .int (zi ((z3 + 6)))), (0, .ref b), (1, .ref (ax 0)), (2, .ref (am 0))]) (pc := 995) hx hb dL_law_995 hl (k := 3) rfl (zi_add _ _) (by decide) rfl (fun ls hl => ?_)
      refine lv_goto (tgt := 18) (pc := 998) hx hb dL_law_998 (by decide) ?_
      exact ih (z3 + 6) (by omega) _ _ _ _ _ _ _ _ _ _ _ _ _ _ _ _ _ _ _ _ _ _ _ hU hV hPX hPM hD hS ls (lv_sub hl [1, 2, 3, 0] rfl)
    · refine z_tabIn (tgt := 505) (pc := 33) hx hb (9) dL_law_33 qv (by decide) (by decide) (by decide) rfl (by decide) ?_
      refine lv_aload_n (pc := 505) hx hb dL_law_505 rfl (lv_at hl 1 rfl) ?_
      refine lv_aload_n (pc := 506) hx hb dL_law_506 rfl (lv_at hl 0 rfl) ?_
      refine lv_iload_n (pc := 507) hx hb dL_law_507 rfl (lv_at hl 3 rfl) ?_
      refine z_iconst (pc := 508) hx hb dL_law_508 ?_
      refine z_iadd (pc := 509) hx hb dL_law_509 ?_
      refine z_sld (pc := 510) hx hb hX hbl hbA hS (6 * u + 1) (by omega) (by omega) (by omega) dL_law_510 ?_
      refine lv_aload_n (pc := 511) hx hb dL_law_511 rfl (lv_at hl 0 rfl) ?_
      refine lv_iload_n (pc := 512) hx hb dL_law_512 rfl (lv_at hl 3 rfl) ?_
      refine z_iconst (pc := 513) hx hb dL_law_513 ?_
      refine z_iadd (pc := 514) hx hb dL_law_514 ?_
      refine z_sld (pc := 515) hx hb hX hbl hbA hS (6 * u + 2) (by omega) (by omega) (by omega) dL_law_515 ?_
      refine lv_aload_n (pc := 516) hx hb dL_law_516 rfl (lv_at hl 0 rfl) ?_
      refine lv_iload_n (pc := 517) hx hb dL_law_517 rfl (lv_at hl 3 rfl) ?_
      refine z_iconst (pc := 518) hx hb dL_law_518 ?_
      refine z_iadd (pc := 519) hx hb dL_law_519 ?_
      refine z_sld (pc := 520) hx hb hX hbl hbA hS (6 * u + 3) (by omega) (by omega) (by omega) dL_law_520 ?_
      refine lv_aload_n (pc := 521) hx hb dL_law_521 rfl (lv_at hl 0 rfl) ?_
      refine lv_iload_n (pc := 522) hx hb dL_law_522 rfl (lv_at hl 3 rfl) ?_
      refine z_iconst (pc := 523) hx hb dL_law_523 ?_
      refine z_iadd (pc := 524) hx hb dL_law_524 ?_
      refine z_sld (pc := 525) hx hb hX hbl hbA hS (6 * u + 4) (by omega) (by omega) (by omega) dL_law_525 ?_
      refine lv_aload_n (pc := 526) hx hb dL_law_526 rfl (lv_at hl 0 rfl) ?_
      refine lv_iload_n (pc := 527) hx hb dL_law_527 rfl (lv_at hl 3 rfl) ?_
      refine z_iconst (pc := 528) hx hb dL_law_528 ?_
      refine z_iadd (pc := 529) hx hb dL_law_529 ?_
      refine z_sld (pc := 530) hx hb hX hbl hbA hS (6 * u + 5) (by omega) (by omega) (by omega) dL_law_530 ?_
      refine wr_V (pc := 531) hx hb hml hown hT hK (c_X3_rest D cI cJ l ax n st hr ca pcs fr lv k ts th sp hv pr hc hU ((xs (6 * u + 1)).toInt) (zi_rng _) ((xs (6 * u + 2)).toInt) (zi_rng _) ((xs (6 * u + 3)).toInt) (zi_rng _) ((xs (6 * u + 4)).toInt) (zi_rng _) ((xs (6 * u + 5)).toInt) (zi_rng _)) ca_X3_rest tw_226 hPX hD.left hS (fun q h => inW_l hD h) 0 3 rfl rfl rfl ⟨Nat.le_of_ble_eq_true rfl, Nat.le_of_ble_eq_true rfl⟩ rfl hl.1 (As := [.int (zi ((xs (6 * u + 1)).toInt)), .int (zi ((xs (6 * u + 2)).toInt)), .int (zi ((xs (6 * u + 3)).toInt)), .int (zi ((xs (6 * u + 4)).toInt)), .int (zi ((xs (6 * u + 5)).toInt))]) (rest := []) rfl (Nat.le_of_ble_eq_true rfl) ⟨Nat.le_of_ble_eq_true rfl, Nat.le_of_ble_eq_true rfl⟩ dL_law_531 (fun v_ ws_ H locs hΦ hPn hz_ hk_ hS => ?_)
      replace hPM := fr_r hD hPM hk_
      obtain ⟨rfl, pcs_, fr_, lv_, rfl⟩ := hΦ
      replace hPX : va_P D vwCl (wX ax cI cJ n st hr ca pcs_ fr_ lv_ k ts th sp hv pr hc) H := hPn
      replace hD : va_D (fun q : Nat => s.heap.size ≤ q) ((wX ax cI cJ n st hr ca pcs_ fr_ lv_ k ts th sp hv pr hc) ++ (wM am cI n st hr ca sp k ts th pr hc lu ll up lo mf rr mh)) := hD.same rfl
      refine lv_aload_n (pc := 534) hx hb dL_law_534 rfl (lv_at hl 2 rfl) ?_
      refine lv_aload_n (pc := 535) hx hb dL_law_535 rfl (lv_at hl 0 rfl) ?_
      refine lv_iload_n (pc := 536) hx hb dL_law_536 rfl (lv_at hl 3 rfl) ?_
      refine z_iconst (pc := 537) hx hb dL_law_537 ?_
      refine z_iadd (pc := 538) hx hb dL_law_538 ?_
      refine z_sld (pc := 539) hx hb hX hbl hbA hS (6 * u + 1) (by omega) (by omega) (by omega) dL_law_539 ?_
      refine lv_aload_n (pc := 540) hx hb dL_law_540 rfl (lv_at hl 0 rfl) ?_
      refine lv_iload_n (pc := 541) hx hb dL_law_541 rfl (lv_at hl 3 rfl) ?_
      refine z_iconst (pc := 542) hx hb dL_law_542 ?_
      refine z_iadd (pc := 543) hx hb dL_law_543 ?_
      refine z_sld (pc := 544) hx hb hX hbl hbA hS (6 * u + 2) (by omega) (by omega) (by omega) dL_law_544 ?_
      refine lv_aload_n (pc := 545) hx hb dL_law_545 rfl (lv_at hl 0 rfl) ?_
      refine lv_iload_n (pc := 546) hx hb dL_law_546 rfl (lv_at hl 3 rfl) ?_
      refine z_iconst (pc := 547) hx hb dL_law_547 ?_
      refine z_iadd (pc := 548) hx hb dL_law_548 ?_
      refine z_sld (pc := 549) hx hb hX hbl hbA hS (6 * u + 3) (by omega) (by omega) (by omega) dL_law_549 ?_
      refine lv_aload_n (pc := 550) hx hb dL_law_550 rfl (lv_at hl 0 rfl) ?_
      refine lv_iload_n (pc := 551) hx hb dL_law_551 rfl (lv_at hl 3 rfl) ?_
      refine z_iconst (pc := 552) hx hb dL_law_552 ?_
      refine z_iadd (pc := 553) hx hb dL_law_553 ?_
      refine z_sld (pc := 554) hx hb hX hbl hbA hS (6 * u + 4) (by omega) (by omega) (by omega) dL_law_554 ?_
      refine lv_aload_n (pc := 555) hx hb dL_law_555 rfl (lv_at hl 0 rfl) ?_
      refine lv_iload_n (pc := 556) hx hb dL_law_556 rfl (lv_at hl 3 rfl) ?_
      refine z_iconst (pc := 557) hx hb dL_law_557 ?_
      refine z_iadd (pc := 558) hx hb dL_law_558 ?_
      refine z_sld (pc := 559) hx hb hX hbl hbA hS (6 * u + 5) (by omega) (by omega) (by omega) dL_law_559 ?_
      refine wr_V (pc := 560) hx hb hml hown hT hK (c_X4_rest D cI cJ l am n st hr ca sp k ts th pr hc lu ll up lo mf rr mh hU ((xs (6 * u + 1)).toInt) (zi_rng _) ((xs (6 * u + 2)).toInt) (zi_rng _) ((xs (6 * u + 3)).toInt) (zi_rng _) ((xs (6 * u + 4)).toInt) (zi_rng _) ((xs (6 * u + 5)).toInt) (zi_rng _)) ca_X4_rest tw_495 hPM hD.right hS (fun q h => inW_r hD h) 0 4 rfl rfl rfl ⟨Nat.le_of_ble_eq_true rfl, Nat.le_of_ble_eq_true rfl⟩ rfl hl.1 (As := [.int (zi ((xs (6 * u + 1)).toInt)), .int (zi ((xs (6 * u + 2)).toInt)), .int (zi ((xs (6 * u + 3)).toInt)), .int (zi ((xs (6 * u + 4)).toInt)), .int (zi ((xs (6 * u + 5)).toInt))]) (rest := [.long (zj ((restV n st hr ca ((xs (6 * u + 1)).toInt) ((xs (6 * u + 2)).toInt) ((xs (6 * u + 3)).toInt) ((xs (6 * u + 4)).toInt) ((xs (6 * u + 5)).toInt))))]) rfl (Nat.le_of_ble_eq_true rfl) ⟨Nat.le_of_ble_eq_true rfl, Nat.le_of_ble_eq_true rfl⟩ dL_law_560 (fun v_ ws_ H locs hΦ hPn hz_ hk_ hS => ?_)
      replace hPX := fr_l hD hPX hk_
      obtain ⟨rfl, lu_, ll_, up_, lo_, mf_, rr_, rfl⟩ := hΦ
      replace hPM : va_P D vwCl (wM am cI n st hr ca sp k ts th pr hc lu_ ll_ up_ lo_ mf_ rr_ mh) H := hPn
      replace hD : va_D (fun q : Nat => s.heap.size ≤ q) ((wX ax cI cJ n st hr ca pcs_ fr_ lv_ k ts th sp hv pr hc) ++ (wM am cI n st hr ca sp k ts th pr hc lu_ ll_ up_ lo_ mf_ rr_ mh)) := hD.same rfl
      refine z_sameJ (tgt := 995) (pc := 563) hx hb dL_law_563 dL_law_564 (by decide) ?_
      refine lv_iinc (v := zi (z3 + 6)) (lv' := [(3, .int (zi ((z3 + 6)))), (0, .ref b), (1, .ref (ax 0)), (2, .ref (am 0))]) (pc := 995) hx hb dL_law_995 hl (k := 3) rfl (zi_add _ _) (by decide) rfl (fun ls hl => ?_)
      refine lv_goto (tgt := 18) (pc := 998) hx hb dL_law_998 (by decide) ?_
      exact ih (z3 + 6) (by omega) _ _ _ _ _ _ _ _ _ _ _ _ _ _ _ _ _ _ _ _ _ _ _ hU hV hPX hPM hD hS ls (lv_sub hl [1, 2, 3, 0] rfl)
    · refine z_tabIn (tgt := 569) (pc := 33) hx hb (10) dL_law_33 qv (by decide) (by decide) (by decide) rfl (by decide) ?_
      refine lv_aload_n (pc := 569) hx hb dL_law_569 rfl (lv_at hl 1 rfl) ?_
      refine lv_aload_n (pc := 570) hx hb dL_law_570 rfl (lv_at hl 0 rfl) ?_
      refine lv_iload_n (pc := 571) hx hb dL_law_571 rfl (lv_at hl 3 rfl) ?_
      refine z_iconst (pc := 572) hx hb dL_law_572 ?_
      refine z_iadd (pc := 573) hx hb dL_law_573 ?_
      refine z_sld (pc := 574) hx hb hX hbl hbA hS (6 * u + 1) (by omega) (by omega) (by omega) dL_law_574 ?_
      refine lv_aload_n (pc := 575) hx hb dL_law_575 rfl (lv_at hl 0 rfl) ?_
      refine lv_iload_n (pc := 576) hx hb dL_law_576 rfl (lv_at hl 3 rfl) ?_
      refine z_iconst (pc := 577) hx hb dL_law_577 ?_
      refine z_iadd (pc := 578) hx hb dL_law_578 ?_
      refine z_sld (pc := 579) hx hb hX hbl hbA hS (6 * u + 2) (by omega) (by omega) (by omega) dL_law_579 ?_
      refine lv_aload_n (pc := 580) hx hb dL_law_580 rfl (lv_at hl 0 rfl) ?_
      refine lv_iload_n (pc := 581) hx hb dL_law_581 rfl (lv_at hl 3 rfl) ?_
      refine z_iconst (pc := 582) hx hb dL_law_582 ?_
      refine z_iadd (pc := 583) hx hb dL_law_583 ?_
      refine z_sld (pc := 584) hx hb hX hbl hbA hS (6 * u + 3) (by omega) (by omega) (by omega) dL_law_584 ?_
      refine lv_aload_n (pc := 585) hx hb dL_law_585 rfl (lv_at hl 0 rfl) ?_
      refine lv_iload_n (pc := 586) hx hb dL_law_586 rfl (lv_at hl 3 rfl) ?_
      refine z_iconst (pc := 587) hx hb dL_law_587 ?_
      refine z_iadd (pc := 588) hx hb dL_law_588 ?_
      refine z_sld (pc := 589) hx hb hX hbl hbA hS (6 * u + 4) (by omega) (by omega) (by omega) dL_law_589 ?_
      refine wr_V (pc := 590) hx hb hml hown hT hK (c_X3_runIn D cI cJ l ax n st hr ca pcs fr lv k ts th sp hv pr hc hU ((xs (6 * u + 1)).toInt) (zi_rng _) ((xs (6 * u + 2)).toInt) (zi_rng _) ((xs (6 * u + 3)).toInt) (zi_rng _) ((xs (6 * u + 4)).toInt) (zi_rng _)) ca_X3_runIn tw_231 hPX hD.left hS (fun q h => inW_l hD h) 0 3 rfl rfl rfl ⟨Nat.le_of_ble_eq_true rfl, Nat.le_of_ble_eq_true rfl⟩ rfl hl.1 (As := [.int (zi ((xs (6 * u + 1)).toInt)), .int (zi ((xs (6 * u + 2)).toInt)), .int (zi ((xs (6 * u + 3)).toInt)), .int (zi ((xs (6 * u + 4)).toInt))]) (rest := []) rfl (Nat.le_of_ble_eq_true rfl) ⟨Nat.le_of_ble_eq_true rfl, Nat.le_of_ble_eq_true rfl⟩ dL_law_590 (fun v_ ws_ H locs hΦ hPn hz_ hk_ hS => ?_)
      replace hPM := fr_r hD hPM hk_
      obtain ⟨rfl, pcs_, fr_, lv_, rfl⟩ := hΦ
      replace hPX : va_P D vwCl (wX ax cI cJ n st hr ca pcs_ fr_ lv_ k ts th sp hv pr hc) H := hPn
      replace hD : va_D (fun q : Nat => s.heap.size ≤ q) ((wX ax cI cJ n st hr ca pcs_ fr_ lv_ k ts th sp hv pr hc) ++ (wM am cI n st hr ca sp k ts th pr hc lu ll up lo mf rr mh)) := hD.same rfl
      refine lv_aload_n (pc := 593) hx hb dL_law_593 rfl (lv_at hl 2 rfl) ?_
      refine lv_aload_n (pc := 594) hx hb dL_law_594 rfl (lv_at hl 0 rfl) ?_
      refine lv_iload_n (pc := 595) hx hb dL_law_595 rfl (lv_at hl 3 rfl) ?_
      refine z_iconst (pc := 596) hx hb dL_law_596 ?_
      refine z_iadd (pc := 597) hx hb dL_law_597 ?_
      refine z_sld (pc := 598) hx hb hX hbl hbA hS (6 * u + 1) (by omega) (by omega) (by omega) dL_law_598 ?_
      refine lv_aload_n (pc := 599) hx hb dL_law_599 rfl (lv_at hl 0 rfl) ?_
      refine lv_iload_n (pc := 600) hx hb dL_law_600 rfl (lv_at hl 3 rfl) ?_
      refine z_iconst (pc := 601) hx hb dL_law_601 ?_
      refine z_iadd (pc := 602) hx hb dL_law_602 ?_
      refine z_sld (pc := 603) hx hb hX hbl hbA hS (6 * u + 2) (by omega) (by omega) (by omega) dL_law_603 ?_
      refine lv_aload_n (pc := 604) hx hb dL_law_604 rfl (lv_at hl 0 rfl) ?_
      refine lv_iload_n (pc := 605) hx hb dL_law_605 rfl (lv_at hl 3 rfl) ?_
      refine z_iconst (pc := 606) hx hb dL_law_606 ?_
      refine z_iadd (pc := 607) hx hb dL_law_607 ?_
      refine z_sld (pc := 608) hx hb hX hbl hbA hS (6 * u + 3) (by omega) (by omega) (by omega) dL_law_608 ?_
      refine lv_aload_n (pc := 609) hx hb dL_law_609 rfl (lv_at hl 0 rfl) ?_
      refine lv_iload_n (pc := 610) hx hb dL_law_610 rfl (lv_at hl 3 rfl) ?_
      refine z_iconst (pc := 611) hx hb dL_law_611 ?_
      refine z_iadd (pc := 612) hx hb dL_law_612 ?_
      refine z_sld (pc := 613) hx hb hX hbl hbA hS (6 * u + 4) (by omega) (by omega) (by omega) dL_law_613 ?_
      refine wr_V (pc := 614) hx hb hml hown hT hK (c_X4_runIn D cI cJ l am n st hr ca sp k ts th pr hc lu ll up lo mf rr mh hU ((xs (6 * u + 1)).toInt) (zi_rng _) ((xs (6 * u + 2)).toInt) (zi_rng _) ((xs (6 * u + 3)).toInt) (zi_rng _) ((xs (6 * u + 4)).toInt) (zi_rng _)) ca_X4_runIn tw_504 hPM hD.right hS (fun q h => inW_r hD h) 0 4 rfl rfl rfl ⟨Nat.le_of_ble_eq_true rfl, Nat.le_of_ble_eq_true rfl⟩ rfl hl.1 (As := [.int (zi ((xs (6 * u + 1)).toInt)), .int (zi ((xs (6 * u + 2)).toInt)), .int (zi ((xs (6 * u + 3)).toInt)), .int (zi ((xs (6 * u + 4)).toInt))]) (rest := [.int (zi ((runInV n st hr ca ((xs (6 * u + 1)).toInt) ((xs (6 * u + 2)).toInt) ((xs (6 * u + 3)).toInt) ((xs (6 * u + 4)).toInt))))]) rfl (Nat.le_of_ble_eq_true rfl) ⟨Nat.le_of_ble_eq_true rfl, Nat.le_of_ble_eq_true rfl⟩ dL_law_614 (fun v_ ws_ H locs hΦ hPn hz_ hk_ hS => ?_)
      replace hPX := fr_l hD hPX hk_
      obtain ⟨rfl, lu_, ll_, up_, lo_, mf_, rr_, rfl⟩ := hΦ
      replace hPM : va_P D vwCl (wM am cI n st hr ca sp k ts th pr hc lu_ ll_ up_ lo_ mf_ rr_ mh) H := hPn
      replace hD : va_D (fun q : Nat => s.heap.size ≤ q) ((wX ax cI cJ n st hr ca pcs_ fr_ lv_ k ts th sp hv pr hc) ++ (wM am cI n st hr ca sp k ts th pr hc lu_ ll_ up_ lo_ mf_ rr_ mh)) := hD.same rfl
      refine z_sameI (tgt := 995) (pc := 617) hx hb dL_law_617 (by decide) ?_
      refine lv_iinc (v := zi (z3 + 6)) (lv' := [(3, .int (zi ((z3 + 6)))), (0, .ref b), (1, .ref (ax 0)), (2, .ref (am 0))]) (pc := 995) hx hb dL_law_995 hl (k := 3) rfl (zi_add _ _) (by decide) rfl (fun ls hl => ?_)
      refine lv_goto (tgt := 18) (pc := 998) hx hb dL_law_998 (by decide) ?_
      exact ih (z3 + 6) (by omega) _ _ _ _ _ _ _ _ _ _ _ _ _ _ _ _ _ _ _ _ _ _ _ hU hV hPX hPM hD hS ls (lv_sub hl [1, 2, 3, 0] rfl)
    · refine z_tabIn (tgt := 622) (pc := 33) hx hb (11) dL_law_33 qv (by decide) (by decide) (by decide) rfl (by decide) ?_
      refine lv_aload_n (pc := 622) hx hb dL_law_622 rfl (lv_at hl 1 rfl) ?_
      refine lv_aload_n (pc := 623) hx hb dL_law_623 rfl (lv_at hl 0 rfl) ?_
      refine lv_iload_n (pc := 624) hx hb dL_law_624 rfl (lv_at hl 3 rfl) ?_
      refine z_iconst (pc := 625) hx hb dL_law_625 ?_
      refine z_iadd (pc := 626) hx hb dL_law_626 ?_
      refine z_sld (pc := 627) hx hb hX hbl hbA hS (6 * u + 1) (by omega) (by omega) (by omega) dL_law_627 ?_
      refine lv_aload_n (pc := 628) hx hb dL_law_628 rfl (lv_at hl 0 rfl) ?_
      refine lv_iload_n (pc := 629) hx hb dL_law_629 rfl (lv_at hl 3 rfl) ?_
      refine z_iconst (pc := 630) hx hb dL_law_630 ?_
      refine z_iadd (pc := 631) hx hb dL_law_631 ?_
      refine z_sld (pc := 632) hx hb hX hbl hbA hS (6 * u + 2) (by omega) (by omega) (by omega) dL_law_632 ?_
      refine wr_V (pc := 633) hx hb hml hown hT hK (c_X3_speed D cI cJ l ax n st hr ca pcs fr lv k ts th sp hv pr hc  ((xs (6 * u + 1)).toInt) (zi_rng _) ((xs (6 * u + 2)).toInt) (zi_rng _)) ca_X3_speed tw_242 hPX hD.left hS (fun q h => inW_l hD h) 0 3 rfl rfl rfl ⟨Nat.le_of_ble_eq_true rfl, Nat.le_of_ble_eq_true rfl⟩ rfl hl.1 (As := [.int (zi ((xs (6 * u + 1)).toInt)), .int (zi ((xs (6 * u + 2)).toInt))]) (rest := []) rfl (Nat.le_of_ble_eq_true rfl) ⟨Nat.le_of_ble_eq_true rfl, Nat.le_of_ble_eq_true rfl⟩ dL_law_633 (fun v_ ws_ H locs hΦ hPn hz_ hk_ hS => ?_)
      replace hPM := fr_r hD hPM hk_
      obtain ⟨x_X3, hx_X3, rfl, rfl⟩ := hΦ
      subst hx_X3
      replace hPX : va_P D vwCl (wX ax cI cJ n st hr ca pcs fr lv k ts th ((speedS sp ((xs (6 * u + 1)).toInt) ((xs (6 * u + 2)).toInt)).2) hv pr hc) H := hPn
      replace hD : va_D (fun q : Nat => s.heap.size ≤ q) ((wX ax cI cJ n st hr ca pcs fr lv k ts th ((speedS sp ((xs (6 * u + 1)).toInt) ((xs (6 * u + 2)).toInt)).2) hv pr hc) ++ (wM am cI n st hr ca sp k ts th pr hc lu ll up lo mf rr mh)) := hD.same rfl
      refine lv_aload_n (pc := 636) hx hb dL_law_636 rfl (lv_at hl 2 rfl) ?_
      refine lv_aload_n (pc := 637) hx hb dL_law_637 rfl (lv_at hl 0 rfl) ?_
      refine lv_iload_n (pc := 638) hx hb dL_law_638 rfl (lv_at hl 3 rfl) ?_
      refine z_iconst (pc := 639) hx hb dL_law_639 ?_
      refine z_iadd (pc := 640) hx hb dL_law_640 ?_
      refine z_sld (pc := 641) hx hb hX hbl hbA hS (6 * u + 1) (by omega) (by omega) (by omega) dL_law_641 ?_
      refine lv_aload_n (pc := 642) hx hb dL_law_642 rfl (lv_at hl 0 rfl) ?_
      refine lv_iload_n (pc := 643) hx hb dL_law_643 rfl (lv_at hl 3 rfl) ?_
      refine z_iconst (pc := 644) hx hb dL_law_644 ?_
      refine z_iadd (pc := 645) hx hb dL_law_645 ?_
      refine z_sld (pc := 646) hx hb hX hbl hbA hS (6 * u + 2) (by omega) (by omega) (by omega) dL_law_646 ?_
      refine wr_V (pc := 647) hx hb hml hown hT hK (c_X4_speed D cI cJ l am n st hr ca sp k ts th pr hc lu ll up lo mf rr mh  ((xs (6 * u + 1)).toInt) (zi_rng _) ((xs (6 * u + 2)).toInt) (zi_rng _)) ca_X4_speed tw_512 hPM hD.right hS (fun q h => inW_r hD h) 0 4 rfl rfl rfl ⟨Nat.le_of_ble_eq_true rfl, Nat.le_of_ble_eq_true rfl⟩ rfl hl.1 (As := [.int (zi ((xs (6 * u + 1)).toInt)), .int (zi ((xs (6 * u + 2)).toInt))]) (rest := [.int (zi ((speedS sp ((xs (6 * u + 1)).toInt) ((xs (6 * u + 2)).toInt)).1))]) rfl (Nat.le_of_ble_eq_true rfl) ⟨Nat.le_of_ble_eq_true rfl, Nat.le_of_ble_eq_true rfl⟩ dL_law_647 (fun v_ ws_ H locs hΦ hPn hz_ hk_ hS => ?_)
      replace hPX := fr_l hD hPX hk_
      obtain ⟨x_X4, hx_X4, rfl, rfl⟩ := hΦ
      subst hx_X4
      replace hPM : va_P D vwCl (wM am cI n st hr ca ((speedS sp ((xs (6 * u + 1)).toInt) ((xs (6 * u + 2)).toInt)).2) k ts th pr hc lu ll up lo mf rr mh) H := hPn
      replace hD : va_D (fun q : Nat => s.heap.size ≤ q) ((wX ax cI cJ n st hr ca pcs fr lv k ts th ((speedS sp ((xs (6 * u + 1)).toInt) ((xs (6 * u + 2)).toInt)).2) hv pr hc) ++ (wM am cI n st hr ca ((speedS sp ((xs (6 * u + 1)).toInt) ((xs (6 * u + 2)).toInt)).2) k ts th pr hc lu ll up lo mf rr mh)) := hD.same rfl
      refine z_sameI (tgt := 995) (pc := 650) hx hb dL_law_650 (by decide) ?_
      refine lv_iinc (v := zi (z3 + 6)) (lv' := [(3, .int (zi ((z3 + 6)))), (0, .ref b), (1, .ref (ax 0)), (2, .ref (am 0))]) (pc := 995) hx hb dL_law_995 hl (k := 3) rfl (zi_add _ _) (by decide) rfl (fun ls hl => ?_)
      refine lv_goto (tgt := 18) (pc := 998) hx hb dL_law_998 (by decide) ?_
      exact ih (z3 + 6) (by omega) _ _ _ _ _ _ _ _ _ _ _ _ _ _ _ _ _ _ _ _ _ _ _ hU (VT_speed hV _ _) hPX hPM hD hS ls (lv_sub hl [1, 2, 3, 0] rfl)
    · refine z_tabIn (tgt := 655) (pc := 33) hx hb (12) dL_law_33 qv (by decide) (by decide) (by decide) rfl (by decide) ?_
      refine lv_aload_n (pc := 655) hx hb dL_law_655 rfl (lv_at hl 1 rfl) ?_
      refine lv_aload_n (pc := 656) hx hb dL_law_656 rfl (lv_at hl 0 rfl) ?_
      refine lv_iload_n (pc := 657) hx hb dL_law_657 rfl (lv_at hl 3 rfl) ?_
      refine z_iconst (pc := 658) hx hb dL_law_658 ?_
      refine z_iadd (pc := 659) hx hb dL_law_659 ?_
      refine z_sld (pc := 660) hx hb hX hbl hbA hS (6 * u + 1) (by omega) (by omega) (by omega) dL_law_660 ?_
      refine lv_aload_n (pc := 661) hx hb dL_law_661 rfl (lv_at hl 0 rfl) ?_
      refine lv_iload_n (pc := 662) hx hb dL_law_662 rfl (lv_at hl 3 rfl) ?_
      refine z_iconst (pc := 663) hx hb dL_law_663 ?_
      refine z_iadd (pc := 664) hx hb dL_law_664 ?_
      refine z_sld (pc := 665) hx hb hX hbl hbA hS (6 * u + 2) (by omega) (by omega) (by omega) dL_law_665 ?_
      refine lv_aload_n (pc := 666) hx hb dL_law_666 rfl (lv_at hl 0 rfl) ?_
      refine lv_iload_n (pc := 667) hx hb dL_law_667 rfl (lv_at hl 3 rfl) ?_
      refine z_iconst (pc := 668) hx hb dL_law_668 ?_
      refine z_iadd (pc := 669) hx hb dL_law_669 ?_
      refine z_sld (pc := 670) hx hb hX hbl hbA hS (6 * u + 3) (by omega) (by omega) (by omega) dL_law_670 ?_
      refine rd_V (pc := 671) hx hb hml hown hT hK (c_X3_says D cI cJ l ax n st hr ca pcs fr lv k ts th sp hv pr hc  ((xs (6 * u + 1)).toInt) (zi_rng _) ((xs (6 * u + 2)).toInt) (zi_rng _) ((xs (6 * u + 3)).toInt) (zi_rng _)) ca_X3_says tw_246 hPX 0 3 rfl rfl rfl ⟨Nat.le_of_ble_eq_true rfl, Nat.le_of_ble_eq_true rfl⟩ rfl hl.1 (As := [.int (zi ((xs (6 * u + 1)).toInt)), .int (zi ((xs (6 * u + 2)).toInt)), .int (zi ((xs (6 * u + 3)).toInt))]) (rest := []) rfl (Nat.le_of_ble_eq_true rfl) ⟨Nat.le_of_ble_eq_true rfl, Nat.le_of_ble_eq_true rfl⟩ dL_law_671 ?_
      refine lv_aload_n (pc := 674) hx hb dL_law_674 rfl (lv_at hl 2 rfl) ?_
      refine lv_aload_n (pc := 675) hx hb dL_law_675 rfl (lv_at hl 0 rfl) ?_
      refine lv_iload_n (pc := 676) hx hb dL_law_676 rfl (lv_at hl 3 rfl) ?_
      refine z_iconst (pc := 677) hx hb dL_law_677 ?_
      refine z_iadd (pc := 678) hx hb dL_law_678 ?_
      refine z_sld (pc := 679) hx hb hX hbl hbA hS (6 * u + 1) (by omega) (by omega) (by omega) dL_law_679 ?_
      refine lv_aload_n (pc := 680) hx hb dL_law_680 rfl (lv_at hl 0 rfl) ?_
      refine lv_iload_n (pc := 681) hx hb dL_law_681 rfl (lv_at hl 3 rfl) ?_
      refine z_iconst (pc := 682) hx hb dL_law_682 ?_
      refine z_iadd (pc := 683) hx hb dL_law_683 ?_
      refine z_sld (pc := 684) hx hb hX hbl hbA hS (6 * u + 2) (by omega) (by omega) (by omega) dL_law_684 ?_
      refine lv_aload_n (pc := 685) hx hb dL_law_685 rfl (lv_at hl 0 rfl) ?_
      refine lv_iload_n (pc := 686) hx hb dL_law_686 rfl (lv_at hl 3 rfl) ?_
      refine z_iconst (pc := 687) hx hb dL_law_687 ?_
      refine z_iadd (pc := 688) hx hb dL_law_688 ?_
      refine z_sld (pc := 689) hx hb hX hbl hbA hS (6 * u + 3) (by omega) (by omega) (by omega) dL_law_689 ?_
      refine rd_V (pc := 690) hx hb hml hown hT hK (c_X4_says D cI cJ l am n st hr ca sp k ts th pr hc lu ll up lo mf rr mh  ((xs (6 * u + 1)).toInt) (zi_rng _) ((xs (6 * u + 2)).toInt) (zi_rng _) ((xs (6 * u + 3)).toInt) (zi_rng _)) ca_X4_says tw_516 hPM 0 4 rfl rfl rfl ⟨Nat.le_of_ble_eq_true rfl, Nat.le_of_ble_eq_true rfl⟩ rfl hl.1 (As := [.int (zi ((xs (6 * u + 1)).toInt)), .int (zi ((xs (6 * u + 2)).toInt)), .int (zi ((xs (6 * u + 3)).toInt))]) (rest := [.int (zi ((saysV ((xs (6 * u + 1)).toInt) ((xs (6 * u + 2)).toInt) ((xs (6 * u + 3)).toInt))))]) rfl (Nat.le_of_ble_eq_true rfl) ⟨Nat.le_of_ble_eq_true rfl, Nat.le_of_ble_eq_true rfl⟩ dL_law_690 ?_
      refine z_sameI (tgt := 995) (pc := 693) hx hb dL_law_693 (by decide) ?_
      refine lv_iinc (v := zi (z3 + 6)) (lv' := [(3, .int (zi ((z3 + 6)))), (0, .ref b), (1, .ref (ax 0)), (2, .ref (am 0))]) (pc := 995) hx hb dL_law_995 hl (k := 3) rfl (zi_add _ _) (by decide) rfl (fun ls hl => ?_)
      refine lv_goto (tgt := 18) (pc := 998) hx hb dL_law_998 (by decide) ?_
      exact ih (z3 + 6) (by omega) _ _ _ _ _ _ _ _ _ _ _ _ _ _ _ _ _ _ _ _ _ _ _ hU hV hPX hPM hD hS ls (lv_sub hl [1, 2, 3, 0] rfl)
    · refine z_tabIn (tgt := 698) (pc := 33) hx hb (13) dL_law_33 qv (by decide) (by decide) (by decide) rfl (by decide) ?_
      refine lv_aload_n (pc := 698) hx hb dL_law_698 rfl (lv_at hl 1 rfl) ?_
      refine lv_aload_n (pc := 699) hx hb dL_law_699 rfl (lv_at hl 0 rfl) ?_
      refine lv_iload_n (pc := 700) hx hb dL_law_700 rfl (lv_at hl 3 rfl) ?_
      refine z_iconst (pc := 701) hx hb dL_law_701 ?_
      refine z_iadd (pc := 702) hx hb dL_law_702 ?_
      refine z_sld (pc := 703) hx hb hX hbl hbA hS (6 * u + 1) (by omega) (by omega) (by omega) dL_law_703 ?_
      refine lv_aload_n (pc := 704) hx hb dL_law_704 rfl (lv_at hl 0 rfl) ?_
      refine lv_iload_n (pc := 705) hx hb dL_law_705 rfl (lv_at hl 3 rfl) ?_
      refine z_iconst (pc := 706) hx hb dL_law_706 ?_
      refine z_iadd (pc := 707) hx hb dL_law_707 ?_
      refine z_sld (pc := 708) hx hb hX hbl hbA hS (6 * u + 2) (by omega) (by omega) (by omega) dL_law_708 ?_
      refine wr_V (pc := 709) hx hb hml hown hT hK (c_X3_miss D cI cJ l ax n st hr ca pcs fr lv k ts th sp hv pr hc hU ((xs (6 * u + 1)).toInt) (zi_rng _) ((xs (6 * u + 2)).toInt) (zi_rng _)) ca_X3_miss tw_260 hPX hD.left hS (fun q h => inW_l hD h) 0 3 rfl rfl rfl ⟨Nat.le_of_ble_eq_true rfl, Nat.le_of_ble_eq_true rfl⟩ rfl hl.1 (As := [.int (zi ((xs (6 * u + 1)).toInt)), .int (zi ((xs (6 * u + 2)).toInt))]) (rest := []) rfl (Nat.le_of_ble_eq_true rfl) ⟨Nat.le_of_ble_eq_true rfl, Nat.le_of_ble_eq_true rfl⟩ dL_law_709 (fun v_ ws_ H locs hΦ hPn hz_ hk_ hS => ?_)
      replace hPM := fr_r hD hPM hk_
      obtain ⟨rfl, pcs_, fr_, lv_, hv_, rfl⟩ := hΦ
      replace hPX : va_P D vwCl (wX ax cI cJ n st hr ca pcs_ fr_ lv_ k ts th sp hv_ pr hc) H := hPn
      replace hD : va_D (fun q : Nat => s.heap.size ≤ q) ((wX ax cI cJ n st hr ca pcs_ fr_ lv_ k ts th sp hv_ pr hc) ++ (wM am cI n st hr ca sp k ts th pr hc lu ll up lo mf rr mh)) := hD.same rfl
      refine lv_aload_n (pc := 712) hx hb dL_law_712 rfl (lv_at hl 2 rfl) ?_
      refine lv_aload_n (pc := 713) hx hb dL_law_713 rfl (lv_at hl 0 rfl) ?_
      refine lv_iload_n (pc := 714) hx hb dL_law_714 rfl (lv_at hl 3 rfl) ?_
      refine z_iconst (pc := 715) hx hb dL_law_715 ?_
      refine z_iadd (pc := 716) hx hb dL_law_716 ?_
      refine z_sld (pc := 717) hx hb hX hbl hbA hS (6 * u + 1) (by omega) (by omega) (by omega) dL_law_717 ?_
      refine lv_aload_n (pc := 718) hx hb dL_law_718 rfl (lv_at hl 0 rfl) ?_
      refine lv_iload_n (pc := 719) hx hb dL_law_719 rfl (lv_at hl 3 rfl) ?_
      refine z_iconst (pc := 720) hx hb dL_law_720 ?_
      refine z_iadd (pc := 721) hx hb dL_law_721 ?_
      refine z_sld (pc := 722) hx hb hX hbl hbA hS (6 * u + 2) (by omega) (by omega) (by omega) dL_law_722 ?_
      refine wr_V (pc := 723) hx hb hml hown hT hK (c_X4_miss D cI cJ l am n st hr ca sp k ts th pr hc lu ll up lo mf rr mh hU ((xs (6 * u + 1)).toInt) (zi_rng _) ((xs (6 * u + 2)).toInt) (zi_rng _)) ca_X4_miss tw_528 hPM hD.right hS (fun q h => inW_r hD h) 0 4 rfl rfl rfl ⟨Nat.le_of_ble_eq_true rfl, Nat.le_of_ble_eq_true rfl⟩ rfl hl.1 (As := [.int (zi ((xs (6 * u + 1)).toInt)), .int (zi ((xs (6 * u + 2)).toInt))]) (rest := [.int (zi ((missV n st hr ca ((xs (6 * u + 1)).toInt) ((xs (6 * u + 2)).toInt))))]) rfl (Nat.le_of_ble_eq_true rfl) ⟨Nat.le_of_ble_eq_true rfl, Nat.le_of_ble_eq_true rfl⟩ dL_law_723 (fun v_ ws_ H locs hΦ hPn hz_ hk_ hS => ?_)
      replace hPX := fr_l hD hPX hk_
      obtain ⟨rfl, lu_, ll_, up_, lo_, mf_, rr_, mh_, rfl⟩ := hΦ
      replace hPM : va_P D vwCl (wM am cI n st hr ca sp k ts th pr hc lu_ ll_ up_ lo_ mf_ rr_ mh_) H := hPn
      replace hD : va_D (fun q : Nat => s.heap.size ≤ q) ((wX ax cI cJ n st hr ca pcs_ fr_ lv_ k ts th sp hv_ pr hc) ++ (wM am cI n st hr ca sp k ts th pr hc lu_ ll_ up_ lo_ mf_ rr_ mh_)) := hD.same rfl
      refine z_sameI (tgt := 995) (pc := 726) hx hb dL_law_726 (by decide) ?_
      refine lv_iinc (v := zi (z3 + 6)) (lv' := [(3, .int (zi ((z3 + 6)))), (0, .ref b), (1, .ref (ax 0)), (2, .ref (am 0))]) (pc := 995) hx hb dL_law_995 hl (k := 3) rfl (zi_add _ _) (by decide) rfl (fun ls hl => ?_)
      refine lv_goto (tgt := 18) (pc := 998) hx hb dL_law_998 (by decide) ?_
      exact ih (z3 + 6) (by omega) _ _ _ _ _ _ _ _ _ _ _ _ _ _ _ _ _ _ _ _ _ _ _ hU hV hPX hPM hD hS ls (lv_sub hl [1, 2, 3, 0] rfl)
    · refine z_tabIn (tgt := 731) (pc := 33) hx hb (14) dL_law_33 qv (by decide) (by decide) (by decide) rfl (by decide) ?_
      refine lv_aload_n (pc := 731) hx hb dL_law_731 rfl (lv_at hl 1 rfl) ?_
      refine lv_aload_n (pc := 732) hx hb dL_law_732 rfl (lv_at hl 0 rfl) ?_
      refine lv_iload_n (pc := 733) hx hb dL_law_733 rfl (lv_at hl 3 rfl) ?_
      refine z_iconst (pc := 734) hx hb dL_law_734 ?_
      refine z_iadd (pc := 735) hx hb dL_law_735 ?_
      refine z_sld (pc := 736) hx hb hX hbl hbA hS (6 * u + 1) (by omega) (by omega) (by omega) dL_law_736 ?_
      refine lv_aload_n (pc := 737) hx hb dL_law_737 rfl (lv_at hl 0 rfl) ?_
      refine lv_iload_n (pc := 738) hx hb dL_law_738 rfl (lv_at hl 3 rfl) ?_
      refine z_iconst (pc := 739) hx hb dL_law_739 ?_
      refine z_iadd (pc := 740) hx hb dL_law_740 ?_
      refine z_sld (pc := 741) hx hb hX hbl hbA hS (6 * u + 2) (by omega) (by omega) (by omega) dL_law_741 ?_
      refine lv_aload_n (pc := 742) hx hb dL_law_742 rfl (lv_at hl 0 rfl) ?_
      refine lv_iload_n (pc := 743) hx hb dL_law_743 rfl (lv_at hl 3 rfl) ?_
      refine z_iconst (pc := 744) hx hb dL_law_744 ?_
      refine z_iadd (pc := 745) hx hb dL_law_745 ?_
      refine z_sld (pc := 746) hx hb hX hbl hbA hS (6 * u + 3) (by omega) (by omega) (by omega) dL_law_746 ?_
      refine wr_V (pc := 747) hx hb hml hown hT hK (c_X3_law D cI cJ l ax n st hr ca pcs fr lv k ts th sp hv pr hc hU ((xs (6 * u + 1)).toInt) (zi_rng _) ((xs (6 * u + 2)).toInt) (zi_rng _) ((xs (6 * u + 3)).toInt) (zi_rng _)) ca_X3_law tw_275 hPX hD.left hS (fun q h => inW_l hD h) 0 3 rfl rfl rfl ⟨Nat.le_of_ble_eq_true rfl, Nat.le_of_ble_eq_true rfl⟩ rfl hl.1 (As := [.int (zi ((xs (6 * u + 1)).toInt)), .int (zi ((xs (6 * u + 2)).toInt)), .int (zi ((xs (6 * u + 3)).toInt))]) (rest := []) rfl (Nat.le_of_ble_eq_true rfl) ⟨Nat.le_of_ble_eq_true rfl, Nat.le_of_ble_eq_true rfl⟩ dL_law_747 (fun v_ ws_ H locs hΦ hPn hz_ hk_ hS => ?_)
      replace hPM := fr_r hD hPM hk_
      obtain ⟨rfl, pcs_, fr_, lv_, hv_, rfl⟩ := hΦ
      replace hPX : va_P D vwCl (wX ax cI cJ n st hr ca pcs_ fr_ lv_ k ts th sp hv_ pr hc) H := hPn
      replace hD : va_D (fun q : Nat => s.heap.size ≤ q) ((wX ax cI cJ n st hr ca pcs_ fr_ lv_ k ts th sp hv_ pr hc) ++ (wM am cI n st hr ca sp k ts th pr hc lu ll up lo mf rr mh)) := hD.same rfl
      refine lv_aload_n (pc := 750) hx hb dL_law_750 rfl (lv_at hl 2 rfl) ?_
      refine lv_aload_n (pc := 751) hx hb dL_law_751 rfl (lv_at hl 0 rfl) ?_
      refine lv_iload_n (pc := 752) hx hb dL_law_752 rfl (lv_at hl 3 rfl) ?_
      refine z_iconst (pc := 753) hx hb dL_law_753 ?_
      refine z_iadd (pc := 754) hx hb dL_law_754 ?_
      refine z_sld (pc := 755) hx hb hX hbl hbA hS (6 * u + 1) (by omega) (by omega) (by omega) dL_law_755 ?_
      refine lv_aload_n (pc := 756) hx hb dL_law_756 rfl (lv_at hl 0 rfl) ?_
      refine lv_iload_n (pc := 757) hx hb dL_law_757 rfl (lv_at hl 3 rfl) ?_
      refine z_iconst (pc := 758) hx hb dL_law_758 ?_
      refine z_iadd (pc := 759) hx hb dL_law_759 ?_
      refine z_sld (pc := 760) hx hb hX hbl hbA hS (6 * u + 2) (by omega) (by omega) (by omega) dL_law_760 ?_
      refine lv_aload_n (pc := 761) hx hb dL_law_761 rfl (lv_at hl 0 rfl) ?_
      refine lv_iload_n (pc := 762) hx hb dL_law_762 rfl (lv_at hl 3 rfl) ?_
      refine z_iconst (pc := 763) hx hb dL_law_763 ?_
      refine z_iadd (pc := 764) hx hb dL_law_764 ?_
      refine z_sld (pc := 765) hx hb hX hbl hbA hS (6 * u + 3) (by omega) (by omega) (by omega) dL_law_765 ?_
      refine wr_V (pc := 766) hx hb hml hown hT hK (c_X4_law D cI cJ l am n st hr ca sp k ts th pr hc lu ll up lo mf rr mh hU ((xs (6 * u + 1)).toInt) (zi_rng _) ((xs (6 * u + 2)).toInt) (zi_rng _) ((xs (6 * u + 3)).toInt) (zi_rng _)) ca_X4_law tw_540 hPM hD.right hS (fun q h => inW_r hD h) 0 4 rfl rfl rfl ⟨Nat.le_of_ble_eq_true rfl, Nat.le_of_ble_eq_true rfl⟩ rfl hl.1 (As := [.int (zi ((xs (6 * u + 1)).toInt)), .int (zi ((xs (6 * u + 2)).toInt)), .int (zi ((xs (6 * u + 3)).toInt))]) (rest := [.int (zi ((lawV n st hr ca ((xs (6 * u + 1)).toInt) ((xs (6 * u + 2)).toInt) ((xs (6 * u + 3)).toInt))))]) rfl (Nat.le_of_ble_eq_true rfl) ⟨Nat.le_of_ble_eq_true rfl, Nat.le_of_ble_eq_true rfl⟩ dL_law_766 (fun v_ ws_ H locs hΦ hPn hz_ hk_ hS => ?_)
      replace hPX := fr_l hD hPX hk_
      obtain ⟨rfl, lu_, ll_, up_, lo_, mf_, rr_, mh_, rfl⟩ := hΦ
      replace hPM : va_P D vwCl (wM am cI n st hr ca sp k ts th pr hc lu_ ll_ up_ lo_ mf_ rr_ mh_) H := hPn
      replace hD : va_D (fun q : Nat => s.heap.size ≤ q) ((wX ax cI cJ n st hr ca pcs_ fr_ lv_ k ts th sp hv_ pr hc) ++ (wM am cI n st hr ca sp k ts th pr hc lu_ ll_ up_ lo_ mf_ rr_ mh_)) := hD.same rfl
      refine z_sameI (tgt := 995) (pc := 769) hx hb dL_law_769 (by decide) ?_
      refine lv_iinc (v := zi (z3 + 6)) (lv' := [(3, .int (zi ((z3 + 6)))), (0, .ref b), (1, .ref (ax 0)), (2, .ref (am 0))]) (pc := 995) hx hb dL_law_995 hl (k := 3) rfl (zi_add _ _) (by decide) rfl (fun ls hl => ?_)
      refine lv_goto (tgt := 18) (pc := 998) hx hb dL_law_998 (by decide) ?_
      exact ih (z3 + 6) (by omega) _ _ _ _ _ _ _ _ _ _ _ _ _ _ _ _ _ _ _ _ _ _ _ hU hV hPX hPM hD hS ls (lv_sub hl [1, 2, 3, 0] rfl)
    · refine z_tabIn (tgt := 774) (pc := 33) hx hb (15) dL_law_33 qv (by decide) (by decide) (by decide) rfl (by decide) ?_
      refine lv_aload_n (pc := 774) hx hb dL_law_774 rfl (lv_at hl 1 rfl) ?_
      refine lv_aload_n (pc := 775) hx hb dL_law_775 rfl (lv_at hl 0 rfl) ?_
      refine lv_iload_n (pc := 776) hx hb dL_law_776 rfl (lv_at hl 3 rfl) ?_
      refine z_iconst (pc := 777) hx hb dL_law_777 ?_
      refine z_iadd (pc := 778) hx hb dL_law_778 ?_
      refine z_sld (pc := 779) hx hb hX hbl hbA hS (6 * u + 1) (by omega) (by omega) (by omega) dL_law_779 ?_
      refine lv_aload_n (pc := 780) hx hb dL_law_780 rfl (lv_at hl 0 rfl) ?_
      refine lv_iload_n (pc := 781) hx hb dL_law_781 rfl (lv_at hl 3 rfl) ?_
      refine z_iconst (pc := 782) hx hb dL_law_782 ?_
      refine z_iadd (pc := 783) hx hb dL_law_783 ?_
      refine z_sld (pc := 784) hx hb hX hbl hbA hS (6 * u + 2) (by omega) (by omega) (by omega) dL_law_784 ?_
      refine wr_V (pc := 785) hx hb hml hown hT hK (c_X3_step D cI cJ l ax n st hr ca pcs fr lv k ts th sp hv pr hc hV ((xs (6 * u + 1)).toInt) (zi_rng _) ((xs (6 * u + 2)).toInt) (zi_rng _)) ca_X3_step tw_279 hPX hD.left hS (fun q h => inW_l hD h) 0 3 rfl rfl rfl ⟨Nat.le_of_ble_eq_true rfl, Nat.le_of_ble_eq_true rfl⟩ rfl hl.1 (As := [.int (zi ((xs (6 * u + 1)).toInt)), .int (zi ((xs (6 * u + 2)).toInt))]) (rest := []) rfl (Nat.le_of_ble_eq_true rfl) ⟨Nat.le_of_ble_eq_true rfl, Nat.le_of_ble_eq_true rfl⟩ dL_law_785 (fun v_ ws_ H locs hΦ hPn hz_ hk_ hS => ?_)
      replace hPM := fr_r hD hPM hk_
      obtain ⟨x_X3, hx_X3, rfl, rfl⟩ := hΦ
      subst hx_X3
      replace hPX : va_P D vwCl (wX ax cI cJ n st hr ca pcs fr lv ((stepS k ts th ((xs (6 * u + 1)).toInt) ((xs (6 * u + 2)).toInt)).2.1) ((stepS k ts th ((xs (6 * u + 1)).toInt) ((xs (6 * u + 2)).toInt)).2.2.1) ((stepS k ts th ((xs (6 * u + 1)).toInt) ((xs (6 * u + 2)).toInt)).2.2.2) sp hv pr hc) H := hPn
      replace hD : va_D (fun q : Nat => s.heap.size ≤ q) ((wX ax cI cJ n st hr ca pcs fr lv ((stepS k ts th ((xs (6 * u + 1)).toInt) ((xs (6 * u + 2)).toInt)).2.1) ((stepS k ts th ((xs (6 * u + 1)).toInt) ((xs (6 * u + 2)).toInt)).2.2.1) ((stepS k ts th ((xs (6 * u + 1)).toInt) ((xs (6 * u + 2)).toInt)).2.2.2) sp hv pr hc) ++ (wM am cI n st hr ca sp k ts th pr hc lu ll up lo mf rr mh)) := hD.same rfl
      refine lv_aload_n (pc := 788) hx hb dL_law_788 rfl (lv_at hl 2 rfl) ?_
      refine lv_aload_n (pc := 789) hx hb dL_law_789 rfl (lv_at hl 0 rfl) ?_
      refine lv_iload_n (pc := 790) hx hb dL_law_790 rfl (lv_at hl 3 rfl) ?_
      refine z_iconst (pc := 791) hx hb dL_law_791 ?_
      refine z_iadd (pc := 792) hx hb dL_law_792 ?_
      refine z_sld (pc := 793) hx hb hX hbl hbA hS (6 * u + 1) (by omega) (by omega) (by omega) dL_law_793 ?_
      refine lv_aload_n (pc := 794) hx hb dL_law_794 rfl (lv_at hl 0 rfl) ?_
      refine lv_iload_n (pc := 795) hx hb dL_law_795 rfl (lv_at hl 3 rfl) ?_
      refine z_iconst (pc := 796) hx hb dL_law_796 ?_
      refine z_iadd (pc := 797) hx hb dL_law_797 ?_
      refine z_sld (pc := 798) hx hb hX hbl hbA hS (6 * u + 2) (by omega) (by omega) (by omega) dL_law_798 ?_
      refine wr_V (pc := 799) hx hb hml hown hT hK (c_X4_step D cI cJ l am n st hr ca sp k ts th pr hc lu ll up lo mf rr mh hV ((xs (6 * u + 1)).toInt) (zi_rng _) ((xs (6 * u + 2)).toInt) (zi_rng _)) ca_X4_step tw_545 hPM hD.right hS (fun q h => inW_r hD h) 0 4 rfl rfl rfl ⟨Nat.le_of_ble_eq_true rfl, Nat.le_of_ble_eq_true rfl⟩ rfl hl.1 (As := [.int (zi ((xs (6 * u + 1)).toInt)), .int (zi ((xs (6 * u + 2)).toInt))]) (rest := [.int (zi ((stepS k ts th ((xs (6 * u + 1)).toInt) ((xs (6 * u + 2)).toInt)).1))]) rfl (Nat.le_of_ble_eq_true rfl) ⟨Nat.le_of_ble_eq_true rfl, Nat.le_of_ble_eq_true rfl⟩ dL_law_799 (fun v_ ws_ H locs hΦ hPn hz_ hk_ hS => ?_)
      replace hPX := fr_l hD hPX hk_
      obtain ⟨x_X4, hx_X4, rfl, rfl⟩ := hΦ
      subst hx_X4
      replace hPM : va_P D vwCl (wM am cI n st hr ca sp ((stepS k ts th ((xs (6 * u + 1)).toInt) ((xs (6 * u + 2)).toInt)).2.1) ((stepS k ts th ((xs (6 * u + 1)).toInt) ((xs (6 * u + 2)).toInt)).2.2.1) ((stepS k ts th ((xs (6 * u + 1)).toInt) ((xs (6 * u + 2)).toInt)).2.2.2) pr hc lu ll up lo mf rr mh) H := hPn
      replace hD : va_D (fun q : Nat => s.heap.size ≤ q) ((wX ax cI cJ n st hr ca pcs fr lv ((stepS k ts th ((xs (6 * u + 1)).toInt) ((xs (6 * u + 2)).toInt)).2.1) ((stepS k ts th ((xs (6 * u + 1)).toInt) ((xs (6 * u + 2)).toInt)).2.2.1) ((stepS k ts th ((xs (6 * u + 1)).toInt) ((xs (6 * u + 2)).toInt)).2.2.2) sp hv pr hc) ++ (wM am cI n st hr ca sp ((stepS k ts th ((xs (6 * u + 1)).toInt) ((xs (6 * u + 2)).toInt)).2.1) ((stepS k ts th ((xs (6 * u + 1)).toInt) ((xs (6 * u + 2)).toInt)).2.2.1) ((stepS k ts th ((xs (6 * u + 1)).toInt) ((xs (6 * u + 2)).toInt)).2.2.2) pr hc lu ll up lo mf rr mh)) := hD.same rfl
      refine z_sameI (tgt := 995) (pc := 802) hx hb dL_law_802 (by decide) ?_
      refine lv_iinc (v := zi (z3 + 6)) (lv' := [(3, .int (zi ((z3 + 6)))), (0, .ref b), (1, .ref (ax 0)), (2, .ref (am 0))]) (pc := 995) hx hb dL_law_995 hl (k := 3) rfl (zi_add _ _) (by decide) rfl (fun ls hl => ?_)
      refine lv_goto (tgt := 18) (pc := 998) hx hb dL_law_998 (by decide) ?_
      exact ih (z3 + 6) (by omega) _ _ _ _ _ _ _ _ _ _ _ _ _ _ _ _ _ _ _ _ _ _ _ hU (VT_step hV _ _) hPX hPM hD hS ls (lv_sub hl [1, 2, 3, 0] rfl)
    · refine z_tabIn (tgt := 807) (pc := 33) hx hb (16) dL_law_33 qv (by decide) (by decide) (by decide) rfl (by decide) ?_
      refine lv_aload_n (pc := 807) hx hb dL_law_807 rfl (lv_at hl 1 rfl) ?_
      refine wr_V (pc := 808) hx hb hml hown hT hK (c_X3_clear D cI cJ l ax n st hr ca pcs fr lv k ts th sp hv pr hc  ) ca_X3_clear tw_283 hPX hD.left hS (fun q h => inW_l hD h) 0 3 rfl rfl rfl ⟨Nat.le_of_ble_eq_true rfl, Nat.le_of_ble_eq_true rfl⟩ rfl hl.1 (As := []) (rest := []) rfl (Nat.le_of_ble_eq_true rfl) ⟨Nat.le_of_ble_eq_true rfl, Nat.le_of_ble_eq_true rfl⟩ dL_law_808 (fun v_ ws_ H locs hΦ hPn hz_ hk_ hS => ?_)
      replace hPM := fr_r hD hPM hk_
      obtain ⟨rfl, rfl⟩ := hΦ
      replace hPX : va_P D vwCl (wX ax cI cJ n st hr ca pcs fr lv 0 ts th sp hv pr hc) H := hPn
      replace hD : va_D (fun q : Nat => s.heap.size ≤ q) ((wX ax cI cJ n st hr ca pcs fr lv 0 ts th sp hv pr hc) ++ (wM am cI n st hr ca sp k ts th pr hc lu ll up lo mf rr mh)) := hD.same rfl
      refine lv_aload_n (pc := 811) hx hb dL_law_811 rfl (lv_at hl 2 rfl) ?_
      refine wr_V (pc := 812) hx hb hml hown hT hK (c_X4_clear D cI cJ l am n st hr ca sp k ts th pr hc lu ll up lo mf rr mh  ) ca_X4_clear tw_549 hPM hD.right hS (fun q h => inW_r hD h) 0 4 rfl rfl rfl ⟨Nat.le_of_ble_eq_true rfl, Nat.le_of_ble_eq_true rfl⟩ rfl hl.1 (As := []) (rest := [.int (zi (k))]) rfl (Nat.le_of_ble_eq_true rfl) ⟨Nat.le_of_ble_eq_true rfl, Nat.le_of_ble_eq_true rfl⟩ dL_law_812 (fun v_ ws_ H locs hΦ hPn hz_ hk_ hS => ?_)
      replace hPX := fr_l hD hPX hk_
      obtain ⟨rfl, rfl⟩ := hΦ
      replace hPM : va_P D vwCl (wM am cI n st hr ca sp 0 ts th pr hc lu ll up lo mf rr mh) H := hPn
      replace hD : va_D (fun q : Nat => s.heap.size ≤ q) ((wX ax cI cJ n st hr ca pcs fr lv 0 ts th sp hv pr hc) ++ (wM am cI n st hr ca sp 0 ts th pr hc lu ll up lo mf rr mh)) := hD.same rfl
      refine z_sameI (tgt := 995) (pc := 815) hx hb dL_law_815 (by decide) ?_
      refine lv_iinc (v := zi (z3 + 6)) (lv' := [(3, .int (zi ((z3 + 6)))), (0, .ref b), (1, .ref (ax 0)), (2, .ref (am 0))]) (pc := 995) hx hb dL_law_995 hl (k := 3) rfl (zi_add _ _) (by decide) rfl (fun ls hl => ?_)
      refine lv_goto (tgt := 18) (pc := 998) hx hb dL_law_998 (by decide) ?_
      exact ih (z3 + 6) (by omega) _ _ _ _ _ _ _ _ _ _ _ _ _ _ _ _ _ _ _ _ _ _ _ hU (VT_clear hV) hPX hPM hD hS ls (lv_sub hl [1, 2, 3, 0] rfl)
    · refine z_tabIn (tgt := 820) (pc := 33) hx hb (17) dL_law_33 qv (by decide) (by decide) (by decide) rfl (by decide) ?_
      refine lv_aload_n (pc := 820) hx hb dL_law_820 rfl (lv_at hl 1 rfl) ?_
      refine lv_aload_n (pc := 821) hx hb dL_law_821 rfl (lv_at hl 0 rfl) ?_
      refine lv_iload_n (pc := 822) hx hb dL_law_822 rfl (lv_at hl 3 rfl) ?_
      refine z_iconst (pc := 823) hx hb dL_law_823 ?_
      refine z_iadd (pc := 824) hx hb dL_law_824 ?_
      refine z_sld (pc := 825) hx hb hX hbl hbA hS (6 * u + 1) (by omega) (by omega) (by omega) dL_law_825 ?_
      refine rd_V (pc := 826) hx hb hml hown hT hK (c_X3_used D cI cJ l ax n st hr ca pcs fr lv k ts th sp hv pr hc hV ((xs (6 * u + 1)).toInt) (zi_rng _)) ca_X3_used tw_287 hPX 0 3 rfl rfl rfl ⟨Nat.le_of_ble_eq_true rfl, Nat.le_of_ble_eq_true rfl⟩ rfl hl.1 (As := [.int (zi ((xs (6 * u + 1)).toInt))]) (rest := []) rfl (Nat.le_of_ble_eq_true rfl) ⟨Nat.le_of_ble_eq_true rfl, Nat.le_of_ble_eq_true rfl⟩ dL_law_826 ?_
      refine lv_aload_n (pc := 829) hx hb dL_law_829 rfl (lv_at hl 2 rfl) ?_
      refine lv_aload_n (pc := 830) hx hb dL_law_830 rfl (lv_at hl 0 rfl) ?_
      refine lv_iload_n (pc := 831) hx hb dL_law_831 rfl (lv_at hl 3 rfl) ?_
      refine z_iconst (pc := 832) hx hb dL_law_832 ?_
      refine z_iadd (pc := 833) hx hb dL_law_833 ?_
      refine z_sld (pc := 834) hx hb hX hbl hbA hS (6 * u + 1) (by omega) (by omega) (by omega) dL_law_834 ?_
      refine rd_V (pc := 835) hx hb hml hown hT hK (c_X4_used D cI cJ l am n st hr ca sp k ts th pr hc lu ll up lo mf rr mh hV ((xs (6 * u + 1)).toInt) (zi_rng _)) ca_X4_used tw_553 hPM 0 4 rfl rfl rfl ⟨Nat.le_of_ble_eq_true rfl, Nat.le_of_ble_eq_true rfl⟩ rfl hl.1 (As := [.int (zi ((xs (6 * u + 1)).toInt))]) (rest := [.int (zi ((usedV k ts th sp ((xs (6 * u + 1)).toInt))))]) rfl (Nat.le_of_ble_eq_true rfl) ⟨Nat.le_of_ble_eq_true rfl, Nat.le_of_ble_eq_true rfl⟩ dL_law_835 ?_
      refine z_sameI (tgt := 995) (pc := 838) hx hb dL_law_838 (by decide) ?_
      refine lv_iinc (v := zi (z3 + 6)) (lv' := [(3, .int (zi ((z3 + 6)))), (0, .ref b), (1, .ref (ax 0)), (2, .ref (am 0))]) (pc := 995) hx hb dL_law_995 hl (k := 3) rfl (zi_add _ _) (by decide) rfl (fun ls hl => ?_)
      refine lv_goto (tgt := 18) (pc := 998) hx hb dL_law_998 (by decide) ?_
      exact ih (z3 + 6) (by omega) _ _ _ _ _ _ _ _ _ _ _ _ _ _ _ _ _ _ _ _ _ _ _ hU hV hPX hPM hD hS ls (lv_sub hl [1, 2, 3, 0] rfl)
    · refine z_tabIn (tgt := 843) (pc := 33) hx hb (18) dL_law_33 qv (by decide) (by decide) (by decide) rfl (by decide) ?_
      refine lv_aload_n (pc := 843) hx hb dL_law_843 rfl (lv_at hl 1 rfl) ?_
      refine lv_aload_n (pc := 844) hx hb dL_law_844 rfl (lv_at hl 0 rfl) ?_
      refine lv_iload_n (pc := 845) hx hb dL_law_845 rfl (lv_at hl 3 rfl) ?_
      refine z_iconst (pc := 846) hx hb dL_law_846 ?_
      refine z_iadd (pc := 847) hx hb dL_law_847 ?_
      refine z_sld (pc := 848) hx hb hX hbl hbA hS (6 * u + 1) (by omega) (by omega) (by omega) dL_law_848 ?_
      refine rd_V (pc := 849) hx hb hml hown hT hK (c_X3_fails D cI cJ l ax n st hr ca pcs fr lv k ts th sp hv pr hc hV ((xs (6 * u + 1)).toInt) (zi_rng _)) ca_X3_fails tw_291 hPX 0 3 rfl rfl rfl ⟨Nat.le_of_ble_eq_true rfl, Nat.le_of_ble_eq_true rfl⟩ rfl hl.1 (As := [.int (zi ((xs (6 * u + 1)).toInt))]) (rest := []) rfl (Nat.le_of_ble_eq_true rfl) ⟨Nat.le_of_ble_eq_true rfl, Nat.le_of_ble_eq_true rfl⟩ dL_law_849 ?_
      refine lv_aload_n (pc := 852) hx hb dL_law_852 rfl (lv_at hl 2 rfl) ?_
      refine lv_aload_n (pc := 853) hx hb dL_law_853 rfl (lv_at hl 0 rfl) ?_
      refine lv_iload_n (pc := 854) hx hb dL_law_854 rfl (lv_at hl 3 rfl) ?_
      refine z_iconst (pc := 855) hx hb dL_law_855 ?_
      refine z_iadd (pc := 856) hx hb dL_law_856 ?_
      refine z_sld (pc := 857) hx hb hX hbl hbA hS (6 * u + 1) (by omega) (by omega) (by omega) dL_law_857 ?_
      refine rd_V (pc := 858) hx hb hml hown hT hK (c_X4_fails D cI cJ l am n st hr ca sp k ts th pr hc lu ll up lo mf rr mh hV ((xs (6 * u + 1)).toInt) (zi_rng _)) ca_X4_fails tw_557 hPM 0 4 rfl rfl rfl ⟨Nat.le_of_ble_eq_true rfl, Nat.le_of_ble_eq_true rfl⟩ rfl hl.1 (As := [.int (zi ((xs (6 * u + 1)).toInt))]) (rest := [.int (zi ((failsV k ts th sp ((xs (6 * u + 1)).toInt))))]) rfl (Nat.le_of_ble_eq_true rfl) ⟨Nat.le_of_ble_eq_true rfl, Nat.le_of_ble_eq_true rfl⟩ dL_law_858 ?_
      refine z_sameI (tgt := 995) (pc := 861) hx hb dL_law_861 (by decide) ?_
      refine lv_iinc (v := zi (z3 + 6)) (lv' := [(3, .int (zi ((z3 + 6)))), (0, .ref b), (1, .ref (ax 0)), (2, .ref (am 0))]) (pc := 995) hx hb dL_law_995 hl (k := 3) rfl (zi_add _ _) (by decide) rfl (fun ls hl => ?_)
      refine lv_goto (tgt := 18) (pc := 998) hx hb dL_law_998 (by decide) ?_
      exact ih (z3 + 6) (by omega) _ _ _ _ _ _ _ _ _ _ _ _ _ _ _ _ _ _ _ _ _ _ _ hU hV hPX hPM hD hS ls (lv_sub hl [1, 2, 3, 0] rfl)
    · refine z_tabIn (tgt := 866) (pc := 33) hx hb (19) dL_law_33 qv (by decide) (by decide) (by decide) rfl (by decide) ?_
      refine lv_aload_n (pc := 866) hx hb dL_law_866 rfl (lv_at hl 1 rfl) ?_
      refine lv_aload_n (pc := 867) hx hb dL_law_867 rfl (lv_at hl 0 rfl) ?_
      refine lv_iload_n (pc := 868) hx hb dL_law_868 rfl (lv_at hl 3 rfl) ?_
      refine z_iconst (pc := 869) hx hb dL_law_869 ?_
      refine z_iadd (pc := 870) hx hb dL_law_870 ?_
      refine z_sld (pc := 871) hx hb hX hbl hbA hS (6 * u + 1) (by omega) (by omega) (by omega) dL_law_871 ?_
      refine lv_aload_n (pc := 872) hx hb dL_law_872 rfl (lv_at hl 0 rfl) ?_
      refine lv_iload_n (pc := 873) hx hb dL_law_873 rfl (lv_at hl 3 rfl) ?_
      refine z_iconst (pc := 874) hx hb dL_law_874 ?_
      refine z_iadd (pc := 875) hx hb dL_law_875 ?_
      refine z_sld (pc := 876) hx hb hX hbl hbA hS (6 * u + 2) (by omega) (by omega) (by omega) dL_law_876 ?_
      refine lv_aload_n (pc := 877) hx hb dL_law_877 rfl (lv_at hl 0 rfl) ?_
      refine lv_iload_n (pc := 878) hx hb dL_law_878 rfl (lv_at hl 3 rfl) ?_
      refine z_iconst (pc := 879) hx hb dL_law_879 ?_
      refine z_iadd (pc := 880) hx hb dL_law_880 ?_
      refine z_sld (pc := 881) hx hb hX hbl hbA hS (6 * u + 3) (by omega) (by omega) (by omega) dL_law_881 ?_
      refine lv_aload_n (pc := 882) hx hb dL_law_882 rfl (lv_at hl 0 rfl) ?_
      refine lv_iload_n (pc := 883) hx hb dL_law_883 rfl (lv_at hl 3 rfl) ?_
      refine z_iconst (pc := 884) hx hb dL_law_884 ?_
      refine z_iadd (pc := 885) hx hb dL_law_885 ?_
      refine z_sld (pc := 886) hx hb hX hbl hbA hS (6 * u + 4) (by omega) (by omega) (by omega) dL_law_886 ?_
      refine rd_V (pc := 887) hx hb hml hown hT hK (c_X3_end D cI cJ l ax n st hr ca pcs fr lv k ts th sp hv pr hc  ((xs (6 * u + 1)).toInt) (zi_rng _) ((xs (6 * u + 2)).toInt) (zi_rng _) ((xs (6 * u + 3)).toInt) (zi_rng _) ((xs (6 * u + 4)).toInt) (zi_rng _)) ca_X3_end tw_298 hPX 0 3 rfl rfl rfl ⟨Nat.le_of_ble_eq_true rfl, Nat.le_of_ble_eq_true rfl⟩ rfl hl.1 (As := [.int (zi ((xs (6 * u + 1)).toInt)), .int (zi ((xs (6 * u + 2)).toInt)), .int (zi ((xs (6 * u + 3)).toInt)), .int (zi ((xs (6 * u + 4)).toInt))]) (rest := []) rfl (Nat.le_of_ble_eq_true rfl) ⟨Nat.le_of_ble_eq_true rfl, Nat.le_of_ble_eq_true rfl⟩ dL_law_887 ?_
      refine lv_aload_n (pc := 890) hx hb dL_law_890 rfl (lv_at hl 2 rfl) ?_
      refine lv_aload_n (pc := 891) hx hb dL_law_891 rfl (lv_at hl 0 rfl) ?_
      refine lv_iload_n (pc := 892) hx hb dL_law_892 rfl (lv_at hl 3 rfl) ?_
      refine z_iconst (pc := 893) hx hb dL_law_893 ?_
      refine z_iadd (pc := 894) hx hb dL_law_894 ?_
      refine z_sld (pc := 895) hx hb hX hbl hbA hS (6 * u + 1) (by omega) (by omega) (by omega) dL_law_895 ?_
      refine lv_aload_n (pc := 896) hx hb dL_law_896 rfl (lv_at hl 0 rfl) ?_
      refine lv_iload_n (pc := 897) hx hb dL_law_897 rfl (lv_at hl 3 rfl) ?_
      refine z_iconst (pc := 898) hx hb dL_law_898 ?_
      refine z_iadd (pc := 899) hx hb dL_law_899 ?_
      refine z_sld (pc := 900) hx hb hX hbl hbA hS (6 * u + 2) (by omega) (by omega) (by omega) dL_law_900 ?_
      refine lv_aload_n (pc := 901) hx hb dL_law_901 rfl (lv_at hl 0 rfl) ?_
      refine lv_iload_n (pc := 902) hx hb dL_law_902 rfl (lv_at hl 3 rfl) ?_
      refine z_iconst (pc := 903) hx hb dL_law_903 ?_
      refine z_iadd (pc := 904) hx hb dL_law_904 ?_
      refine z_sld (pc := 905) hx hb hX hbl hbA hS (6 * u + 3) (by omega) (by omega) (by omega) dL_law_905 ?_
      refine lv_aload_n (pc := 906) hx hb dL_law_906 rfl (lv_at hl 0 rfl) ?_
      refine lv_iload_n (pc := 907) hx hb dL_law_907 rfl (lv_at hl 3 rfl) ?_
      refine z_iconst (pc := 908) hx hb dL_law_908 ?_
      refine z_iadd (pc := 909) hx hb dL_law_909 ?_
      refine z_sld (pc := 910) hx hb hX hbl hbA hS (6 * u + 4) (by omega) (by omega) (by omega) dL_law_910 ?_
      refine rd_V (pc := 911) hx hb hml hown hT hK (c_X4_end D cI cJ l am n st hr ca sp k ts th pr hc lu ll up lo mf rr mh  ((xs (6 * u + 1)).toInt) (zi_rng _) ((xs (6 * u + 2)).toInt) (zi_rng _) ((xs (6 * u + 3)).toInt) (zi_rng _) ((xs (6 * u + 4)).toInt) (zi_rng _)) ca_X4_end tw_561 hPM 0 4 rfl rfl rfl ⟨Nat.le_of_ble_eq_true rfl, Nat.le_of_ble_eq_true rfl⟩ rfl hl.1 (As := [.int (zi ((xs (6 * u + 1)).toInt)), .int (zi ((xs (6 * u + 2)).toInt)), .int (zi ((xs (6 * u + 3)).toInt)), .int (zi ((xs (6 * u + 4)).toInt))]) (rest := [.int (zi ((endV ((xs (6 * u + 1)).toInt) ((xs (6 * u + 2)).toInt) ((xs (6 * u + 3)).toInt) ((xs (6 * u + 4)).toInt))))]) rfl (Nat.le_of_ble_eq_true rfl) ⟨Nat.le_of_ble_eq_true rfl, Nat.le_of_ble_eq_true rfl⟩ dL_law_911 ?_
      refine z_sameI (tgt := 995) (pc := 914) hx hb dL_law_914 (by decide) ?_
      refine lv_iinc (v := zi (z3 + 6)) (lv' := [(3, .int (zi ((z3 + 6)))), (0, .ref b), (1, .ref (ax 0)), (2, .ref (am 0))]) (pc := 995) hx hb dL_law_995 hl (k := 3) rfl (zi_add _ _) (by decide) rfl (fun ls hl => ?_)
      refine lv_goto (tgt := 18) (pc := 998) hx hb dL_law_998 (by decide) ?_
      exact ih (z3 + 6) (by omega) _ _ _ _ _ _ _ _ _ _ _ _ _ _ _ _ _ _ _ _ _ _ _ hU hV hPX hPM hD hS ls (lv_sub hl [1, 2, 3, 0] rfl)
    · refine z_tabIn (tgt := 919) (pc := 33) hx hb (20) dL_law_33 qv (by decide) (by decide) (by decide) rfl (by decide) ?_
      refine lv_aload_n (pc := 919) hx hb dL_law_919 rfl (lv_at hl 1 rfl) ?_
      refine lv_aload_n (pc := 920) hx hb dL_law_920 rfl (lv_at hl 0 rfl) ?_
      refine lv_iload_n (pc := 921) hx hb dL_law_921 rfl (lv_at hl 3 rfl) ?_
      refine z_iconst (pc := 922) hx hb dL_law_922 ?_
      refine z_iadd (pc := 923) hx hb dL_law_923 ?_
      refine z_sld (pc := 924) hx hb hX hbl hbA hS (6 * u + 1) (by omega) (by omega) (by omega) dL_law_924 ?_
      refine lv_aload_n (pc := 925) hx hb dL_law_925 rfl (lv_at hl 0 rfl) ?_
      refine lv_iload_n (pc := 926) hx hb dL_law_926 rfl (lv_at hl 3 rfl) ?_
      refine z_iconst (pc := 927) hx hb dL_law_927 ?_
      refine z_iadd (pc := 928) hx hb dL_law_928 ?_
      refine z_sld (pc := 929) hx hb hX hbl hbA hS (6 * u + 2) (by omega) (by omega) (by omega) dL_law_929 ?_
      refine wr_V (pc := 930) hx hb hml hown hT hK (c_X3_rule D cI cJ l ax n st hr ca pcs fr lv k ts th sp hv pr hc  ((xs (6 * u + 1)).toInt) (zi_rng _) ((xs (6 * u + 2)).toInt) (zi_rng _)) ca_X3_rule tw_321 hPX hD.left hS (fun q h => inW_l hD h) 0 3 rfl rfl rfl ⟨Nat.le_of_ble_eq_true rfl, Nat.le_of_ble_eq_true rfl⟩ rfl hl.1 (As := [.int (zi ((xs (6 * u + 1)).toInt)), .int (zi ((xs (6 * u + 2)).toInt))]) (rest := []) rfl (Nat.le_of_ble_eq_true rfl) ⟨Nat.le_of_ble_eq_true rfl, Nat.le_of_ble_eq_true rfl⟩ dL_law_930 (fun v_ ws_ H locs hΦ hPn hz_ hk_ hS => ?_)
      replace hPM := fr_r hD hPM hk_
      obtain ⟨x_X3, hx_X3, rfl, rfl⟩ := hΦ
      subst hx_X3
      replace hPX : va_P D vwCl (wX ax cI cJ n st hr ca pcs fr lv k ts th sp hv ((ruleS pr hc ((xs (6 * u + 1)).toInt) ((xs (6 * u + 2)).toInt)).2.1) ((ruleS pr hc ((xs (6 * u + 1)).toInt) ((xs (6 * u + 2)).toInt)).2.2)) H := hPn
      replace hD : va_D (fun q : Nat => s.heap.size ≤ q) ((wX ax cI cJ n st hr ca pcs fr lv k ts th sp hv ((ruleS pr hc ((xs (6 * u + 1)).toInt) ((xs (6 * u + 2)).toInt)).2.1) ((ruleS pr hc ((xs (6 * u + 1)).toInt) ((xs (6 * u + 2)).toInt)).2.2)) ++ (wM am cI n st hr ca sp k ts th pr hc lu ll up lo mf rr mh)) := hD.same rfl
      refine lv_aload_n (pc := 933) hx hb dL_law_933 rfl (lv_at hl 2 rfl) ?_
      refine lv_aload_n (pc := 934) hx hb dL_law_934 rfl (lv_at hl 0 rfl) ?_
      refine lv_iload_n (pc := 935) hx hb dL_law_935 rfl (lv_at hl 3 rfl) ?_
      refine z_iconst (pc := 936) hx hb dL_law_936 ?_
      refine z_iadd (pc := 937) hx hb dL_law_937 ?_
      refine z_sld (pc := 938) hx hb hX hbl hbA hS (6 * u + 1) (by omega) (by omega) (by omega) dL_law_938 ?_
      refine lv_aload_n (pc := 939) hx hb dL_law_939 rfl (lv_at hl 0 rfl) ?_
      refine lv_iload_n (pc := 940) hx hb dL_law_940 rfl (lv_at hl 3 rfl) ?_
      refine z_iconst (pc := 941) hx hb dL_law_941 ?_
      refine z_iadd (pc := 942) hx hb dL_law_942 ?_
      refine z_sld (pc := 943) hx hb hX hbl hbA hS (6 * u + 2) (by omega) (by omega) (by omega) dL_law_943 ?_
      refine wr_V (pc := 944) hx hb hml hown hT hK (c_X4_rule D cI cJ l am n st hr ca sp k ts th pr hc lu ll up lo mf rr mh  ((xs (6 * u + 1)).toInt) (zi_rng _) ((xs (6 * u + 2)).toInt) (zi_rng _)) ca_X4_rule tw_575 hPM hD.right hS (fun q h => inW_r hD h) 0 4 rfl rfl rfl ⟨Nat.le_of_ble_eq_true rfl, Nat.le_of_ble_eq_true rfl⟩ rfl hl.1 (As := [.int (zi ((xs (6 * u + 1)).toInt)), .int (zi ((xs (6 * u + 2)).toInt))]) (rest := [.int (zi ((ruleS pr hc ((xs (6 * u + 1)).toInt) ((xs (6 * u + 2)).toInt)).1))]) rfl (Nat.le_of_ble_eq_true rfl) ⟨Nat.le_of_ble_eq_true rfl, Nat.le_of_ble_eq_true rfl⟩ dL_law_944 (fun v_ ws_ H locs hΦ hPn hz_ hk_ hS => ?_)
      replace hPX := fr_l hD hPX hk_
      obtain ⟨x_X4, hx_X4, rfl, rfl⟩ := hΦ
      subst hx_X4
      replace hPM : va_P D vwCl (wM am cI n st hr ca sp k ts th ((ruleS pr hc ((xs (6 * u + 1)).toInt) ((xs (6 * u + 2)).toInt)).2.1) ((ruleS pr hc ((xs (6 * u + 1)).toInt) ((xs (6 * u + 2)).toInt)).2.2) lu ll up lo mf rr mh) H := hPn
      replace hD : va_D (fun q : Nat => s.heap.size ≤ q) ((wX ax cI cJ n st hr ca pcs fr lv k ts th sp hv ((ruleS pr hc ((xs (6 * u + 1)).toInt) ((xs (6 * u + 2)).toInt)).2.1) ((ruleS pr hc ((xs (6 * u + 1)).toInt) ((xs (6 * u + 2)).toInt)).2.2)) ++ (wM am cI n st hr ca sp k ts th ((ruleS pr hc ((xs (6 * u + 1)).toInt) ((xs (6 * u + 2)).toInt)).2.1) ((ruleS pr hc ((xs (6 * u + 1)).toInt) ((xs (6 * u + 2)).toInt)).2.2) lu ll up lo mf rr mh)) := hD.same rfl
      refine z_sameI (tgt := 995) (pc := 947) hx hb dL_law_947 (by decide) ?_
      refine lv_iinc (v := zi (z3 + 6)) (lv' := [(3, .int (zi ((z3 + 6)))), (0, .ref b), (1, .ref (ax 0)), (2, .ref (am 0))]) (pc := 995) hx hb dL_law_995 hl (k := 3) rfl (zi_add _ _) (by decide) rfl (fun ls hl => ?_)
      refine lv_goto (tgt := 18) (pc := 998) hx hb dL_law_998 (by decide) ?_
      exact ih (z3 + 6) (by omega) _ _ _ _ _ _ _ _ _ _ _ _ _ _ _ _ _ _ _ _ _ _ _ hU (VT_rule hV _ _) hPX hPM hD hS ls (lv_sub hl [1, 2, 3, 0] rfl)
    · refine z_tabIn (tgt := 952) (pc := 33) hx hb (21) dL_law_33 qv (by decide) (by decide) (by decide) rfl (by decide) ?_
      refine lv_aload_n (pc := 952) hx hb dL_law_952 rfl (lv_at hl 1 rfl) ?_
      refine lv_aload_n (pc := 953) hx hb dL_law_953 rfl (lv_at hl 0 rfl) ?_
      refine lv_iload_n (pc := 954) hx hb dL_law_954 rfl (lv_at hl 3 rfl) ?_
      refine z_iconst (pc := 955) hx hb dL_law_955 ?_
      refine z_iadd (pc := 956) hx hb dL_law_956 ?_
      refine z_sld (pc := 957) hx hb hX hbl hbA hS (6 * u + 1) (by omega) (by omega) (by omega) dL_law_957 ?_
      refine lv_aload_n (pc := 958) hx hb dL_law_958 rfl (lv_at hl 0 rfl) ?_
      refine lv_iload_n (pc := 959) hx hb dL_law_959 rfl (lv_at hl 3 rfl) ?_
      refine z_iconst (pc := 960) hx hb dL_law_960 ?_
      refine z_iadd (pc := 961) hx hb dL_law_961 ?_
      refine z_sld (pc := 962) hx hb hX hbl hbA hS (6 * u + 2) (by omega) (by omega) (by omega) dL_law_962 ?_
      refine lv_aload_n (pc := 963) hx hb dL_law_963 rfl (lv_at hl 0 rfl) ?_
      refine lv_iload_n (pc := 964) hx hb dL_law_964 rfl (lv_at hl 3 rfl) ?_
      refine z_iconst (pc := 965) hx hb dL_law_965 ?_
      refine z_iadd (pc := 966) hx hb dL_law_966 ?_
      refine z_sld (pc := 967) hx hb hX hbl hbA hS (6 * u + 3) (by omega) (by omega) (by omega) dL_law_967 ?_
      have hbst : ∃ pa pb : Int, ((0 ≤ (xs (6 * u + 1)).toInt ∧ (xs (6 * u + 1)).toInt ≤ 10000) ∧ (1 ≤ (xs (6 * u + 2)).toInt ∧ (xs (6 * u + 2)).toInt ≤ 500) ∧ (0 ≤ (xs (6 * u + 3)).toInt ∧ (xs (6 * u + 3)).toInt ≤ 2)) → isBest (cuZ pr hc ((xs (6 * u + 2)).toInt)) (chZ pr hc ((xs (6 * u + 2)).toInt) (sp 2)) ((xs (6 * u + 1)).toInt) pa pb := by
        by_cases hq : 0 ≤ (xs (6 * u + 1)).toInt
        · obtain ⟨x, y, hxy⟩ := best_ex (cu := cuZ pr hc ((xs (6 * u + 2)).toInt)) (ch := chZ pr hc ((xs (6 * u + 2)).toInt) (sp 2)) hq
          exact ⟨x, y, fun _ => hxy⟩
        · exact ⟨0, 0, fun q => absurd q.1.1 hq⟩
      obtain ⟨pa, pb, hbest⟩ := hbst
      refine rd_V (pc := 968) hx hb hml hown hT hK (c_X3_plan D cI cJ l ax n st hr ca pcs fr lv k ts th sp hv pr hc hV ((xs (6 * u + 1)).toInt) (zi_rng _) ((xs (6 * u + 2)).toInt) (zi_rng _) ((xs (6 * u + 3)).toInt) (zi_rng _) pa pb hbest) ca_X3_plan tw_325 hPX 0 3 rfl rfl rfl ⟨Nat.le_of_ble_eq_true rfl, Nat.le_of_ble_eq_true rfl⟩ rfl hl.1 (As := [.int (zi ((xs (6 * u + 1)).toInt)), .int (zi ((xs (6 * u + 2)).toInt)), .int (zi ((xs (6 * u + 3)).toInt))]) (rest := []) rfl (Nat.le_of_ble_eq_true rfl) ⟨Nat.le_of_ble_eq_true rfl, Nat.le_of_ble_eq_true rfl⟩ dL_law_968 ?_
      refine lv_aload_n (pc := 971) hx hb dL_law_971 rfl (lv_at hl 2 rfl) ?_
      refine lv_aload_n (pc := 972) hx hb dL_law_972 rfl (lv_at hl 0 rfl) ?_
      refine lv_iload_n (pc := 973) hx hb dL_law_973 rfl (lv_at hl 3 rfl) ?_
      refine z_iconst (pc := 974) hx hb dL_law_974 ?_
      refine z_iadd (pc := 975) hx hb dL_law_975 ?_
      refine z_sld (pc := 976) hx hb hX hbl hbA hS (6 * u + 1) (by omega) (by omega) (by omega) dL_law_976 ?_
      refine lv_aload_n (pc := 977) hx hb dL_law_977 rfl (lv_at hl 0 rfl) ?_
      refine lv_iload_n (pc := 978) hx hb dL_law_978 rfl (lv_at hl 3 rfl) ?_
      refine z_iconst (pc := 979) hx hb dL_law_979 ?_
      refine z_iadd (pc := 980) hx hb dL_law_980 ?_
      refine z_sld (pc := 981) hx hb hX hbl hbA hS (6 * u + 2) (by omega) (by omega) (by omega) dL_law_981 ?_
      refine lv_aload_n (pc := 982) hx hb dL_law_982 rfl (lv_at hl 0 rfl) ?_
      refine lv_iload_n (pc := 983) hx hb dL_law_983 rfl (lv_at hl 3 rfl) ?_
      refine z_iconst (pc := 984) hx hb dL_law_984 ?_
      refine z_iadd (pc := 985) hx hb dL_law_985 ?_
      refine z_sld (pc := 986) hx hb hX hbl hbA hS (6 * u + 3) (by omega) (by omega) (by omega) dL_law_986 ?_
      refine rd_V (pc := 987) hx hb hml hown hT hK (c_X4_plan D cI cJ l am n st hr ca sp k ts th pr hc lu ll up lo mf rr mh hV ((xs (6 * u + 1)).toInt) (zi_rng _) ((xs (6 * u + 2)).toInt) (zi_rng _) ((xs (6 * u + 3)).toInt) (zi_rng _) pa pb hbest) ca_X4_plan tw_579 hPM 0 4 rfl rfl rfl ⟨Nat.le_of_ble_eq_true rfl, Nat.le_of_ble_eq_true rfl⟩ rfl hl.1 (As := [.int (zi ((xs (6 * u + 1)).toInt)), .int (zi ((xs (6 * u + 2)).toInt)), .int (zi ((xs (6 * u + 3)).toInt))]) (rest := [.int (zi ((planV pr hc ((xs (6 * u + 1)).toInt) ((xs (6 * u + 2)).toInt) ((xs (6 * u + 3)).toInt) (sp 2) pa pb)))]) rfl (Nat.le_of_ble_eq_true rfl) ⟨Nat.le_of_ble_eq_true rfl, Nat.le_of_ble_eq_true rfl⟩ dL_law_987 ?_
      refine z_sameI (tgt := 995) (pc := 990) hx hb dL_law_990 (by decide) ?_
      refine lv_iinc (v := zi (z3 + 6)) (lv' := [(3, .int (zi ((z3 + 6)))), (0, .ref b), (1, .ref (ax 0)), (2, .ref (am 0))]) (pc := 995) hx hb dL_law_995 hl (k := 3) rfl (zi_add _ _) (by decide) rfl (fun ls hl => ?_)
      refine lv_goto (tgt := 18) (pc := 998) hx hb dL_law_998 (by decide) ?_
      exact ih (z3 + 6) (by omega) _ _ _ _ _ _ _ _ _ _ _ _ _ _ _ _ _ _ _ _ _ _ _ hU hV hPX hPM hD hS ls (lv_sub hl [1, 2, 3, 0] rfl)
