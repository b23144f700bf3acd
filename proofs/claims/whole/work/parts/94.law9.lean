/-! ===== the law: a call of each kind ===== -/
/-- at a place of the law: from every state that holds what has to hold, it comes to its end -/
def LwK (x : Cx) (mo kw pi ta ms pt po nw pls ins tap e3 e4 e5 e6 e7 e8 bar fa pls2 ins2 tap2 d3 d4 d5 d6 d7 d8 bar2 h : Nat) (ad : Nat → Nat) (pc : Nat) (L : List (Nat × aV)) (kR nR : Nat) : Prop := ∀ (hi : Int) (f : Int → Int) (g : Int → Int) (tp : Int → Int) (sp : Int → Int) (sm : Int → Int) (sf : Int → Int) (sc : Int → Int) (bp : Int → Int) (bm : Int → Int) (fa0 : Int → Int) (tr : Int → Int) (ms0 : Int → Int) (pt0 : Int → Int) (po0 : Int → Int) (u0 : Int → Int) (u1 : Int → Int) (u2 : Int → Int) (u3 : Int → Int) (u4 : Int → Int) (u5 : Int → Int) (u6 : Int → Int) (by0 : Int → Int) (mtr : Int → Int) (kp : Int → Int) (mms : Int → Int) (mpt : Int → Int) (bd : Int → Int) (m : Nat → Int) (v : Nat → Int) (pv : Int → Option Nat) (iv : Int → Option Nat) (pv2 : Int → Option Nat) (iv2 : Int → Option Nat) (pl : Int → Nat) (tu : Int → Nat) (kpl : Int → Nat) (ktu : Int → Nat) (z0 : Int) (z1 : Int) (z2 : Int) (z3 : Int) (z4 : Int) (z5 : Int) (kn : Nat) (il : aW), NowI il bar f pv iv pl tp sp sm sf sc bp bm → KepI il bar g (v 3) pv2 iv2 kpl u0 u1 u2 u3 u4 u5 u6 kn z0 z1 z2 z3 z4 z5 → TrI (v 21) tr bd → hi = v 3 → V x code "MatFlipLaw" 4 room_1 ([(mo, co 11 [ar nw, ar kw, ar pi, ar ta, ar ms, ar pt, ar po, ai hi]), (nw, co 10 [ar pls, ar ins, ar tap, ar e3, ar e4, ar e5, ar e6, ar e7, ar e8, ai (f 0), ai (f 1), ai (f 4), ai (f 2), ai (f 3), ai (f 6), ar bar]), (pls, cq 3 6 pv), (ins, cq 2 5 iv), (tap, cn 0 100 tp), (e3, cn 0 8 sp), (e4, cn 0 8 sm), (e5, cn 0 8 sf), (e6, cn 0 8 sc), (e7, cn 0 8 bp), (e8, cn 0 8 bm), (pi, co 4 (pO fa m)), (fa, cn 0 6 fa0), (ta, cn 0 21 tr), (ms, cn 0 6 ms0), (pt, cn 0 6 pt0), (po, cn 0 36 po0)] ++ (zpA ta f pl tu ++ (il ++ ([(kw, co 10 [ar pls2, ar ins2, ar tap2, ar d3, ar d4, ar d5, ar d6, ar d7, ar d8, ai z0, ai z1, ai z2, ai z3, ai z4, ai z5, ar bar2]), (pls2, cq 3 6 pv2), (ins2, cq 2 5 iv2), (tap2, cn 0 100 u0), (d3, cn 0 8 u1), (d4, cn 0 8 u2), (d5, cn 0 8 u3), (d6, cn 0 8 u4), (d7, cn 0 8 u5), (d8, cn 0 8 u6)] ++ (zpS ta g kpl ktu kn ++ [(h, co 12 (mO ad v)), ((ad 1), cn 0 936 f), ((ad 2), cn 0 936 g), ((ad 9), cn 0 6 by0), ((ad 10), cn 1 64 mtr), ((ad 14), cn 0 252 kp), ((ad 18), cn 0 6 mms), ((ad 19), cn 0 6 mpt), ((ad 20), cn 0 20 bd)]))))) pc L [] kR nR
theorem law_c0 {x : Cx} {mo kw pi ta ms pt po nw pls ins tap e3 e4 e5 e6 e7 e8 bar fa pls2 ins2 tap2 d3 d4 d5 d6 d7 d8 bar2 h : Nat} {ad : Nat → Nat} {b : Nat} {i : Int} {N : Nat} {xf : Int → Int} {kR nR : Nat} (hX : Sc x b N xf) (hi0 : 0 ≤ i) (hi7 : i + 7 ≤ N) (hN : N < 2147483648) (hb : ∀ j : Int, -2147483648 ≤ xf j ∧ xf j < 2147483648) (hk : kR + 24 ≤ 600000) (hn : nR + 280 ≤ 7302250) (kk : LwK x mo kw pi ta ms pt po nw pls ins tap e3 e4 e5 e6 e7 e8 bar fa pls2 ins2 tap2 d3 d4 d5 d6 d7 d8 bar2 h ad 1524 [(0, ar b), (1, ar mo), (2, ar h), (3, ai i)] (kR + 12) (nR + 140)) : LwK x mo kw pi ta ms pt po nw pls ins tap e3 e4 e5 e6 e7 e8 bar fa pls2 ins2 tap2 d3 d4 d5 d6 d7 d8 bar2 h ad 196 [(0, ar b), (1, ar mo), (2, ar h), (3, ai i)] kR nR := by
  intro hi f g tp sp sm sf sc bp bm fa0 tr ms0 pt0 po0 u0 u1 u2 u3 u4 u5 u6 by0 mtr kp mms mpt bd m v pv iv pv2 iv2 pl tu kpl ktu z0 z1 z2 z3 z4 z5 kn il hNow hKep hTr h3
  obtain ⟨hS, hP, hI, hR0, hR1, hR2, hR3, hR4, hR5, hR6⟩ := id hNow
  obtain ⟨hg0, hg1, hg2, hg3, hg4, -⟩ := id hS.1
  refine v_aload_n (i := 1) 1 rfl dL_law_196 ?_
  refine v_aload_n (i := 0) 0 rfl dL_law_197 ?_
  refine v_iload_n (i := 3) 3 rfl dL_law_198 ?_
  refine v_iconst dL_law_199 ?_
  refine v_iadd dL_law_200 ?_
  refine v_xald hX (by omega) (by omega) hN dL_law_201 ?_
  refine LC_X11_feed hS hR0 (hb _) (Nat.le_of_ble_eq_true rfl) (by omega) (by omega) (fun u hu => ?_)
  obtain ⟨y1, y2, y3⟩ := u
  obtain ⟨hu, hrow⟩ := hu
  have h1 : y1 = (qFeed f (xf (i + 1))).1 := congrArg Prod.fst hu
  have h2 : y2 = (qFeed f (xf (i + 1))).2 := congrArg Prod.snd hu
  subst h2
  subst h1
  dsimp only at hrow
  refine v_aload_n (i := 2) 2 rfl dL_law_205 ?_
  refine v_aload_n (i := 0) 0 rfl dL_law_206 ?_
  refine v_iload_n (i := 3) 3 rfl dL_law_207 ?_
  refine v_iconst dL_law_208 ?_
  refine v_iadd dL_law_209 ?_
  refine v_xald hX (by omega) (by omega) hN dL_law_210 ?_
  refine v_perm perm_f ?_
  refine LR_X12_feed hS (hb _) (Nat.le_of_ble_eq_true rfl) (by omega) (by omega) (fun w hw => ?_)
  obtain ⟨w1, w2⟩ := w
  have g1 : w1 = (qFeed f (xf (i + 1))).1 := congrArg Prod.fst hw
  have g2 : w2 = (qFeed f (xf (i + 1))).2 := congrArg Prod.snd hw
  subst g2
  subst g1
  refine v_perm perm_f.symm ?_
  refine v_icmp_s 1524 dL_law_214 rfl ?_
  refine v_widen (k2 := kR + 12) (n2 := nR + 140) (by omega) (by omega) ?_
  have hSF : SOK (qFeed f (xf (i + 1))).2 := SOK_feed hS
  have ez : zpA ta (qFeed f (xf (i + 1))).2 pl tu = zpA ta f pl tu := zpA_cf hS (qFeed_k hg4 (by omega) (by omega)) (fun j j0 j1 => qFeed_k hg4 (by omega) (by omega))
  rw [← ez]
  exact kk hi ((qFeed f (xf (i + 1))).2) g y3 sp sm sf sc bp bm fa0 tr ms0 pt0 po0 u0 u1 u2 u3 u4 u5 u6 by0 mtr kp mms mpt bd m v pv iv pv2 iv2 pl tu kpl ktu z0 z1 z2 z3 z4 z5 kn il (⟨hSF, PI_eq (qFeed_k hg4 (by omega) (by omega)) hP, WI_eq (qFeed_k hg4 (by omega) (by omega)) (fun j hj => qFeed_k hg4 (by omega) (by omega)) hI hg1.2, hrow, (RW_eq (fun j j0 j1 => qFeed_k hg4 (by omega) (by omega)) hR1), (RW_eq (fun j j0 j1 => qFeed_k hg4 (by omega) (by omega)) hR2), (RW_eq (fun j j0 j1 => qFeed_k hg4 (by omega) (by omega)) hR3), (RW_eq (fun j j0 j1 => qFeed_k hg4 (by omega) (by omega)) hR4), (RW_eq (fun j j0 j1 => qFeed_k hg4 (by omega) (by omega)) hR5), (RW_eq (fun j j0 j1 => qFeed_k hg4 (by omega) (by omega)) hR6)⟩) hKep hTr h3
theorem law_c1 {x : Cx} {mo kw pi ta ms pt po nw pls ins tap e3 e4 e5 e6 e7 e8 bar fa pls2 ins2 tap2 d3 d4 d5 d6 d7 d8 bar2 h : Nat} {ad : Nat → Nat} {b : Nat} {i : Int} {N : Nat} {xf : Int → Int} {kR nR : Nat} (hX : Sc x b N xf) (hi0 : 0 ≤ i) (hi7 : i + 7 ≤ N) (hN : N < 2147483648) (hb : ∀ j : Int, -2147483648 ≤ xf j ∧ xf j < 2147483648) (hk : kR + 24 ≤ 600000) (hn : nR + 280 ≤ 7302250) (kk : LwK x mo kw pi ta ms pt po nw pls ins tap e3 e4 e5 e6 e7 e8 bar fa pls2 ins2 tap2 d3 d4 d5 d6 d7 d8 bar2 h ad 1524 [(0, ar b), (1, ar mo), (2, ar h), (3, ai i)] (kR + 12) (nR + 140)) : LwK x mo kw pi ta ms pt po nw pls ins tap e3 e4 e5 e6 e7 e8 bar fa pls2 ins2 tap2 d3 d4 d5 d6 d7 d8 bar2 h ad 219 [(0, ar b), (1, ar mo), (2, ar h), (3, ai i)] kR nR := by
  intro hi f g tp sp sm sf sc bp bm fa0 tr ms0 pt0 po0 u0 u1 u2 u3 u4 u5 u6 by0 mtr kp mms mpt bd m v pv iv pv2 iv2 pl tu kpl ktu z0 z1 z2 z3 z4 z5 kn il hNow hKep hTr h3
  obtain ⟨hS, hP, hI, hR0, hR1, hR2, hR3, hR4, hR5, hR6⟩ := id hNow
  obtain ⟨hg0, hg1, hg2, hg3, hg4, -⟩ := id hS.1
  refine v_aload_n (i := 1) 1 rfl dL_law_219 ?_
  refine LC_X11_inn hS hR0 (Nat.le_of_ble_eq_true rfl) (by omega) (by omega) (fun iv3 nl hG => ?_)
  refine v_aload_n (i := 2) 2 rfl dL_law_223 ?_
  refine v_perm perm_f ?_
  refine LR_X12_inn hS  (Nat.le_of_ble_eq_true rfl) (by omega) (by omega) (fun w hw => ?_)
  obtain ⟨w1, w2⟩ := w
  have g2 : w2 = (qInn f).2 := hw.1.symm
  subst g2
  refine v_perm perm_f.symm ?_
  refine v_icmp_s 1524 dL_law_227 rfl ?_
  refine v_widen (k2 := kR + 12) (n2 := nR + 140) (by omega) (by omega) ?_
  have hSF : SOK (qInn f).2 := SOK_inn hS
  have h4 : (qInn f).2 4 = 0 ∨ (qInn f).2 = f := by
    by_cases c1 : f 1 = 5
    · exact Or.inr (by rw [qInn_0 c1])
    · by_cases c2 : inP f
      · exact Or.inl (by rw [qInn_p c1 c2]; dsimp only; rw [aup_n _ _ (by decide), aup_n _ _ (by decide)]; exact innF_4 hg1.1)
      · exact Or.inl (by rw [qInn_m c1 c2]; exact innF_4 hg1.1)
  have ez : zpA ta (qInn f).2 pl tu = zpA ta f pl tu := zpA_cf hS (qInn_k hg1.1 (by omega) (by omega) (by omega) (by omega)) (fun j j0 j1 => qInn_k hg1.1 (by omega) (by omega) (by omega) (by omega))
  rw [← ez]
  have v3e : w1 3 = v 3 := hw.2.1
  have v21e : w1 21 = v 21 := hw.2.2.2.2
  exact kk hi ((qInn f).2) g tp sp sm sf sc bp bm fa0 tr ms0 pt0 po0 u0 u1 u2 u3 u4 u5 u6 by0 mtr kp mms mpt bd m w1 pv iv3 pv2 iv2 pl tu kpl ktu z0 z1 z2 z3 z4 z5 kn (il ++ nl) (⟨hSF, PI_eq (qInn_k hg1.1 (by omega) (by omega) (by omega) (by omega)) hP, WI_inn hS hI hG, RW_eq (fun j j0 j1 => qInn_k hg1.1 (by omega) (by omega) (by omega) (by omega)) hR0, RW_eq (fun j j0 j1 => qInn_k hg1.1 (by omega) (by omega) (by omega) (by omega)) hR1, RW_eq (fun j j0 j1 => qInn_k hg1.1 (by omega) (by omega) (by omega) (by omega)) hR2, RW_eq (fun j j0 j1 => qInn_k hg1.1 (by omega) (by omega) (by omega) (by omega)) hR3, RW_eq (fun j j0 j1 => qInn_k hg1.1 (by omega) (by omega) (by omega) (by omega)) hR4, RW_eq (fun j j0 j1 => qInn_k hg1.1 (by omega) (by omega) (by omega) (by omega)) hR5, RW_eq (fun j j0 j1 => qInn_k hg1.1 (by omega) (by omega) (by omega) (by omega)) hR6⟩) (by rw [v3e]; exact (KepI_mono (fun q hq => List.mem_append_left _ hq) hKep)) (by rw [v21e]; exact hTr) (by rw [v3e]; exact h3)
theorem law_c2 {x : Cx} {mo kw pi ta ms pt po nw pls ins tap e3 e4 e5 e6 e7 e8 bar fa pls2 ins2 tap2 d3 d4 d5 d6 d7 d8 bar2 h : Nat} {ad : Nat → Nat} {b : Nat} {i : Int} {N : Nat} {xf : Int → Int} {kR nR : Nat} (hX : Sc x b N xf) (hi0 : 0 ≤ i) (hi7 : i + 7 ≤ N) (hN : N < 2147483648) (hb : ∀ j : Int, -2147483648 ≤ xf j ∧ xf j < 2147483648) (hk : kR + 24 ≤ 600000) (hn : nR + 280 ≤ 7302250) (kk : LwK x mo kw pi ta ms pt po nw pls ins tap e3 e4 e5 e6 e7 e8 bar fa pls2 ins2 tap2 d3 d4 d5 d6 d7 d8 bar2 h ad 1524 [(0, ar b), (1, ar mo), (2, ar h), (3, ai i)] (kR + 12) (nR + 140)) : LwK x mo kw pi ta ms pt po nw pls ins tap e3 e4 e5 e6 e7 e8 bar fa pls2 ins2 tap2 d3 d4 d5 d6 d7 d8 bar2 h ad 232 [(0, ar b), (1, ar mo), (2, ar h), (3, ai i)] kR nR := by
  intro hi f g tp sp sm sf sc bp bm fa0 tr ms0 pt0 po0 u0 u1 u2 u3 u4 u5 u6 by0 mtr kp mms mpt bd m v pv iv pv2 iv2 pl tu kpl ktu z0 z1 z2 z3 z4 z5 kn il hNow hKep hTr h3
  obtain ⟨hS, hP, hI, hR0, hR1, hR2, hR3, hR4, hR5, hR6⟩ := id hNow
  obtain ⟨hg0, hg1, hg2, hg3, hg4, -⟩ := id hS.1
  refine v_aload_n (i := 1) 1 rfl dL_law_232 ?_
  refine v_aload_n (i := 0) 0 rfl dL_law_233 ?_
  refine v_iload_n (i := 3) 3 rfl dL_law_234 ?_
  refine v_iconst dL_law_235 ?_
  refine v_iadd dL_law_236 ?_
  refine v_xald hX (by omega) (by omega) hN dL_law_237 ?_
  refine v_aload_n (i := 0) 0 rfl dL_law_238 ?_
  refine v_iload_n (i := 3) 3 rfl dL_law_239 ?_
  refine v_iconst dL_law_240 ?_
  refine v_iadd dL_law_241 ?_
  refine v_xald hX (by omega) (by omega) hN dL_law_242 ?_
  refine v_aload_n (i := 0) 0 rfl dL_law_243 ?_
  refine v_iload_n (i := 3) 3 rfl dL_law_244 ?_
  refine v_iconst dL_law_245 ?_
  refine v_iadd dL_law_246 ?_
  refine v_xald hX (by omega) (by omega) hN dL_law_247 ?_
  refine v_aload_n (i := 0) 0 rfl dL_law_248 ?_
  refine v_iload_n (i := 3) 3 rfl dL_law_249 ?_
  refine v_iconst dL_law_250 ?_
  refine v_iadd dL_law_251 ?_
  refine v_xald hX (by omega) (by omega) hN dL_law_252 ?_
  refine v_aload_n (i := 0) 0 rfl dL_law_253 ?_
  refine v_iload_n (i := 3) 3 rfl dL_law_254 ?_
  refine v_iconst dL_law_255 ?_
  refine v_iadd dL_law_256 ?_
  refine v_xald hX (by omega) (by omega) hN dL_law_257 ?_
  refine LC_X11_player hS hP (hb _) (hb _) (hb _) (hb _) (hb _) (Nat.le_of_ble_eq_true rfl) (by omega) (by omega) (fun pv3 pl3 tu3 hP3 => ?_)
  refine v_aload_n (i := 2) 2 rfl dL_law_261 ?_
  refine v_aload_n (i := 0) 0 rfl dL_law_262 ?_
  refine v_iload_n (i := 3) 3 rfl dL_law_263 ?_
  refine v_iconst dL_law_264 ?_
  refine v_iadd dL_law_265 ?_
  refine v_xald hX (by omega) (by omega) hN dL_law_266 ?_
  refine v_aload_n (i := 0) 0 rfl dL_law_267 ?_
  refine v_iload_n (i := 3) 3 rfl dL_law_268 ?_
  refine v_iconst dL_law_269 ?_
  refine v_iadd dL_law_270 ?_
  refine v_xald hX (by omega) (by omega) hN dL_law_271 ?_
  refine v_aload_n (i := 0) 0 rfl dL_law_272 ?_
  refine v_iload_n (i := 3) 3 rfl dL_law_273 ?_
  refine v_iconst dL_law_274 ?_
  refine v_iadd dL_law_275 ?_
  refine v_xald hX (by omega) (by omega) hN dL_law_276 ?_
  refine v_aload_n (i := 0) 0 rfl dL_law_277 ?_
  refine v_iload_n (i := 3) 3 rfl dL_law_278 ?_
  refine v_iconst dL_law_279 ?_
  refine v_iadd dL_law_280 ?_
  refine v_xald hX (by omega) (by omega) hN dL_law_281 ?_
  refine v_aload_n (i := 0) 0 rfl dL_law_282 ?_
  refine v_iload_n (i := 3) 3 rfl dL_law_283 ?_
  refine v_iconst dL_law_284 ?_
  refine v_iadd dL_law_285 ?_
  refine v_xald hX (by omega) (by omega) hN dL_law_286 ?_
  refine v_perm perm_f ?_
  refine LR_X12_player hS (hb _) (hb _) (hb _) (hb _) (hb _) (Nat.le_of_ble_eq_true rfl) (by omega) (by omega) (fun w hw => ?_)
  obtain ⟨w1, w2⟩ := w
  have g1 : w1 = (qPlayer f (xf (i + 1)) (xf (i + 2)) (xf (i + 3)) (xf (i + 4)) (xf (i + 5))).1 := congrArg Prod.fst hw
  have g2 : w2 = (qPlayer f (xf (i + 1)) (xf (i + 2)) (xf (i + 3)) (xf (i + 4)) (xf (i + 5))).2 := congrArg Prod.snd hw
  subst g2
  subst g1
  refine v_perm perm_f.symm ?_
  refine v_icmp_s 1524 dL_law_290 rfl ?_
  refine v_widen (k2 := kR + 12) (n2 := nR + 140) (by omega) (by omega) ?_
  have hSF : SOK (qPlayer f (xf (i + 1)) (xf (i + 2)) (xf (i + 3)) (xf (i + 4)) (xf (i + 5))).2 := SOK_player hS
  exact kk hi ((qPlayer f (xf (i + 1)) (xf (i + 2)) (xf (i + 3)) (xf (i + 4)) (xf (i + 5))).2) g tp sp sm sf sc bp bm fa0 tr ms0 pt0 po0 u0 u1 u2 u3 u4 u5 u6 by0 mtr kp mms mpt bd m v pv3 iv pv2 iv2 pl3 tu3 kpl ktu z0 z1 z2 z3 z4 z5 kn il (⟨hSF, hP3, WI_eq (qPlayer_k hg0 (by omega) (by omega)) (fun j hj => qPlayer_k hg0 (by omega) (by omega)) hI hg1.2, RW_eq (fun j j0 j1 => qPlayer_k hg0 (by omega) (by omega)) hR0, RW_eq (fun j j0 j1 => qPlayer_k hg0 (by omega) (by omega)) hR1, RW_eq (fun j j0 j1 => qPlayer_k hg0 (by omega) (by omega)) hR2, RW_eq (fun j j0 j1 => qPlayer_k hg0 (by omega) (by omega)) hR3, RW_eq (fun j j0 j1 => qPlayer_k hg0 (by omega) (by omega)) hR4, RW_eq (fun j j0 j1 => qPlayer_k hg0 (by omega) (by omega)) hR5, RW_eq (fun j j0 j1 => qPlayer_k hg0 (by omega) (by omega)) hR6⟩) hKep hTr h3
theorem law_c3 {x : Cx} {mo kw pi ta ms pt po nw pls ins tap e3 e4 e5 e6 e7 e8 bar fa pls2 ins2 tap2 d3 d4 d5 d6 d7 d8 bar2 h : Nat} {ad : Nat → Nat} {b : Nat} {i : Int} {N : Nat} {xf : Int → Int} {kR nR : Nat} (hX : Sc x b N xf) (hi0 : 0 ≤ i) (hi7 : i + 7 ≤ N) (hN : N < 2147483648) (hb : ∀ j : Int, -2147483648 ≤ xf j ∧ xf j < 2147483648) (hk : kR + 24 ≤ 600000) (hn : nR + 280 ≤ 7302250) (kk : LwK x mo kw pi ta ms pt po nw pls ins tap e3 e4 e5 e6 e7 e8 bar fa pls2 ins2 tap2 d3 d4 d5 d6 d7 d8 bar2 h ad 1524 [(0, ar b), (1, ar mo), (2, ar h), (3, ai i)] (kR + 12) (nR + 140)) : LwK x mo kw pi ta ms pt po nw pls ins tap e3 e4 e5 e6 e7 e8 bar fa pls2 ins2 tap2 d3 d4 d5 d6 d7 d8 bar2 h ad 295 [(0, ar b), (1, ar mo), (2, ar h), (3, ai i)] kR nR := by
  intro hi f g tp sp sm sf sc bp bm fa0 tr ms0 pt0 po0 u0 u1 u2 u3 u4 u5 u6 by0 mtr kp mms mpt bd m v pv iv pv2 iv2 pl tu kpl ktu z0 z1 z2 z3 z4 z5 kn il hNow hKep hTr h3
  obtain ⟨hS, hP, hI, hR0, hR1, hR2, hR3, hR4, hR5, hR6⟩ := id hNow
  obtain ⟨hg0, hg1, hg2, hg3, hg4, -⟩ := id hS.1
  refine v_aload_n (i := 1) 1 rfl dL_law_295 ?_
  refine v_aload_n (i := 0) 0 rfl dL_law_296 ?_
  refine v_iload_n (i := 3) 3 rfl dL_law_297 ?_
  refine v_iconst dL_law_298 ?_
  refine v_iadd dL_law_299 ?_
  refine v_xald hX (by omega) (by omega) hN dL_law_300 ?_
  refine v_aload_n (i := 0) 0 rfl dL_law_301 ?_
  refine v_iload_n (i := 3) 3 rfl dL_law_302 ?_
  refine v_iconst dL_law_303 ?_
  refine v_iadd dL_law_304 ?_
  refine v_xald hX (by omega) (by omega) hN dL_law_305 ?_
  refine LC_X11_of hS hP (hb _) (hb _) (Nat.le_of_ble_eq_true rfl) (by omega) (by omega) (fun _ => ?_)
  refine v_aload_n (i := 2) 2 rfl dL_law_309 ?_
  refine v_aload_n (i := 0) 0 rfl dL_law_310 ?_
  refine v_iload_n (i := 3) 3 rfl dL_law_311 ?_
  refine v_iconst dL_law_312 ?_
  refine v_iadd dL_law_313 ?_
  refine v_xald hX (by omega) (by omega) hN dL_law_314 ?_
  refine v_aload_n (i := 0) 0 rfl dL_law_315 ?_
  refine v_iload_n (i := 3) 3 rfl dL_law_316 ?_
  refine v_iconst dL_law_317 ?_
  refine v_iadd dL_law_318 ?_
  refine v_xald hX (by omega) (by omega) hN dL_law_319 ?_
  refine v_perm perm_f ?_
  refine LR_X12_of hS (hb _) (hb _) (Nat.le_of_ble_eq_true rfl) (by omega) (by omega) (fun _ => ?_)
  refine v_perm perm_f.symm ?_
  refine v_icmp_s 1524 dL_law_323 rfl ?_
  refine v_widen (k2 := kR + 12) (n2 := nR + 140) (by omega) (by omega) ?_
  exact kk hi f g tp sp sm sf sc bp bm fa0 tr ms0 pt0 po0 u0 u1 u2 u3 u4 u5 u6 by0 mtr kp mms mpt bd m v pv iv pv2 iv2 pl tu kpl ktu z0 z1 z2 z3 z4 z5 kn il (hNow) hKep hTr h3
theorem law_c4 {x : Cx} {mo kw pi ta ms pt po nw pls ins tap e3 e4 e5 e6 e7 e8 bar fa pls2 ins2 tap2 d3 d4 d5 d6 d7 d8 bar2 h : Nat} {ad : Nat → Nat} {b : Nat} {i : Int} {N : Nat} {xf : Int → Int} {kR nR : Nat} (hX : Sc x b N xf) (hi0 : 0 ≤ i) (hi7 : i + 7 ≤ N) (hN : N < 2147483648) (hb : ∀ j : Int, -2147483648 ≤ xf j ∧ xf j < 2147483648) (hk : kR + 24 ≤ 600000) (hn : nR + 280 ≤ 7302250) (kk : LwK x mo kw pi ta ms pt po nw pls ins tap e3 e4 e5 e6 e7 e8 bar fa pls2 ins2 tap2 d3 d4 d5 d6 d7 d8 bar2 h ad 1524 [(0, ar b), (1, ar mo), (2, ar h), (3, ai i)] (kR + 12) (nR + 140)) : LwK x mo kw pi ta ms pt po nw pls ins tap e3 e4 e5 e6 e7 e8 bar fa pls2 ins2 tap2 d3 d4 d5 d6 d7 d8 bar2 h ad 328 [(0, ar b), (1, ar mo), (2, ar h), (3, ai i)] kR nR := by
  intro hi f g tp sp sm sf sc bp bm fa0 tr ms0 pt0 po0 u0 u1 u2 u3 u4 u5 u6 by0 mtr kp mms mpt bd m v pv iv pv2 iv2 pl tu kpl ktu z0 z1 z2 z3 z4 z5 kn il hNow hKep hTr h3
  obtain ⟨hS, hP, hI, hR0, hR1, hR2, hR3, hR4, hR5, hR6⟩ := id hNow
  obtain ⟨hg0, hg1, hg2, hg3, hg4, -⟩ := id hS.1
  refine v_aload_n (i := 1) 1 rfl dL_law_328 ?_
  refine v_aload_n (i := 0) 0 rfl dL_law_329 ?_
  refine v_iload_n (i := 3) 3 rfl dL_law_330 ?_
  refine v_iconst dL_law_331 ?_
  refine v_iadd dL_law_332 ?_
  refine v_xald hX (by omega) (by omega) hN dL_law_333 ?_
  refine v_aload_n (i := 0) 0 rfl dL_law_334 ?_
  refine v_iload_n (i := 3) 3 rfl dL_law_335 ?_
  refine v_iconst dL_law_336 ?_
  refine v_iadd dL_law_337 ?_
  refine v_xald hX (by omega) (by omega) hN dL_law_338 ?_
  refine v_aload_n (i := 0) 0 rfl dL_law_339 ?_
  refine v_iload_n (i := 3) 3 rfl dL_law_340 ?_
  refine v_iconst dL_law_341 ?_
  refine v_iadd dL_law_342 ?_
  refine v_xald hX (by omega) (by omega) hN dL_law_343 ?_
  refine LC_X11_set hS hP (hb _) (hb _) (hb _) (Nat.le_of_ble_eq_true rfl) (by omega) (by omega) ?_
  refine v_aload_n (i := 2) 2 rfl dL_law_347 ?_
  refine v_aload_n (i := 0) 0 rfl dL_law_348 ?_
  refine v_iload_n (i := 3) 3 rfl dL_law_349 ?_
  refine v_iconst dL_law_350 ?_
  refine v_iadd dL_law_351 ?_
  refine v_xald hX (by omega) (by omega) hN dL_law_352 ?_
  refine v_aload_n (i := 0) 0 rfl dL_law_353 ?_
  refine v_iload_n (i := 3) 3 rfl dL_law_354 ?_
  refine v_iconst dL_law_355 ?_
  refine v_iadd dL_law_356 ?_
  refine v_xald hX (by omega) (by omega) hN dL_law_357 ?_
  refine v_aload_n (i := 0) 0 rfl dL_law_358 ?_
  refine v_iload_n (i := 3) 3 rfl dL_law_359 ?_
  refine v_iconst dL_law_360 ?_
  refine v_iadd dL_law_361 ?_
  refine v_xald hX (by omega) (by omega) hN dL_law_362 ?_
  refine v_perm perm_f ?_
  refine LR_X12_set hS (hb _) (hb _) (hb _) (Nat.le_of_ble_eq_true rfl) (by omega) (by omega) (fun w hw => ?_)
  obtain ⟨w1, w2⟩ := w
  have g1 : w1 = (qSet f (xf (i + 1)) (xf (i + 2)) (xf (i + 3))).1 := congrArg Prod.fst hw
  have g2 : w2 = (qSet f (xf (i + 1)) (xf (i + 2)) (xf (i + 3))).2 := congrArg Prod.snd hw
  subst g2
  subst g1
  refine v_perm perm_f.symm ?_
  refine v_icmp_s 1524 dL_law_366 rfl ?_
  refine v_widen (k2 := kR + 12) (n2 := nR + 140) (by omega) (by omega) ?_
  have kF : ∀ j : Int, j = 0 ∨ j = 1 ∨ j = 2 ∨ j = 3 ∨ j = 4 ∨ j = 6 ∨ 73 ≤ j → (qSet f (xf (i + 1)) (xf (i + 2)) (xf (i + 3))).2 j = f j := fun j hj => by
    by_cases zp : 0 ≤ (xf (i + 1)) ∧ (xf (i + 1)) ≤ f 0 - 1
    · exact qSet_k (by omega) (by omega) (by omega)
    · rw [show qSet f (xf (i + 1)) (xf (i + 2)) (xf (i + 3)) = (-1, f) from if_pos (fun z => zp z.1)]
  have hSF : SOK (qSet f (xf (i + 1)) (xf (i + 2)) (xf (i + 3))).2 := SOK_set hS
  have en : (co 10 [ar pls, ar ins, ar tap, ar e3, ar e4, ar e5, ar e6, ar e7, ar e8, ai ((qSet f (xf (i + 1)) (xf (i + 2)) (xf (i + 3))).2 0), ai ((qSet f (xf (i + 1)) (xf (i + 2)) (xf (i + 3))).2 1), ai ((qSet f (xf (i + 1)) (xf (i + 2)) (xf (i + 3))).2 4), ai ((qSet f (xf (i + 1)) (xf (i + 2)) (xf (i + 3))).2 2), ai ((qSet f (xf (i + 1)) (xf (i + 2)) (xf (i + 3))).2 3), ai ((qSet f (xf (i + 1)) (xf (i + 2)) (xf (i + 3))).2 6), ar bar] : aC) = co 10 [ar pls, ar ins, ar tap, ar e3, ar e4, ar e5, ar e6, ar e7, ar e8, ai (f 0), ai (f 1), ai (f 4), ai (f 2), ai (f 3), ai (f 6), ar bar] := by rw [kF 0 (by omega), kF 1 (by omega), kF 2 (by omega), kF 3 (by omega), kF 4 (by omega), kF 6 (by omega)]
  rw [← en]
  exact kk hi ((qSet f (xf (i + 1)) (xf (i + 2)) (xf (i + 3))).2) g tp sp sm sf sc bp bm fa0 tr ms0 pt0 po0 u0 u1 u2 u3 u4 u5 u6 by0 mtr kp mms mpt bd m v pv iv pv2 iv2 pl tu kpl ktu z0 z1 z2 z3 z4 z5 kn il ((NowI_set hNow hSF (fun j hj => kF j (by omega)))) hKep hTr h3
theorem law_c5 {x : Cx} {mo kw pi ta ms pt po nw pls ins tap e3 e4 e5 e6 e7 e8 bar fa pls2 ins2 tap2 d3 d4 d5 d6 d7 d8 bar2 h : Nat} {ad : Nat → Nat} {b : Nat} {i : Int} {N : Nat} {xf : Int → Int} {kR nR : Nat} (hX : Sc x b N xf) (hi0 : 0 ≤ i) (hi7 : i + 7 ≤ N) (hN : N < 2147483648) (hb : ∀ j : Int, -2147483648 ≤ xf j ∧ xf j < 2147483648) (hk : kR + 24 ≤ 600000) (hn : nR + 280 ≤ 7302250) (kk : LwK x mo kw pi ta ms pt po nw pls ins tap e3 e4 e5 e6 e7 e8 bar fa pls2 ins2 tap2 d3 d4 d5 d6 d7 d8 bar2 h ad 1524 [(0, ar b), (1, ar mo), (2, ar h), (3, ai i)] (kR + 12) (nR + 140)) : LwK x mo kw pi ta ms pt po nw pls ins tap e3 e4 e5 e6 e7 e8 bar fa pls2 ins2 tap2 d3 d4 d5 d6 d7 d8 bar2 h ad 371 [(0, ar b), (1, ar mo), (2, ar h), (3, ai i)] kR nR := by
  intro hi f g tp sp sm sf sc bp bm fa0 tr ms0 pt0 po0 u0 u1 u2 u3 u4 u5 u6 by0 mtr kp mms mpt bd m v pv iv pv2 iv2 pl tu kpl ktu z0 z1 z2 z3 z4 z5 kn il hNow hKep hTr h3
  obtain ⟨hS, hP, hI, hR0, hR1, hR2, hR3, hR4, hR5, hR6⟩ := id hNow
  obtain ⟨hg0, hg1, hg2, hg3, hg4, -⟩ := id hS.1
  refine v_aload_n (i := 1) 1 rfl dL_law_371 ?_
  refine v_aload_n (i := 0) 0 rfl dL_law_372 ?_
  refine v_iload_n (i := 3) 3 rfl dL_law_373 ?_
  refine v_iconst dL_law_374 ?_
  refine v_iadd dL_law_375 ?_
  refine v_xald hX (by omega) (by omega) hN dL_law_376 ?_
  refine v_aload_n (i := 0) 0 rfl dL_law_377 ?_
  refine v_iload_n (i := 3) 3 rfl dL_law_378 ?_
  refine v_iconst dL_law_379 ?_
  refine v_iadd dL_law_380 ?_
  refine v_xald hX (by omega) (by omega) hN dL_law_381 ?_
  refine v_aload_n (i := 0) 0 rfl dL_law_382 ?_
  refine v_iload_n (i := 3) 3 rfl dL_law_383 ?_
  refine v_iconst dL_law_384 ?_
  refine v_iadd dL_law_385 ?_
  refine v_xald hX (by omega) (by omega) hN dL_law_386 ?_
  refine LC_X11_row hS hP (hb _) (hb _) (hb _) (Nat.le_of_ble_eq_true rfl) (by omega) (by omega) ?_
  refine v_aload_n (i := 2) 2 rfl dL_law_390 ?_
  refine v_aload_n (i := 0) 0 rfl dL_law_391 ?_
  refine v_iload_n (i := 3) 3 rfl dL_law_392 ?_
  refine v_iconst dL_law_393 ?_
  refine v_iadd dL_law_394 ?_
  refine v_xald hX (by omega) (by omega) hN dL_law_395 ?_
  refine v_aload_n (i := 0) 0 rfl dL_law_396 ?_
  refine v_iload_n (i := 3) 3 rfl dL_law_397 ?_
  refine v_iconst dL_law_398 ?_
  refine v_iadd dL_law_399 ?_
  refine v_xald hX (by omega) (by omega) hN dL_law_400 ?_
  refine v_aload_n (i := 0) 0 rfl dL_law_401 ?_
  refine v_iload_n (i := 3) 3 rfl dL_law_402 ?_
  refine v_iconst dL_law_403 ?_
  refine v_iadd dL_law_404 ?_
  refine v_xald hX (by omega) (by omega) hN dL_law_405 ?_
  refine v_perm perm_f ?_
  refine LR_X12_row hS (hb _) (hb _) (hb _) (Nat.le_of_ble_eq_true rfl) (by omega) (by omega) (fun w hw => ?_)
  obtain ⟨w1, w2⟩ := w
  have g1 : w1 = (qRow f (xf (i + 1)) (xf (i + 2)) (xf (i + 3))).1 := congrArg Prod.fst hw
  have g2 : w2 = (qRow f (xf (i + 1)) (xf (i + 2)) (xf (i + 3))).2 := congrArg Prod.snd hw
  subst g2
  subst g1
  refine v_perm perm_f.symm ?_
  refine v_icmp_s 1524 dL_law_409 rfl ?_
  refine v_widen (k2 := kR + 12) (n2 := nR + 140) (by omega) (by omega) ?_
  have kF : ∀ j : Int, j = 0 ∨ j = 1 ∨ j = 2 ∨ j = 3 ∨ j = 4 ∨ j = 6 ∨ 73 ≤ j → (qRow f (xf (i + 1)) (xf (i + 2)) (xf (i + 3))).2 j = f j := fun j hj => by
    by_cases zp : 0 ≤ (xf (i + 1)) ∧ (xf (i + 1)) ≤ f 0 - 1
    · exact qRow_k (by omega)
    · rw [qRow_o (Or.inl zp)]
  have hSF : SOK (qRow f (xf (i + 1)) (xf (i + 2)) (xf (i + 3))).2 := SOK_row hS
  have en : (co 10 [ar pls, ar ins, ar tap, ar e3, ar e4, ar e5, ar e6, ar e7, ar e8, ai ((qRow f (xf (i + 1)) (xf (i + 2)) (xf (i + 3))).2 0), ai ((qRow f (xf (i + 1)) (xf (i + 2)) (xf (i + 3))).2 1), ai ((qRow f (xf (i + 1)) (xf (i + 2)) (xf (i + 3))).2 4), ai ((qRow f (xf (i + 1)) (xf (i + 2)) (xf (i + 3))).2 2), ai ((qRow f (xf (i + 1)) (xf (i + 2)) (xf (i + 3))).2 3), ai ((qRow f (xf (i + 1)) (xf (i + 2)) (xf (i + 3))).2 6), ar bar] : aC) = co 10 [ar pls, ar ins, ar tap, ar e3, ar e4, ar e5, ar e6, ar e7, ar e8, ai (f 0), ai (f 1), ai (f 4), ai (f 2), ai (f 3), ai (f 6), ar bar] := by rw [kF 0 (by omega), kF 1 (by omega), kF 2 (by omega), kF 3 (by omega), kF 4 (by omega), kF 6 (by omega)]
  rw [← en]
  exact kk hi ((qRow f (xf (i + 1)) (xf (i + 2)) (xf (i + 3))).2) g tp sp sm sf sc bp bm fa0 tr ms0 pt0 po0 u0 u1 u2 u3 u4 u5 u6 by0 mtr kp mms mpt bd m v pv iv pv2 iv2 pl tu kpl ktu z0 z1 z2 z3 z4 z5 kn il ((NowI_set hNow hSF (fun j hj => kF j (by omega)))) hKep hTr h3
theorem law_c6 {x : Cx} {mo kw pi ta ms pt po nw pls ins tap e3 e4 e5 e6 e7 e8 bar fa pls2 ins2 tap2 d3 d4 d5 d6 d7 d8 bar2 h : Nat} {ad : Nat → Nat} {b : Nat} {i : Int} {N : Nat} {xf : Int → Int} {kR nR : Nat} (hX : Sc x b N xf) (hi0 : 0 ≤ i) (hi7 : i + 7 ≤ N) (hN : N < 2147483648) (hb : ∀ j : Int, -2147483648 ≤ xf j ∧ xf j < 2147483648) (hk : kR + 24 ≤ 600000) (hn : nR + 280 ≤ 7302250) (kk : LwK x mo kw pi ta ms pt po nw pls ins tap e3 e4 e5 e6 e7 e8 bar fa pls2 ins2 tap2 d3 d4 d5 d6 d7 d8 bar2 h ad 1524 [(0, ar b), (1, ar mo), (2, ar h), (3, ai i)] (kR + 12) (nR + 140)) : LwK x mo kw pi ta ms pt po nw pls ins tap e3 e4 e5 e6 e7 e8 bar fa pls2 ins2 tap2 d3 d4 d5 d6 d7 d8 bar2 h ad 414 [(0, ar b), (1, ar mo), (2, ar h), (3, ai i)] kR nR := by
  intro hi f g tp sp sm sf sc bp bm fa0 tr ms0 pt0 po0 u0 u1 u2 u3 u4 u5 u6 by0 mtr kp mms mpt bd m v pv iv pv2 iv2 pl tu kpl ktu z0 z1 z2 z3 z4 z5 kn il hNow hKep hTr h3
  obtain ⟨hS, hP, hI, hR0, hR1, hR2, hR3, hR4, hR5, hR6⟩ := id hNow
  obtain ⟨hg0, hg1, hg2, hg3, hg4, -⟩ := id hS.1
  refine v_aload_n (i := 1) 1 rfl dL_law_414 ?_
  refine v_aload_n (i := 0) 0 rfl dL_law_415 ?_
  refine v_iload_n (i := 3) 3 rfl dL_law_416 ?_
  refine v_iconst dL_law_417 ?_
  refine v_iadd dL_law_418 ?_
  refine v_xald hX (by omega) (by omega) hN dL_law_419 ?_
  refine LC_X11_told hS hI (hb _) (Nat.le_of_ble_eq_true rfl) (by omega) (by omega) (fun _ => ?_)
  refine v_aload_n (i := 2) 2 rfl dL_law_423 ?_
  refine v_aload_n (i := 0) 0 rfl dL_law_424 ?_
  refine v_iload_n (i := 3) 3 rfl dL_law_425 ?_
  refine v_iconst dL_law_426 ?_
  refine v_iadd dL_law_427 ?_
  refine v_xald hX (by omega) (by omega) hN dL_law_428 ?_
  refine v_perm perm_f ?_
  refine LR_X12_told hS (hb _) (Nat.le_of_ble_eq_true rfl) (by omega) (by omega) (fun _ => ?_)
  refine v_perm perm_f.symm ?_
  refine v_icmp_s 1524 dL_law_432 rfl ?_
  refine v_widen (k2 := kR + 12) (n2 := nR + 140) (by omega) (by omega) ?_
  exact kk hi f g tp sp sm sf sc bp bm fa0 tr ms0 pt0 po0 u0 u1 u2 u3 u4 u5 u6 by0 mtr kp mms mpt bd m v pv iv pv2 iv2 pl tu kpl ktu z0 z1 z2 z3 z4 z5 kn il (hNow) hKep hTr h3
theorem law_c7 {x : Cx} {mo kw pi ta ms pt po nw pls ins tap e3 e4 e5 e6 e7 e8 bar fa pls2 ins2 tap2 d3 d4 d5 d6 d7 d8 bar2 h : Nat} {ad : Nat → Nat} {b : Nat} {i : Int} {N : Nat} {xf : Int → Int} {kR nR : Nat} (hX : Sc x b N xf) (hi0 : 0 ≤ i) (hi7 : i + 7 ≤ N) (hN : N < 2147483648) (hb : ∀ j : Int, -2147483648 ≤ xf j ∧ xf j < 2147483648) (hk : kR + 24 ≤ 600000) (hn : nR + 280 ≤ 7302250) (kk : LwK x mo kw pi ta ms pt po nw pls ins tap e3 e4 e5 e6 e7 e8 bar fa pls2 ins2 tap2 d3 d4 d5 d6 d7 d8 bar2 h ad 1524 [(0, ar b), (1, ar mo), (2, ar h), (3, ai i)] (kR + 12) (nR + 140)) : LwK x mo kw pi ta ms pt po nw pls ins tap e3 e4 e5 e6 e7 e8 bar fa pls2 ins2 tap2 d3 d4 d5 d6 d7 d8 bar2 h ad 437 [(0, ar b), (1, ar mo), (2, ar h), (3, ai i)] kR nR := by
  intro hi f g tp sp sm sf sc bp bm fa0 tr ms0 pt0 po0 u0 u1 u2 u3 u4 u5 u6 by0 mtr kp mms mpt bd m v pv iv pv2 iv2 pl tu kpl ktu z0 z1 z2 z3 z4 z5 kn il hNow hKep hTr h3
  obtain ⟨hS, hP, hI, hR0, hR1, hR2, hR3, hR4, hR5, hR6⟩ := id hNow
  obtain ⟨hg0, hg1, hg2, hg3, hg4, -⟩ := id hS.1
  refine v_aload_n (i := 1) 1 rfl dL_law_437 ?_
  refine v_aload_n (i := 0) 0 rfl dL_law_438 ?_
  refine v_iload_n (i := 3) 3 rfl dL_law_439 ?_
  refine v_iconst dL_law_440 ?_
  refine v_iadd dL_law_441 ?_
  refine v_xald hX (by omega) (by omega) hN dL_law_442 ?_
  refine v_aload_n (i := 0) 0 rfl dL_law_443 ?_
  refine v_iload_n (i := 3) 3 rfl dL_law_444 ?_
  refine v_iconst dL_law_445 ?_
  refine v_iadd dL_law_446 ?_
  refine v_xald hX (by omega) (by omega) hN dL_law_447 ?_
  refine v_aload_n (i := 0) 0 rfl dL_law_448 ?_
  refine v_iload_n (i := 3) 3 rfl dL_law_449 ?_
  refine v_iconst dL_law_450 ?_
  refine v_iadd dL_law_451 ?_
  refine v_xald hX (by omega) (by omega) hN dL_law_452 ?_
  refine v_aload_n (i := 0) 0 rfl dL_law_453 ?_
  refine v_iload_n (i := 3) 3 rfl dL_law_454 ?_
  refine v_iconst dL_law_455 ?_
  refine v_iadd dL_law_456 ?_
  refine v_xald hX (by omega) (by omega) hN dL_law_457 ?_
  refine LC_X11_pile hS hI hP (hb _) (hb _) (hb _) (hb _) (Nat.le_of_ble_eq_true rfl) (by omega) (by omega) (fun u => ?_)
  refine v_aload_n (i := 2) 2 rfl dL_law_461 ?_
  refine v_aload_n (i := 0) 0 rfl dL_law_462 ?_
  refine v_iload_n (i := 3) 3 rfl dL_law_463 ?_
  refine v_iconst dL_law_464 ?_
  refine v_iadd dL_law_465 ?_
  refine v_xald hX (by omega) (by omega) hN dL_law_466 ?_
  refine v_aload_n (i := 0) 0 rfl dL_law_467 ?_
  refine v_iload_n (i := 3) 3 rfl dL_law_468 ?_
  refine v_iconst dL_law_469 ?_
  refine v_iadd dL_law_470 ?_
  refine v_xald hX (by omega) (by omega) hN dL_law_471 ?_
  refine v_aload_n (i := 0) 0 rfl dL_law_472 ?_
  refine v_iload_n (i := 3) 3 rfl dL_law_473 ?_
  refine v_iconst dL_law_474 ?_
  refine v_iadd dL_law_475 ?_
  refine v_xald hX (by omega) (by omega) hN dL_law_476 ?_
  refine v_aload_n (i := 0) 0 rfl dL_law_477 ?_
  refine v_iload_n (i := 3) 3 rfl dL_law_478 ?_
  refine v_iconst dL_law_479 ?_
  refine v_iadd dL_law_480 ?_
  refine v_xald hX (by omega) (by omega) hN dL_law_481 ?_
  refine v_perm perm_f ?_
  refine LR_X12_pile hS (hb _) (hb _) (hb _) (hb _) (Nat.le_of_ble_eq_true rfl) (by omega) (by omega) (fun w hw => ?_)
  refine v_perm perm_f.symm ?_
  refine v_icmp_s 1524 dL_law_485 rfl ?_
  refine v_widen (k2 := kR + 12) (n2 := nR + 140) (by omega) (by omega) ?_
  have v3e : w.1 3 = v 3 := hw.1
  have v21e : w.1 21 = v 21 := hw.2.2.2
  exact kk hi f g tp sp sm sf sc bp bm u.2 tr ms0 pt0 po0 u0 u1 u2 u3 u4 u5 u6 w.2.1 w.2.2 kp mms mpt bd u.1 w.1 pv iv pv2 iv2 pl tu kpl ktu z0 z1 z2 z3 z4 z5 kn il (hNow) (by rw [v3e]; exact hKep) (by rw [v21e]; exact hTr) (by rw [v3e]; exact h3)
theorem law_c8 {x : Cx} {mo kw pi ta ms pt po nw pls ins tap e3 e4 e5 e6 e7 e8 bar fa pls2 ins2 tap2 d3 d4 d5 d6 d7 d8 bar2 h : Nat} {ad : Nat → Nat} {b : Nat} {i : Int} {N : Nat} {xf : Int → Int} {kR nR : Nat} (hX : Sc x b N xf) (hi0 : 0 ≤ i) (hi7 : i + 7 ≤ N) (hN : N < 2147483648) (hb : ∀ j : Int, -2147483648 ≤ xf j ∧ xf j < 2147483648) (hk : kR + 24 ≤ 600000) (hn : nR + 280 ≤ 7302250) (kk : LwK x mo kw pi ta ms pt po nw pls ins tap e3 e4 e5 e6 e7 e8 bar fa pls2 ins2 tap2 d3 d4 d5 d6 d7 d8 bar2 h ad 1524 [(0, ar b), (1, ar mo), (2, ar h), (3, ai i)] (kR + 12) (nR + 140)) : LwK x mo kw pi ta ms pt po nw pls ins tap e3 e4 e5 e6 e7 e8 bar fa pls2 ins2 tap2 d3 d4 d5 d6 d7 d8 bar2 h ad 490 [(0, ar b), (1, ar mo), (2, ar h), (3, ai i)] kR nR := by
  intro hi f g tp sp sm sf sc bp bm fa0 tr ms0 pt0 po0 u0 u1 u2 u3 u4 u5 u6 by0 mtr kp mms mpt bd m v pv iv pv2 iv2 pl tu kpl ktu z0 z1 z2 z3 z4 z5 kn il hNow hKep hTr h3
  obtain ⟨hS, hP, hI, hR0, hR1, hR2, hR3, hR4, hR5, hR6⟩ := id hNow
  obtain ⟨hg0, hg1, hg2, hg3, hg4, -⟩ := id hS.1
  refine v_aload_n (i := 1) 1 rfl dL_law_490 ?_
  refine v_aload_n (i := 0) 0 rfl dL_law_491 ?_
  refine v_iload_n (i := 3) 3 rfl dL_law_492 ?_
  refine v_iconst dL_law_493 ?_
  refine v_iadd dL_law_494 ?_
  refine v_xald hX (by omega) (by omega) hN dL_law_495 ?_
  refine v_aload_n (i := 0) 0 rfl dL_law_496 ?_
  refine v_iload_n (i := 3) 3 rfl dL_law_497 ?_
  refine v_iconst dL_law_498 ?_
  refine v_iadd dL_law_499 ?_
  refine v_xald hX (by omega) (by omega) hN dL_law_500 ?_
  refine v_aload_n (i := 0) 0 rfl dL_law_501 ?_
  refine v_iload_n (i := 3) 3 rfl dL_law_502 ?_
  refine v_iconst dL_law_503 ?_
  refine v_iadd dL_law_504 ?_
  refine v_xald hX (by omega) (by omega) hN dL_law_505 ?_
  refine v_aload_n (i := 0) 0 rfl dL_law_506 ?_
  refine v_iload_n (i := 3) 3 rfl dL_law_507 ?_
  refine v_iconst dL_law_508 ?_
  refine v_iadd dL_law_509 ?_
  refine v_xald hX (by omega) (by omega) hN dL_law_510 ?_
  refine LC_X11_would hS hI hP (hb _) (hb _) (hb _) (hb _) (Nat.le_of_ble_eq_true rfl) (by omega) (by omega) (fun u => ?_)
  refine v_aload_n (i := 2) 2 rfl dL_law_514 ?_
  refine v_aload_n (i := 0) 0 rfl dL_law_515 ?_
  refine v_iload_n (i := 3) 3 rfl dL_law_516 ?_
  refine v_iconst dL_law_517 ?_
  refine v_iadd dL_law_518 ?_
  refine v_xald hX (by omega) (by omega) hN dL_law_519 ?_
  refine v_aload_n (i := 0) 0 rfl dL_law_520 ?_
  refine v_iload_n (i := 3) 3 rfl dL_law_521 ?_
  refine v_iconst dL_law_522 ?_
  refine v_iadd dL_law_523 ?_
  refine v_xald hX (by omega) (by omega) hN dL_law_524 ?_
  refine v_aload_n (i := 0) 0 rfl dL_law_525 ?_
  refine v_iload_n (i := 3) 3 rfl dL_law_526 ?_
  refine v_iconst dL_law_527 ?_
  refine v_iadd dL_law_528 ?_
  refine v_xald hX (by omega) (by omega) hN dL_law_529 ?_
  refine v_aload_n (i := 0) 0 rfl dL_law_530 ?_
  refine v_iload_n (i := 3) 3 rfl dL_law_531 ?_
  refine v_iconst dL_law_532 ?_
  refine v_iadd dL_law_533 ?_
  refine v_xald hX (by omega) (by omega) hN dL_law_534 ?_
  refine v_perm perm_f ?_
  refine LR_X12_would hS (hb _) (hb _) (hb _) (hb _) (Nat.le_of_ble_eq_true rfl) (by omega) (by omega) (fun w hw => ?_)
  refine v_perm perm_f.symm ?_
  refine v_icmp_s 1524 dL_law_538 rfl ?_
  refine v_widen (k2 := kR + 12) (n2 := nR + 140) (by omega) (by omega) ?_
  have v3e : w.1 3 = v 3 := hw.1
  have v21e : w.1 21 = v 21 := hw.2.2.2
  exact kk hi f g tp sp sm sf sc bp bm u.2 tr ms0 pt0 po0 u0 u1 u2 u3 u4 u5 u6 w.2.1 w.2.2 kp mms mpt bd u.1 w.1 pv iv pv2 iv2 pl tu kpl ktu z0 z1 z2 z3 z4 z5 kn il (hNow) (by rw [v3e]; exact hKep) (by rw [v21e]; exact hTr) (by rw [v3e]; exact h3)
theorem law_c9 {x : Cx} {mo kw pi ta ms pt po nw pls ins tap e3 e4 e5 e6 e7 e8 bar fa pls2 ins2 tap2 d3 d4 d5 d6 d7 d8 bar2 h : Nat} {ad : Nat → Nat} {b : Nat} {i : Int} {N : Nat} {xf : Int → Int} {kR nR : Nat} (hX : Sc x b N xf) (hi0 : 0 ≤ i) (hi7 : i + 7 ≤ N) (hN : N < 2147483648) (hb : ∀ j : Int, -2147483648 ≤ xf j ∧ xf j < 2147483648) (hk : kR + 24 ≤ 600000) (hn : nR + 280 ≤ 7302250) (kk : LwK x mo kw pi ta ms pt po nw pls ins tap e3 e4 e5 e6 e7 e8 bar fa pls2 ins2 tap2 d3 d4 d5 d6 d7 d8 bar2 h ad 1524 [(0, ar b), (1, ar mo), (2, ar h), (3, ai i)] (kR + 12) (nR + 140)) : LwK x mo kw pi ta ms pt po nw pls ins tap e3 e4 e5 e6 e7 e8 bar fa pls2 ins2 tap2 d3 d4 d5 d6 d7 d8 bar2 h ad 543 [(0, ar b), (1, ar mo), (2, ar h), (3, ai i)] kR nR := by
  intro hi f g tp sp sm sf sc bp bm fa0 tr ms0 pt0 po0 u0 u1 u2 u3 u4 u5 u6 by0 mtr kp mms mpt bd m v pv iv pv2 iv2 pl tu kpl ktu z0 z1 z2 z3 z4 z5 kn il hNow hKep hTr h3
  obtain ⟨hS, hP, hI, hR0, hR1, hR2, hR3, hR4, hR5, hR6⟩ := id hNow
  obtain ⟨hg0, hg1, hg2, hg3, hg4, -⟩ := id hS.1
  refine v_aload_n (i := 1) 1 rfl dL_law_543 ?_
  refine v_aload_n (i := 0) 0 rfl dL_law_544 ?_
  refine v_iload_n (i := 3) 3 rfl dL_law_545 ?_
  refine v_iconst dL_law_546 ?_
  refine v_iadd dL_law_547 ?_
  refine v_xald hX (by omega) (by omega) hN dL_law_548 ?_
  refine v_aload_n (i := 0) 0 rfl dL_law_549 ?_
  refine v_iload_n (i := 3) 3 rfl dL_law_550 ?_
  refine v_iconst dL_law_551 ?_
  refine v_iadd dL_law_552 ?_
  refine v_xald hX (by omega) (by omega) hN dL_law_553 ?_
  refine v_aload_n (i := 0) 0 rfl dL_law_554 ?_
  refine v_iload_n (i := 3) 3 rfl dL_law_555 ?_
  refine v_iconst dL_law_556 ?_
  refine v_iadd dL_law_557 ?_
  refine v_xald hX (by omega) (by omega) hN dL_law_558 ?_
  refine v_aload_n (i := 0) 0 rfl dL_law_559 ?_
  refine v_iload_n (i := 3) 3 rfl dL_law_560 ?_
  refine v_iconst dL_law_561 ?_
  refine v_iadd dL_law_562 ?_
  refine v_xald hX (by omega) (by omega) hN dL_law_563 ?_
  refine LC_X11_go hS hP hI (hb _) (hb _) (hb _) (hb _) (Nat.le_of_ble_eq_true rfl) (by omega) (by omega) (fun u => ?_)
  refine v_aload_n (i := 2) 2 rfl dL_law_567 ?_
  refine v_aload_n (i := 0) 0 rfl dL_law_568 ?_
  refine v_iload_n (i := 3) 3 rfl dL_law_569 ?_
  refine v_iconst dL_law_570 ?_
  refine v_iadd dL_law_571 ?_
  refine v_xald hX (by omega) (by omega) hN dL_law_572 ?_
  refine v_aload_n (i := 0) 0 rfl dL_law_573 ?_
  refine v_iload_n (i := 3) 3 rfl dL_law_574 ?_
  refine v_iconst dL_law_575 ?_
  refine v_iadd dL_law_576 ?_
  refine v_xald hX (by omega) (by omega) hN dL_law_577 ?_
  refine v_aload_n (i := 0) 0 rfl dL_law_578 ?_
  refine v_iload_n (i := 3) 3 rfl dL_law_579 ?_
  refine v_iconst dL_law_580 ?_
  refine v_iadd dL_law_581 ?_
  refine v_xald hX (by omega) (by omega) hN dL_law_582 ?_
  refine v_aload_n (i := 0) 0 rfl dL_law_583 ?_
  refine v_iload_n (i := 3) 3 rfl dL_law_584 ?_
  refine v_iconst dL_law_585 ?_
  refine v_iadd dL_law_586 ?_
  refine v_xald hX (by omega) (by omega) hN dL_law_587 ?_
  refine v_perm perm_f ?_
  refine LR_X12_go hS (hb _) (hb _) (hb _) (hb _) (Nat.le_of_ble_eq_true rfl) (by omega) (by omega) (fun w hw => ?_)
  obtain ⟨w1, w2, w3, w4, w5⟩ := w
  have g1 : w1 = (qGo f (xf (i + 1)) (xf (i + 2)) (xf (i + 3)) (xf (i + 4))).1 := congrArg Prod.fst hw.1
  have g2 : w2 = (qGo f (xf (i + 1)) (xf (i + 2)) (xf (i + 3)) (xf (i + 4))).2 := congrArg Prod.snd hw.1
  subst g2
  subst g1
  refine v_perm perm_f.symm ?_
  refine v_icmp_s 1524 dL_law_591 rfl ?_
  refine v_widen (k2 := kR + 12) (n2 := nR + 140) (by omega) (by omega) ?_
  have kF : ∀ j : Int, j = 0 ∨ j = 1 ∨ 73 ≤ j → (qGo f (xf (i + 1)) (xf (i + 2)) (xf (i + 3)) (xf (i + 4))).2 j = f j := fun j hj => by
    by_cases zp : 0 ≤ (xf (i + 1)) ∧ (xf (i + 1)) ≤ f 0 - 1
    · exact qGo_k (by omega) (by omega) (by omega) (by omega)
    · rw [qGo_n (fun z => zp z.1)]
  have hSF : SOK (qGo f (xf (i + 1)) (xf (i + 2)) (xf (i + 3)) (xf (i + 4))).2 := SOK_go hS
  have v3e : w3 3 = v 3 := hw.2.1
  have v21e : w3 21 = v 21 := hw.2.2.2.2
  exact kk hi ((qGo f (xf (i + 1)) (xf (i + 2)) (xf (i + 3)) (xf (i + 4))).2) g tp sp sm sf sc bp bm u.2 tr ms0 pt0 po0 u0 u1 u2 u3 u4 u5 u6 w4 w5 kp mms mpt bd u.1 w3 pv iv pv2 iv2 pl tu kpl ktu z0 z1 z2 z3 z4 z5 kn il ((NowI_set hNow hSF kF)) (by rw [v3e]; exact hKep) (by rw [v21e]; exact hTr) (by rw [v3e]; exact h3)
theorem law_c10 {x : Cx} {mo kw pi ta ms pt po nw pls ins tap e3 e4 e5 e6 e7 e8 bar fa pls2 ins2 tap2 d3 d4 d5 d6 d7 d8 bar2 h : Nat} {ad : Nat → Nat} {b : Nat} {i : Int} {N : Nat} {xf : Int → Int} {kR nR : Nat} (hX : Sc x b N xf) (hi0 : 0 ≤ i) (hi7 : i + 7 ≤ N) (hN : N < 2147483648) (hb : ∀ j : Int, -2147483648 ≤ xf j ∧ xf j < 2147483648) (hk : kR + 24 ≤ 600000) (hn : nR + 280 ≤ 7302250) (kk : LwK x mo kw pi ta ms pt po nw pls ins tap e3 e4 e5 e6 e7 e8 bar fa pls2 ins2 tap2 d3 d4 d5 d6 d7 d8 bar2 h ad 1524 [(0, ar b), (1, ar mo), (2, ar h), (3, ai i)] (kR + 12) (nR + 140)) : LwK x mo kw pi ta ms pt po nw pls ins tap e3 e4 e5 e6 e7 e8 bar fa pls2 ins2 tap2 d3 d4 d5 d6 d7 d8 bar2 h ad 596 [(0, ar b), (1, ar mo), (2, ar h), (3, ai i)] kR nR := by
  intro hi f g tp sp sm sf sc bp bm fa0 tr ms0 pt0 po0 u0 u1 u2 u3 u4 u5 u6 by0 mtr kp mms mpt bd m v pv iv pv2 iv2 pl tu kpl ktu z0 z1 z2 z3 z4 z5 kn il hNow hKep hTr h3
  obtain ⟨hS, hP, hI, hR0, hR1, hR2, hR3, hR4, hR5, hR6⟩ := id hNow
  obtain ⟨hg0, hg1, hg2, hg3, hg4, -⟩ := id hS.1
  refine v_aload_n (i := 1) 1 rfl dL_law_596 ?_
  refine v_aload_n (i := 0) 0 rfl dL_law_597 ?_
  refine v_iload_n (i := 3) 3 rfl dL_law_598 ?_
  refine v_iconst dL_law_599 ?_
  refine v_iadd dL_law_600 ?_
  refine v_xald hX (by omega) (by omega) hN dL_law_601 ?_
  refine v_aload_n (i := 0) 0 rfl dL_law_602 ?_
  refine v_iload_n (i := 3) 3 rfl dL_law_603 ?_
  refine v_iconst dL_law_604 ?_
  refine v_iadd dL_law_605 ?_
  refine v_xald hX (by omega) (by omega) hN dL_law_606 ?_
  refine v_aload_n (i := 0) 0 rfl dL_law_607 ?_
  refine v_iload_n (i := 3) 3 rfl dL_law_608 ?_
  refine v_iconst dL_law_609 ?_
  refine v_iadd dL_law_610 ?_
  refine v_xald hX (by omega) (by omega) hN dL_law_611 ?_
  refine LC_X11_odds hS hI hP (hb _) (hb _) (hb _) (Nat.le_of_ble_eq_true rfl) (by omega) (by omega) (fun u => ?_)
  refine v_aload_n (i := 2) 2 rfl dL_law_615 ?_
  refine v_aload_n (i := 0) 0 rfl dL_law_616 ?_
  refine v_iload_n (i := 3) 3 rfl dL_law_617 ?_
  refine v_iconst dL_law_618 ?_
  refine v_iadd dL_law_619 ?_
  refine v_xald hX (by omega) (by omega) hN dL_law_620 ?_
  refine v_aload_n (i := 0) 0 rfl dL_law_621 ?_
  refine v_iload_n (i := 3) 3 rfl dL_law_622 ?_
  refine v_iconst dL_law_623 ?_
  refine v_iadd dL_law_624 ?_
  refine v_xald hX (by omega) (by omega) hN dL_law_625 ?_
  refine v_aload_n (i := 0) 0 rfl dL_law_626 ?_
  refine v_iload_n (i := 3) 3 rfl dL_law_627 ?_
  refine v_iconst dL_law_628 ?_
  refine v_iadd dL_law_629 ?_
  refine v_xald hX (by omega) (by omega) hN dL_law_630 ?_
  refine v_perm perm_f ?_
  refine LR_X12_odds hS (hb _) (hb _) (hb _) (Nat.le_of_ble_eq_true rfl) (by omega) (by omega) (fun w hw => ?_)
  refine v_perm perm_f.symm ?_
  refine v_icmp_s 1524 dL_law_634 rfl ?_
  refine v_widen (k2 := kR + 12) (n2 := nR + 140) (by omega) (by omega) ?_
  have v3e : w.1 3 = v 3 := hw.1
  have v21e : w.1 21 = v 21 := hw.2.2.2
  exact kk hi f g tp sp sm sf sc bp bm u.2 tr ms0 pt0 po0 u0 u1 u2 u3 u4 u5 u6 w.2.1 w.2.2 kp mms mpt bd u.1 w.1 pv iv pv2 iv2 pl tu kpl ktu z0 z1 z2 z3 z4 z5 kn il (hNow) (by rw [v3e]; exact hKep) (by rw [v21e]; exact hTr) (by rw [v3e]; exact h3)
theorem law_c11 {x : Cx} {mo kw pi ta ms pt po nw pls ins tap e3 e4 e5 e6 e7 e8 bar fa pls2 ins2 tap2 d3 d4 d5 d6 d7 d8 bar2 h : Nat} {ad : Nat → Nat} {b : Nat} {i : Int} {N : Nat} {xf : Int → Int} {kR nR : Nat} (hX : Sc x b N xf) (hi0 : 0 ≤ i) (hi7 : i + 7 ≤ N) (hN : N < 2147483648) (hb : ∀ j : Int, -2147483648 ≤ xf j ∧ xf j < 2147483648) (hk : kR + 24 ≤ 600000) (hn : nR + 280 ≤ 7302250) (kk : LwK x mo kw pi ta ms pt po nw pls ins tap e3 e4 e5 e6 e7 e8 bar fa pls2 ins2 tap2 d3 d4 d5 d6 d7 d8 bar2 h ad 1524 [(0, ar b), (1, ar mo), (2, ar h), (3, ai i)] (kR + 12) (nR + 140)) : LwK x mo kw pi ta ms pt po nw pls ins tap e3 e4 e5 e6 e7 e8 bar fa pls2 ins2 tap2 d3 d4 d5 d6 d7 d8 bar2 h ad 639 [(0, ar b), (1, ar mo), (2, ar h), (3, ai i)] kR nR := by
  intro hi f g tp sp sm sf sc bp bm fa0 tr ms0 pt0 po0 u0 u1 u2 u3 u4 u5 u6 by0 mtr kp mms mpt bd m v pv iv pv2 iv2 pl tu kpl ktu z0 z1 z2 z3 z4 z5 kn il hNow hKep hTr h3
  obtain ⟨hS, hP, hI, hR0, hR1, hR2, hR3, hR4, hR5, hR6⟩ := id hNow
  obtain ⟨hg0, hg1, hg2, hg3, hg4, -⟩ := id hS.1
  refine v_aload_n (i := 1) 1 rfl dL_law_639 ?_
  refine v_aload_n (i := 0) 0 rfl dL_law_640 ?_
  refine v_iload_n (i := 3) 3 rfl dL_law_641 ?_
  refine v_iconst dL_law_642 ?_
  refine v_iadd dL_law_643 ?_
  refine v_xald hX (by omega) (by omega) hN dL_law_644 ?_
  refine v_aload_n (i := 0) 0 rfl dL_law_645 ?_
  refine v_iload_n (i := 3) 3 rfl dL_law_646 ?_
  refine v_iconst dL_law_647 ?_
  refine v_iadd dL_law_648 ?_
  refine v_xald hX (by omega) (by omega) hN dL_law_649 ?_
  refine v_aload_n (i := 0) 0 rfl dL_law_650 ?_
  refine v_iload_n (i := 3) 3 rfl dL_law_651 ?_
  refine v_iconst dL_law_652 ?_
  refine v_iadd dL_law_653 ?_
  refine v_xald hX (by omega) (by omega) hN dL_law_654 ?_
  refine v_aload_n (i := 0) 0 rfl dL_law_655 ?_
  refine v_iload_n (i := 3) 3 rfl dL_law_656 ?_
  refine v_iconst dL_law_657 ?_
  refine v_iadd dL_law_658 ?_
  refine v_xald hX (by omega) (by omega) hN dL_law_659 ?_
  refine LC_X11_mean hS hI hP (hb _) (hb _) (hb _) (hb _) (Nat.le_of_ble_eq_true rfl) (by omega) (by omega) (fun u => ?_)
  refine v_aload_n (i := 2) 2 rfl dL_law_663 ?_
  refine v_aload_n (i := 0) 0 rfl dL_law_664 ?_
  refine v_iload_n (i := 3) 3 rfl dL_law_665 ?_
  refine v_iconst dL_law_666 ?_
  refine v_iadd dL_law_667 ?_
  refine v_xald hX (by omega) (by omega) hN dL_law_668 ?_
  refine v_aload_n (i := 0) 0 rfl dL_law_669 ?_
  refine v_iload_n (i := 3) 3 rfl dL_law_670 ?_
  refine v_iconst dL_law_671 ?_
  refine v_iadd dL_law_672 ?_
  refine v_xald hX (by omega) (by omega) hN dL_law_673 ?_
  refine v_aload_n (i := 0) 0 rfl dL_law_674 ?_
  refine v_iload_n (i := 3) 3 rfl dL_law_675 ?_
  refine v_iconst dL_law_676 ?_
  refine v_iadd dL_law_677 ?_
  refine v_xald hX (by omega) (by omega) hN dL_law_678 ?_
  refine v_aload_n (i := 0) 0 rfl dL_law_679 ?_
  refine v_iload_n (i := 3) 3 rfl dL_law_680 ?_
  refine v_iconst dL_law_681 ?_
  refine v_iadd dL_law_682 ?_
  refine v_xald hX (by omega) (by omega) hN dL_law_683 ?_
  refine v_perm perm_f ?_
  refine LR_X12_mean hS (hb _) (hb _) (hb _) (hb _) (Nat.le_of_ble_eq_true rfl) (by omega) (by omega) (fun w hw => ?_)
  refine v_perm perm_f.symm ?_
  refine v_lcmp_s dL_law_687 ?_
  refine v_if0 1524 dL_law_688 rfl ?_
  refine v_widen (k2 := kR + 12) (n2 := nR + 140) (by omega) (by omega) ?_
  have v3e : w.1 3 = v 3 := hw.1
  have v21e : w.1 21 = v 21 := hw.2.2.2
  exact kk hi f g tp sp sm sf sc bp bm u.2 tr ms0 pt0 po0 u0 u1 u2 u3 u4 u5 u6 w.2.1 w.2.2 kp mms mpt bd u.1 w.1 pv iv pv2 iv2 pl tu kpl ktu z0 z1 z2 z3 z4 z5 kn il (hNow) (by rw [v3e]; exact hKep) (by rw [v21e]; exact hTr) (by rw [v3e]; exact h3)
theorem law_c12 {x : Cx} {mo kw pi ta ms pt po nw pls ins tap e3 e4 e5 e6 e7 e8 bar fa pls2 ins2 tap2 d3 d4 d5 d6 d7 d8 bar2 h : Nat} {ad : Nat → Nat} {b : Nat} {i : Int} {N : Nat} {xf : Int → Int} {kR nR : Nat} (hX : Sc x b N xf) (hi0 : 0 ≤ i) (hi7 : i + 7 ≤ N) (hN : N < 2147483648) (hb : ∀ j : Int, -2147483648 ≤ xf j ∧ xf j < 2147483648) (hk : kR + 24 ≤ 600000) (hn : nR + 280 ≤ 7302250) (kk : LwK x mo kw pi ta ms pt po nw pls ins tap e3 e4 e5 e6 e7 e8 bar fa pls2 ins2 tap2 d3 d4 d5 d6 d7 d8 bar2 h ad 1524 [(0, ar b), (1, ar mo), (2, ar h), (3, ai i)] (kR + 12) (nR + 140)) : LwK x mo kw pi ta ms pt po nw pls ins tap e3 e4 e5 e6 e7 e8 bar fa pls2 ins2 tap2 d3 d4 d5 d6 d7 d8 bar2 h ad 693 [(0, ar b), (1, ar mo), (2, ar h), (3, ai i)] kR nR := by
  intro hi f g tp sp sm sf sc bp bm fa0 tr ms0 pt0 po0 u0 u1 u2 u3 u4 u5 u6 by0 mtr kp mms mpt bd m v pv iv pv2 iv2 pl tu kpl ktu z0 z1 z2 z3 z4 z5 kn il hNow hKep hTr h3
  obtain ⟨hS, hP, hI, hR0, hR1, hR2, hR3, hR4, hR5, hR6⟩ := id hNow
  obtain ⟨hg0, hg1, hg2, hg3, hg4, -⟩ := id hS.1
  refine v_aload_n (i := 1) 1 rfl dL_law_693 ?_
  refine v_aload_n (i := 0) 0 rfl dL_law_694 ?_
  refine v_iload_n (i := 3) 3 rfl dL_law_695 ?_
  refine v_iconst dL_law_696 ?_
  refine v_iadd dL_law_697 ?_
  refine v_xald hX (by omega) (by omega) hN dL_law_698 ?_
  refine v_aload_n (i := 0) 0 rfl dL_law_699 ?_
  refine v_iload_n (i := 3) 3 rfl dL_law_700 ?_
  refine v_iconst dL_law_701 ?_
  refine v_iadd dL_law_702 ?_
  refine v_xald hX (by omega) (by omega) hN dL_law_703 ?_
  refine v_aload_n (i := 0) 0 rfl dL_law_704 ?_
  refine v_iload_n (i := 3) 3 rfl dL_law_705 ?_
  refine v_iconst dL_law_706 ?_
  refine v_iadd dL_law_707 ?_
  refine v_xald hX (by omega) (by omega) hN dL_law_708 ?_
  refine LC_X11_best hS hI hP (hb _) (hb _) (hb _) (Nat.le_of_ble_eq_true rfl) (by omega) (by omega) (fun u => ?_)
  refine v_aload_n (i := 2) 2 rfl dL_law_712 ?_
  refine v_aload_n (i := 0) 0 rfl dL_law_713 ?_
  refine v_iload_n (i := 3) 3 rfl dL_law_714 ?_
  refine v_iconst dL_law_715 ?_
  refine v_iadd dL_law_716 ?_
  refine v_xald hX (by omega) (by omega) hN dL_law_717 ?_
  refine v_aload_n (i := 0) 0 rfl dL_law_718 ?_
  refine v_iload_n (i := 3) 3 rfl dL_law_719 ?_
  refine v_iconst dL_law_720 ?_
  refine v_iadd dL_law_721 ?_
  refine v_xald hX (by omega) (by omega) hN dL_law_722 ?_
  refine v_aload_n (i := 0) 0 rfl dL_law_723 ?_
  refine v_iload_n (i := 3) 3 rfl dL_law_724 ?_
  refine v_iconst dL_law_725 ?_
  refine v_iadd dL_law_726 ?_
  refine v_xald hX (by omega) (by omega) hN dL_law_727 ?_
  refine v_perm perm_f ?_
  refine LR_X12_best hS (hb _) (hb _) (hb _) (Nat.le_of_ble_eq_true rfl) (by omega) (by omega) (fun w hw => ?_)
  refine v_perm perm_f.symm ?_
  refine v_icmp_s 1524 dL_law_731 rfl ?_
  refine v_widen (k2 := kR + 12) (n2 := nR + 140) (by omega) (by omega) ?_
  have v3e : w.1 3 = v 3 := hw.1
  have v21e : w.1 21 = v 21 := hw.2.2.2
  exact kk hi f g tp sp sm sf sc bp bm u.2 tr ms0 pt0 po0 u0 u1 u2 u3 u4 u5 u6 w.2.1 w.2.2 kp mms mpt bd u.1 w.1 pv iv pv2 iv2 pl tu kpl ktu z0 z1 z2 z3 z4 z5 kn il (hNow) (by rw [v3e]; exact hKep) (by rw [v21e]; exact hTr) (by rw [v3e]; exact h3)
theorem law_c13 {x : Cx} {mo kw pi ta ms pt po nw pls ins tap e3 e4 e5 e6 e7 e8 bar fa pls2 ins2 tap2 d3 d4 d5 d6 d7 d8 bar2 h : Nat} {ad : Nat → Nat} {b : Nat} {i : Int} {N : Nat} {xf : Int → Int} {kR nR : Nat} (hX : Sc x b N xf) (hi0 : 0 ≤ i) (hi7 : i + 7 ≤ N) (hN : N < 2147483648) (hb : ∀ j : Int, -2147483648 ≤ xf j ∧ xf j < 2147483648) (hk : kR + 24 ≤ 600000) (hn : nR + 280 ≤ 7302250) (kk : LwK x mo kw pi ta ms pt po nw pls ins tap e3 e4 e5 e6 e7 e8 bar fa pls2 ins2 tap2 d3 d4 d5 d6 d7 d8 bar2 h ad 1524 [(0, ar b), (1, ar mo), (2, ar h), (3, ai i)] (kR + 12) (nR + 140)) : LwK x mo kw pi ta ms pt po nw pls ins tap e3 e4 e5 e6 e7 e8 bar fa pls2 ins2 tap2 d3 d4 d5 d6 d7 d8 bar2 h ad 736 [(0, ar b), (1, ar mo), (2, ar h), (3, ai i)] kR nR := by
  intro hi f g tp sp sm sf sc bp bm fa0 tr ms0 pt0 po0 u0 u1 u2 u3 u4 u5 u6 by0 mtr kp mms mpt bd m v pv iv pv2 iv2 pl tu kpl ktu z0 z1 z2 z3 z4 z5 kn il hNow hKep hTr h3
  obtain ⟨hS, hP, hI, hR0, hR1, hR2, hR3, hR4, hR5, hR6⟩ := id hNow
  obtain ⟨hg0, hg1, hg2, hg3, hg4, -⟩ := id hS.1
  refine v_aload_n (i := 1) 1 rfl dL_law_736 ?_
  refine v_aload_n (i := 0) 0 rfl dL_law_737 ?_
  refine v_iload_n (i := 3) 3 rfl dL_law_738 ?_
  refine v_iconst dL_law_739 ?_
  refine v_iadd dL_law_740 ?_
  refine v_xald hX (by omega) (by omega) hN dL_law_741 ?_
  refine LC_X11_most hS hI hP (hb _) (Nat.le_of_ble_eq_true rfl) (by omega) (by omega) (fun u => ?_)
  refine v_aload_n (i := 2) 2 rfl dL_law_745 ?_
  refine v_aload_n (i := 0) 0 rfl dL_law_746 ?_
  refine v_iload_n (i := 3) 3 rfl dL_law_747 ?_
  refine v_iconst dL_law_748 ?_
  refine v_iadd dL_law_749 ?_
  refine v_xald hX (by omega) (by omega) hN dL_law_750 ?_
  refine v_perm perm_f ?_
  refine LR_X12_most hS (hb _) (Nat.le_of_ble_eq_true rfl) (by omega) (by omega) (fun w hw => ?_)
  refine v_perm perm_f.symm ?_
  refine v_icmp_s 1524 dL_law_754 rfl ?_
  refine v_widen (k2 := kR + 12) (n2 := nR + 140) (by omega) (by omega) ?_
  have v3e : w.1 3 = v 3 := hw.1
  have v21e : w.1 21 = v 21 := hw.2.2.2
  exact kk hi f g tp sp sm sf sc bp bm u.2 tr ms0 pt0 po0 u0 u1 u2 u3 u4 u5 u6 w.2.1 w.2.2 kp mms mpt bd u.1 w.1 pv iv pv2 iv2 pl tu kpl ktu z0 z1 z2 z3 z4 z5 kn il (hNow) (by rw [v3e]; exact hKep) (by rw [v21e]; exact hTr) (by rw [v3e]; exact h3)
theorem law_c14 {x : Cx} {mo kw pi ta ms pt po nw pls ins tap e3 e4 e5 e6 e7 e8 bar fa pls2 ins2 tap2 d3 d4 d5 d6 d7 d8 bar2 h : Nat} {ad : Nat → Nat} {b : Nat} {i : Int} {N : Nat} {xf : Int → Int} {kR nR : Nat} (hX : Sc x b N xf) (hi0 : 0 ≤ i) (hi7 : i + 7 ≤ N) (hN : N < 2147483648) (hb : ∀ j : Int, -2147483648 ≤ xf j ∧ xf j < 2147483648) (hk : kR + 24 ≤ 600000) (hn : nR + 280 ≤ 7302250) (kk : LwK x mo kw pi ta ms pt po nw pls ins tap e3 e4 e5 e6 e7 e8 bar fa pls2 ins2 tap2 d3 d4 d5 d6 d7 d8 bar2 h ad 1524 [(0, ar b), (1, ar mo), (2, ar h), (3, ai i)] (kR + 12) (nR + 140)) : LwK x mo kw pi ta ms pt po nw pls ins tap e3 e4 e5 e6 e7 e8 bar fa pls2 ins2 tap2 d3 d4 d5 d6 d7 d8 bar2 h ad 759 [(0, ar b), (1, ar mo), (2, ar h), (3, ai i)] kR nR := by
  intro hi f g tp sp sm sf sc bp bm fa0 tr ms0 pt0 po0 u0 u1 u2 u3 u4 u5 u6 by0 mtr kp mms mpt bd m v pv iv pv2 iv2 pl tu kpl ktu z0 z1 z2 z3 z4 z5 kn il hNow hKep hTr h3
  obtain ⟨hS, hP, hI, hR0, hR1, hR2, hR3, hR4, hR5, hR6⟩ := id hNow
  obtain ⟨hg0, hg1, hg2, hg3, hg4, -⟩ := id hS.1
  refine v_aload_n (i := 1) 1 rfl dL_law_759 ?_
  refine v_aload_n (i := 0) 0 rfl dL_law_760 ?_
  refine v_iload_n (i := 3) 3 rfl dL_law_761 ?_
  refine v_iconst dL_law_762 ?_
  refine v_iadd dL_law_763 ?_
  refine v_xald hX (by omega) (by omega) hN dL_law_764 ?_
  refine LC_X11_learns hS hI hP (hb _) (Nat.le_of_ble_eq_true rfl) (by omega) (by omega) (fun u => ?_)
  refine v_aload_n (i := 2) 2 rfl dL_law_768 ?_
  refine v_aload_n (i := 0) 0 rfl dL_law_769 ?_
  refine v_iload_n (i := 3) 3 rfl dL_law_770 ?_
  refine v_iconst dL_law_771 ?_
  refine v_iadd dL_law_772 ?_
  refine v_xald hX (by omega) (by omega) hN dL_law_773 ?_
  refine v_perm perm_f ?_
  refine LR_X12_learns hS (hb _) (Nat.le_of_ble_eq_true rfl) (by omega) (by omega) (fun w hw => ?_)
  refine v_perm perm_f.symm ?_
  refine v_icmp_s 1524 dL_law_777 rfl ?_
  refine v_widen (k2 := kR + 12) (n2 := nR + 140) (by omega) (by omega) ?_
  have v3e : w.1 3 = v 3 := hw.1
  have v21e : w.1 21 = v 21 := hw.2.2.2
  exact kk hi f g tp sp sm sf sc bp bm u.2 tr ms0 pt0 po0 u0 u1 u2 u3 u4 u5 u6 w.2.1 w.2.2 kp mms mpt bd u.1 w.1 pv iv pv2 iv2 pl tu kpl ktu z0 z1 z2 z3 z4 z5 kn il (hNow) (by rw [v3e]; exact hKep) (by rw [v21e]; exact hTr) (by rw [v3e]; exact h3)
theorem law_c15 {x : Cx} {mo kw pi ta ms pt po nw pls ins tap e3 e4 e5 e6 e7 e8 bar fa pls2 ins2 tap2 d3 d4 d5 d6 d7 d8 bar2 h : Nat} {ad : Nat → Nat} {b : Nat} {i : Int} {N : Nat} {xf : Int → Int} {kR nR : Nat} (hX : Sc x b N xf) (hi0 : 0 ≤ i) (hi7 : i + 7 ≤ N) (hN : N < 2147483648) (hb : ∀ j : Int, -2147483648 ≤ xf j ∧ xf j < 2147483648) (hk : kR + 24 ≤ 600000) (hn : nR + 280 ≤ 7302250) (kk : LwK x mo kw pi ta ms pt po nw pls ins tap e3 e4 e5 e6 e7 e8 bar fa pls2 ins2 tap2 d3 d4 d5 d6 d7 d8 bar2 h ad 1524 [(0, ar b), (1, ar mo), (2, ar h), (3, ai i)] (kR + 12) (nR + 140)) : LwK x mo kw pi ta ms pt po nw pls ins tap e3 e4 e5 e6 e7 e8 bar fa pls2 ins2 tap2 d3 d4 d5 d6 d7 d8 bar2 h ad 782 [(0, ar b), (1, ar mo), (2, ar h), (3, ai i)] kR nR := by
  intro hi f g tp sp sm sf sc bp bm fa0 tr ms0 pt0 po0 u0 u1 u2 u3 u4 u5 u6 by0 mtr kp mms mpt bd m v pv iv pv2 iv2 pl tu kpl ktu z0 z1 z2 z3 z4 z5 kn il hNow hKep hTr h3
  obtain ⟨hS, hP, hI, hR0, hR1, hR2, hR3, hR4, hR5, hR6⟩ := id hNow
  obtain ⟨hg0, hg1, hg2, hg3, hg4, -⟩ := id hS.1
  refine v_aload_n (i := 1) 1 rfl dL_law_782 ?_
  refine v_aload_n (i := 0) 0 rfl dL_law_783 ?_
  refine v_iload_n (i := 3) 3 rfl dL_law_784 ?_
  refine v_iconst dL_law_785 ?_
  refine v_iadd dL_law_786 ?_
  refine v_xald hX (by omega) (by omega) hN dL_law_787 ?_
  refine v_aload_n (i := 0) 0 rfl dL_law_788 ?_
  refine v_iload_n (i := 3) 3 rfl dL_law_789 ?_
  refine v_iconst dL_law_790 ?_
  refine v_iadd dL_law_791 ?_
  refine v_xald hX (by omega) (by omega) hN dL_law_792 ?_
  refine v_aload_n (i := 0) 0 rfl dL_law_793 ?_
  refine v_iload_n (i := 3) 3 rfl dL_law_794 ?_
  refine v_iconst dL_law_795 ?_
  refine v_iadd dL_law_796 ?_
  refine v_xald hX (by omega) (by omega) hN dL_law_797 ?_
  refine LC_X11_plan hS hI hP (hb _) (hb _) (hb _) (Nat.le_of_ble_eq_true rfl) (by omega) (by omega) (fun u => ?_)
  refine v_aload_n (i := 2) 2 rfl dL_law_801 ?_
  refine v_aload_n (i := 0) 0 rfl dL_law_802 ?_
  refine v_iload_n (i := 3) 3 rfl dL_law_803 ?_
  refine v_iconst dL_law_804 ?_
  refine v_iadd dL_law_805 ?_
  refine v_xald hX (by omega) (by omega) hN dL_law_806 ?_
  refine v_aload_n (i := 0) 0 rfl dL_law_807 ?_
  refine v_iload_n (i := 3) 3 rfl dL_law_808 ?_
  refine v_iconst dL_law_809 ?_
  refine v_iadd dL_law_810 ?_
  refine v_xald hX (by omega) (by omega) hN dL_law_811 ?_
  refine v_aload_n (i := 0) 0 rfl dL_law_812 ?_
  refine v_iload_n (i := 3) 3 rfl dL_law_813 ?_
  refine v_iconst dL_law_814 ?_
  refine v_iadd dL_law_815 ?_
  refine v_xald hX (by omega) (by omega) hN dL_law_816 ?_
  refine v_perm perm_f ?_
  refine LR_X12_plan hS (hb _) (hb _) (hb _) (Nat.le_of_ble_eq_true rfl) (by omega) (by omega) (fun w hw => ?_)
  obtain ⟨w1, w2⟩ := w
  have gf : f = w1 := hw.1.symm
  subst gf
  refine v_perm perm_f.symm ?_
  refine v_lcmp_s dL_law_820 ?_
  refine v_if0 1524 dL_law_821 rfl ?_
  refine v_widen (k2 := kR + 12) (n2 := nR + 140) (by omega) (by omega) ?_
  have v3e : w2.2.1 3 = v 3 := hw.2.1
  have v21e : w2.2.1 21 = v 21 := hw.2.2.2.2
  exact kk hi f g tp sp sm sf sc bp bm u.2.2 tr ms0 pt0 u.1 u0 u1 u2 u3 u4 u5 u6 w2.2.2.1 w2.2.2.2 w2.1 mms mpt bd u.2.1 w2.2.1 pv iv pv2 iv2 pl tu kpl ktu z0 z1 z2 z3 z4 z5 kn il (hNow) (by rw [v3e]; exact hKep) (by rw [v21e]; exact hTr) (by rw [v3e]; exact h3)
theorem law_c16 {x : Cx} {mo kw pi ta ms pt po nw pls ins tap e3 e4 e5 e6 e7 e8 bar fa pls2 ins2 tap2 d3 d4 d5 d6 d7 d8 bar2 h : Nat} {ad : Nat → Nat} {b : Nat} {i : Int} {N : Nat} {xf : Int → Int} {kR nR : Nat} (hX : Sc x b N xf) (hi0 : 0 ≤ i) (hi7 : i + 7 ≤ N) (hN : N < 2147483648) (hb : ∀ j : Int, -2147483648 ≤ xf j ∧ xf j < 2147483648) (hk : kR + 24 ≤ 600000) (hn : nR + 280 ≤ 7302250) (kk : LwK x mo kw pi ta ms pt po nw pls ins tap e3 e4 e5 e6 e7 e8 bar fa pls2 ins2 tap2 d3 d4 d5 d6 d7 d8 bar2 h ad 1524 [(0, ar b), (1, ar mo), (2, ar h), (3, ai i)] (kR + 12) (nR + 140)) : LwK x mo kw pi ta ms pt po nw pls ins tap e3 e4 e5 e6 e7 e8 bar fa pls2 ins2 tap2 d3 d4 d5 d6 d7 d8 bar2 h ad 826 [(0, ar b), (1, ar mo), (2, ar h), (3, ai i)] kR nR := by
  intro hi f g tp sp sm sf sc bp bm fa0 tr ms0 pt0 po0 u0 u1 u2 u3 u4 u5 u6 by0 mtr kp mms mpt bd m v pv iv pv2 iv2 pl tu kpl ktu z0 z1 z2 z3 z4 z5 kn il hNow hKep hTr h3
  obtain ⟨hS, hP, hI, hR0, hR1, hR2, hR3, hR4, hR5, hR6⟩ := id hNow
  obtain ⟨hg0, hg1, hg2, hg3, hg4, -⟩ := id hS.1
  refine v_aload_n (i := 1) 1 rfl dL_law_826 ?_
  refine v_aload_n (i := 0) 0 rfl dL_law_827 ?_
  refine v_iload_n (i := 3) 3 rfl dL_law_828 ?_
  refine v_iconst dL_law_829 ?_
  refine v_iadd dL_law_830 ?_
  refine v_xald hX (by omega) (by omega) hN dL_law_831 ?_
  refine v_aload_n (i := 0) 0 rfl dL_law_832 ?_
  refine v_iload_n (i := 3) 3 rfl dL_law_833 ?_
  refine v_iconst dL_law_834 ?_
  refine v_iadd dL_law_835 ?_
  refine v_xald hX (by omega) (by omega) hN dL_law_836 ?_
  refine LC_X11_first hS hI hP (hb _) (hb _) (Nat.le_of_ble_eq_true rfl) (by omega) (by omega) (fun u => ?_)
  refine v_aload_n (i := 2) 2 rfl dL_law_840 ?_
  refine v_aload_n (i := 0) 0 rfl dL_law_841 ?_
  refine v_iload_n (i := 3) 3 rfl dL_law_842 ?_
  refine v_iconst dL_law_843 ?_
  refine v_iadd dL_law_844 ?_
  refine v_xald hX (by omega) (by omega) hN dL_law_845 ?_
  refine v_aload_n (i := 0) 0 rfl dL_law_846 ?_
  refine v_iload_n (i := 3) 3 rfl dL_law_847 ?_
  refine v_iconst dL_law_848 ?_
  refine v_iadd dL_law_849 ?_
  refine v_xald hX (by omega) (by omega) hN dL_law_850 ?_
  refine v_perm perm_f ?_
  refine LR_X12_first hS (hb _) (hb _) (Nat.le_of_ble_eq_true rfl) (by omega) (by omega) (fun w hw => ?_)
  obtain ⟨w1, w2⟩ := w
  have gf : f = w1 := hw.1.symm
  subst gf
  refine v_perm perm_f.symm ?_
  refine v_icmp_s 1524 dL_law_854 rfl ?_
  refine v_widen (k2 := kR + 12) (n2 := nR + 140) (by omega) (by omega) ?_
  have v3e : w2.2.1 3 = v 3 := hw.2.1
  have v21e : w2.2.1 21 = v 21 := hw.2.2.2.2
  exact kk hi f g tp sp sm sf sc bp bm u.2.2 tr ms0 pt0 u.1 u0 u1 u2 u3 u4 u5 u6 w2.2.2.1 w2.2.2.2 w2.1 mms mpt bd u.2.1 w2.2.1 pv iv pv2 iv2 pl tu kpl ktu z0 z1 z2 z3 z4 z5 kn il (hNow) (by rw [v3e]; exact hKep) (by rw [v21e]; exact hTr) (by rw [v3e]; exact h3)
theorem law_c17 {x : Cx} {mo kw pi ta ms pt po nw pls ins tap e3 e4 e5 e6 e7 e8 bar fa pls2 ins2 tap2 d3 d4 d5 d6 d7 d8 bar2 h : Nat} {ad : Nat → Nat} {b : Nat} {i : Int} {N : Nat} {xf : Int → Int} {kR nR : Nat} (hX : Sc x b N xf) (hi0 : 0 ≤ i) (hi7 : i + 7 ≤ N) (hN : N < 2147483648) (hb : ∀ j : Int, -2147483648 ≤ xf j ∧ xf j < 2147483648) (hk : kR + 24 ≤ 600000) (hn : nR + 280 ≤ 7302250) (kk : LwK x mo kw pi ta ms pt po nw pls ins tap e3 e4 e5 e6 e7 e8 bar fa pls2 ins2 tap2 d3 d4 d5 d6 d7 d8 bar2 h ad 1524 [(0, ar b), (1, ar mo), (2, ar h), (3, ai i)] (kR + 12) (nR + 140)) : LwK x mo kw pi ta ms pt po nw pls ins tap e3 e4 e5 e6 e7 e8 bar fa pls2 ins2 tap2 d3 d4 d5 d6 d7 d8 bar2 h ad 859 [(0, ar b), (1, ar mo), (2, ar h), (3, ai i)] kR nR := by
  intro hi f g tp sp sm sf sc bp bm fa0 tr ms0 pt0 po0 u0 u1 u2 u3 u4 u5 u6 by0 mtr kp mms mpt bd m v pv iv pv2 iv2 pl tu kpl ktu z0 z1 z2 z3 z4 z5 kn il hNow hKep hTr h3
  obtain ⟨hS, hP, hI, hR0, hR1, hR2, hR3, hR4, hR5, hR6⟩ := id hNow
  obtain ⟨hg0, hg1, hg2, hg3, hg4, -⟩ := id hS.1
  refine v_aload_n (i := 1) 1 rfl dL_law_859 ?_
  refine v_aload_n (i := 0) 0 rfl dL_law_860 ?_
  refine v_iload_n (i := 3) 3 rfl dL_law_861 ?_
  refine v_iconst dL_law_862 ?_
  refine v_iadd dL_law_863 ?_
  refine v_xald hX (by omega) (by omega) hN dL_law_864 ?_
  refine v_aload_n (i := 0) 0 rfl dL_law_865 ?_
  refine v_iload_n (i := 3) 3 rfl dL_law_866 ?_
  refine v_iconst dL_law_867 ?_
  refine v_iadd dL_law_868 ?_
  refine v_xald hX (by omega) (by omega) hN dL_law_869 ?_
  refine v_aload_n (i := 0) 0 rfl dL_law_870 ?_
  refine v_iload_n (i := 3) 3 rfl dL_law_871 ?_
  refine v_iconst dL_law_872 ?_
  refine v_iadd dL_law_873 ?_
  refine v_xald hX (by omega) (by omega) hN dL_law_874 ?_
  refine v_aload_n (i := 0) 0 rfl dL_law_875 ?_
  refine v_iload_n (i := 3) 3 rfl dL_law_876 ?_
  refine v_iconst dL_law_877 ?_
  refine v_iadd dL_law_878 ?_
  refine v_xald hX (by omega) (by omega) hN dL_law_879 ?_
  refine LC_X11_more hS hI hP (hb _) (hb _) (hb _) (hb _) (Nat.le_of_ble_eq_true rfl) (by omega) (by omega) (fun u => ?_)
  refine v_aload_n (i := 2) 2 rfl dL_law_883 ?_
  refine v_aload_n (i := 0) 0 rfl dL_law_884 ?_
  refine v_iload_n (i := 3) 3 rfl dL_law_885 ?_
  refine v_iconst dL_law_886 ?_
  refine v_iadd dL_law_887 ?_
  refine v_xald hX (by omega) (by omega) hN dL_law_888 ?_
  refine v_aload_n (i := 0) 0 rfl dL_law_889 ?_
  refine v_iload_n (i := 3) 3 rfl dL_law_890 ?_
  refine v_iconst dL_law_891 ?_
  refine v_iadd dL_law_892 ?_
  refine v_xald hX (by omega) (by omega) hN dL_law_893 ?_
  refine v_aload_n (i := 0) 0 rfl dL_law_894 ?_
  refine v_iload_n (i := 3) 3 rfl dL_law_895 ?_
  refine v_iconst dL_law_896 ?_
  refine v_iadd dL_law_897 ?_
  refine v_xald hX (by omega) (by omega) hN dL_law_898 ?_
  refine v_aload_n (i := 0) 0 rfl dL_law_899 ?_
  refine v_iload_n (i := 3) 3 rfl dL_law_900 ?_
  refine v_iconst dL_law_901 ?_
  refine v_iadd dL_law_902 ?_
  refine v_xald hX (by omega) (by omega) hN dL_law_903 ?_
  refine v_perm perm_f ?_
  refine LR_X12_more hS (hb _) (hb _) (hb _) (hb _) (Nat.le_of_ble_eq_true rfl) (by omega) (by omega) (fun w hw => ?_)
  refine v_perm perm_f.symm ?_
  refine v_lcmp_s dL_law_907 ?_
  refine v_if0 1524 dL_law_908 rfl ?_
  refine v_widen (k2 := kR + 12) (n2 := nR + 140) (by omega) (by omega) ?_
  have v3e : w.1 3 = v 3 := hw.1
  have v21e : w.1 21 = v 21 := hw.2.2.2
  exact kk hi f g tp sp sm sf sc bp bm u.2 tr ms0 pt0 po0 u0 u1 u2 u3 u4 u5 u6 w.2.1 w.2.2 kp mms mpt bd u.1 w.1 pv iv pv2 iv2 pl tu kpl ktu z0 z1 z2 z3 z4 z5 kn il (hNow) (by rw [v3e]; exact hKep) (by rw [v21e]; exact hTr) (by rw [v3e]; exact h3)
theorem law_c18 {x : Cx} {mo kw pi ta ms pt po nw pls ins tap e3 e4 e5 e6 e7 e8 bar fa pls2 ins2 tap2 d3 d4 d5 d6 d7 d8 bar2 h : Nat} {ad : Nat → Nat} {b : Nat} {i : Int} {N : Nat} {xf : Int → Int} {kR nR : Nat} (hX : Sc x b N xf) (hi0 : 0 ≤ i) (hi7 : i + 7 ≤ N) (hN : N < 2147483648) (hb : ∀ j : Int, -2147483648 ≤ xf j ∧ xf j < 2147483648) (hk : kR + 24 ≤ 600000) (hn : nR + 280 ≤ 7302250) (kk : LwK x mo kw pi ta ms pt po nw pls ins tap e3 e4 e5 e6 e7 e8 bar fa pls2 ins2 tap2 d3 d4 d5 d6 d7 d8 bar2 h ad 1524 [(0, ar b), (1, ar mo), (2, ar h), (3, ai i)] (kR + 12) (nR + 140)) : LwK x mo kw pi ta ms pt po nw pls ins tap e3 e4 e5 e6 e7 e8 bar fa pls2 ins2 tap2 d3 d4 d5 d6 d7 d8 bar2 h ad 913 [(0, ar b), (1, ar mo), (2, ar h), (3, ai i)] kR nR := by
  intro hi f g tp sp sm sf sc bp bm fa0 tr ms0 pt0 po0 u0 u1 u2 u3 u4 u5 u6 by0 mtr kp mms mpt bd m v pv iv pv2 iv2 pl tu kpl ktu z0 z1 z2 z3 z4 z5 kn il hNow hKep hTr h3
  obtain ⟨hS, hP, hI, hR0, hR1, hR2, hR3, hR4, hR5, hR6⟩ := id hNow
  obtain ⟨hg0, hg1, hg2, hg3, hg4, -⟩ := id hS.1
  refine v_aload_n (i := 1) 1 rfl dL_law_913 ?_
  refine v_aload_n (i := 0) 0 rfl dL_law_914 ?_
  refine v_iload_n (i := 3) 3 rfl dL_law_915 ?_
  refine v_iconst dL_law_916 ?_
  refine v_iadd dL_law_917 ?_
  refine v_xald hX (by omega) (by omega) hN dL_law_918 ?_
  refine v_aload_n (i := 0) 0 rfl dL_law_919 ?_
  refine v_iload_n (i := 3) 3 rfl dL_law_920 ?_
  refine v_iconst dL_law_921 ?_
  refine v_iadd dL_law_922 ?_
  refine v_xald hX (by omega) (by omega) hN dL_law_923 ?_
  refine LC_X11_record hS hI hP (hb _) (hb _) (Nat.le_of_ble_eq_true rfl) (by omega) (by omega) (fun u => ?_)
  refine v_aload_n (i := 2) 2 rfl dL_law_927 ?_
  refine v_aload_n (i := 0) 0 rfl dL_law_928 ?_
  refine v_iload_n (i := 3) 3 rfl dL_law_929 ?_
  refine v_iconst dL_law_930 ?_
  refine v_iadd dL_law_931 ?_
  refine v_xald hX (by omega) (by omega) hN dL_law_932 ?_
  refine v_aload_n (i := 0) 0 rfl dL_law_933 ?_
  refine v_iload_n (i := 3) 3 rfl dL_law_934 ?_
  refine v_iconst dL_law_935 ?_
  refine v_iadd dL_law_936 ?_
  refine v_xald hX (by omega) (by omega) hN dL_law_937 ?_
  refine v_perm perm_f ?_
  refine LR_X12_record hS (hb _) (hb _) (Nat.le_of_ble_eq_true rfl) (by omega) (by omega) (fun w hw => ?_)
  refine v_perm perm_f.symm ?_
  refine v_icmp_s 1524 dL_law_941 rfl ?_
  refine v_widen (k2 := kR + 12) (n2 := nR + 140) (by omega) (by omega) ?_
  have v3e : w.1 3 = v 3 := hw.1
  have v21e : w.1 21 = v 21 := hw.2.2.2
  exact kk hi f g tp sp sm sf sc bp bm u.2 tr ms0 pt0 po0 u0 u1 u2 u3 u4 u5 u6 w.2.1 w.2.2 kp mms mpt bd u.1 w.1 pv iv pv2 iv2 pl tu kpl ktu z0 z1 z2 z3 z4 z5 kn il (hNow) (by rw [v3e]; exact hKep) (by rw [v21e]; exact hTr) (by rw [v3e]; exact h3)
theorem law_c19 {x : Cx} {mo kw pi ta ms pt po nw pls ins tap e3 e4 e5 e6 e7 e8 bar fa pls2 ins2 tap2 d3 d4 d5 d6 d7 d8 bar2 h : Nat} {ad : Nat → Nat} {b : Nat} {i : Int} {N : Nat} {xf : Int → Int} {kR nR : Nat} (hX : Sc x b N xf) (hi0 : 0 ≤ i) (hi7 : i + 7 ≤ N) (hN : N < 2147483648) (hb : ∀ j : Int, -2147483648 ≤ xf j ∧ xf j < 2147483648) (hk : kR + 24 ≤ 600000) (hn : nR + 280 ≤ 7302250) (kk : LwK x mo kw pi ta ms pt po nw pls ins tap e3 e4 e5 e6 e7 e8 bar fa pls2 ins2 tap2 d3 d4 d5 d6 d7 d8 bar2 h ad 1524 [(0, ar b), (1, ar mo), (2, ar h), (3, ai i)] (kR + 12) (nR + 140)) : LwK x mo kw pi ta ms pt po nw pls ins tap e3 e4 e5 e6 e7 e8 bar fa pls2 ins2 tap2 d3 d4 d5 d6 d7 d8 bar2 h ad 946 [(0, ar b), (1, ar mo), (2, ar h), (3, ai i)] kR nR := by
  intro hi f g tp sp sm sf sc bp bm fa0 tr ms0 pt0 po0 u0 u1 u2 u3 u4 u5 u6 by0 mtr kp mms mpt bd m v pv iv pv2 iv2 pl tu kpl ktu z0 z1 z2 z3 z4 z5 kn il hNow hKep hTr h3
  obtain ⟨hS, hP, hI, hR0, hR1, hR2, hR3, hR4, hR5, hR6⟩ := id hNow
  obtain ⟨hg0, hg1, hg2, hg3, hg4, -⟩ := id hS.1
  refine v_aload_n (i := 1) 1 rfl dL_law_946 ?_
  refine v_aload_n (i := 0) 0 rfl dL_law_947 ?_
  refine v_iload_n (i := 3) 3 rfl dL_law_948 ?_
  refine v_iconst dL_law_949 ?_
  refine v_iadd dL_law_950 ?_
  refine v_xald hX (by omega) (by omega) hN dL_law_951 ?_
  refine v_aload_n (i := 0) 0 rfl dL_law_952 ?_
  refine v_iload_n (i := 3) 3 rfl dL_law_953 ?_
  refine v_iconst dL_law_954 ?_
  refine v_iadd dL_law_955 ?_
  refine v_xald hX (by omega) (by omega) hN dL_law_956 ?_
  refine v_aload_n (i := 0) 0 rfl dL_law_957 ?_
  refine v_iload_n (i := 3) 3 rfl dL_law_958 ?_
  refine v_iconst dL_law_959 ?_
  refine v_iadd dL_law_960 ?_
  refine v_xald hX (by omega) (by omega) hN dL_law_961 ?_
  refine v_aload_n (i := 0) 0 rfl dL_law_962 ?_
  refine v_iload_n (i := 3) 3 rfl dL_law_963 ?_
  refine v_iconst dL_law_964 ?_
  refine v_iadd dL_law_965 ?_
  refine v_xald hX (by omega) (by omega) hN dL_law_966 ?_
  refine v_aload_n (i := 0) 0 rfl dL_law_967 ?_
  refine v_iload_n (i := 3) 3 rfl dL_law_968 ?_
  refine v_iconst dL_law_969 ?_
  refine v_iadd dL_law_970 ?_
  refine v_xald hX (by omega) (by omega) hN dL_law_971 ?_
  refine v_aload_n (i := 0) 0 rfl dL_law_972 ?_
  refine v_iload_n (i := 3) 3 rfl dL_law_973 ?_
  refine v_bipush dL_law_974 rfl ?_
  refine v_iadd dL_law_976 ?_
  refine v_xald hX (by omega) (by omega) hN dL_law_977 ?_
  refine LC_X11_raise hS hI hP (hb _) (hb _) (hb _) (hb _) (hb _) (hb _) (Nat.le_of_ble_eq_true rfl) (by omega) (by omega) (fun u => ?_)
  refine v_aload_n (i := 2) 2 rfl dL_law_981 ?_
  refine v_aload_n (i := 0) 0 rfl dL_law_982 ?_
  refine v_iload_n (i := 3) 3 rfl dL_law_983 ?_
  refine v_iconst dL_law_984 ?_
  refine v_iadd dL_law_985 ?_
  refine v_xald hX (by omega) (by omega) hN dL_law_986 ?_
  refine v_aload_n (i := 0) 0 rfl dL_law_987 ?_
  refine v_iload_n (i := 3) 3 rfl dL_law_988 ?_
  refine v_iconst dL_law_989 ?_
  refine v_iadd dL_law_990 ?_
  refine v_xald hX (by omega) (by omega) hN dL_law_991 ?_
  refine v_aload_n (i := 0) 0 rfl dL_law_992 ?_
  refine v_iload_n (i := 3) 3 rfl dL_law_993 ?_
  refine v_iconst dL_law_994 ?_
  refine v_iadd dL_law_995 ?_
  refine v_xald hX (by omega) (by omega) hN dL_law_996 ?_
  refine v_aload_n (i := 0) 0 rfl dL_law_997 ?_
  refine v_iload_n (i := 3) 3 rfl dL_law_998 ?_
  refine v_iconst dL_law_999 ?_
  refine v_iadd dL_law_1000 ?_
  refine v_xald hX (by omega) (by omega) hN dL_law_1001 ?_
  refine v_aload_n (i := 0) 0 rfl dL_law_1002 ?_
  refine v_iload_n (i := 3) 3 rfl dL_law_1003 ?_
  refine v_iconst dL_law_1004 ?_
  refine v_iadd dL_law_1005 ?_
  refine v_xald hX (by omega) (by omega) hN dL_law_1006 ?_
  refine v_aload_n (i := 0) 0 rfl dL_law_1007 ?_
  refine v_iload_n (i := 3) 3 rfl dL_law_1008 ?_
  refine v_bipush dL_law_1009 rfl ?_
  refine v_iadd dL_law_1011 ?_
  refine v_xald hX (by omega) (by omega) hN dL_law_1012 ?_
  refine v_perm perm_f ?_
  refine LR_X12_raise hS (hb _) (hb _) (hb _) (hb _) (hb _) (hb _) (Nat.le_of_ble_eq_true rfl) (by omega) (by omega) (fun w hw => ?_)
  refine v_perm perm_f.symm ?_
  refine v_lcmp_s dL_law_1016 ?_
  refine v_if0 1524 dL_law_1017 rfl ?_
  refine v_widen (k2 := kR + 12) (n2 := nR + 140) (by omega) (by omega) ?_
  have v3e : w.1 3 = v 3 := hw.1
  have v21e : w.1 21 = v 21 := hw.2
  exact kk hi f g tp sp sm sf sc bp bm u.2 tr ms0 pt0 po0 u0 u1 u2 u3 u4 u5 u6 w.2.1 w.2.2 kp mms mpt bd u.1 w.1 pv iv pv2 iv2 pl tu kpl ktu z0 z1 z2 z3 z4 z5 kn il (hNow) (by rw [v3e]; exact hKep) (by rw [v21e]; exact hTr) (by rw [v3e]; exact h3)
theorem law_c20 {x : Cx} {mo kw pi ta ms pt po nw pls ins tap e3 e4 e5 e6 e7 e8 bar fa pls2 ins2 tap2 d3 d4 d5 d6 d7 d8 bar2 h : Nat} {ad : Nat → Nat} {b : Nat} {i : Int} {N : Nat} {xf : Int → Int} {kR nR : Nat} (hX : Sc x b N xf) (hi0 : 0 ≤ i) (hi7 : i + 7 ≤ N) (hN : N < 2147483648) (hb : ∀ j : Int, -2147483648 ≤ xf j ∧ xf j < 2147483648) (hk : kR + 24 ≤ 600000) (hn : nR + 280 ≤ 7302250) (kk : LwK x mo kw pi ta ms pt po nw pls ins tap e3 e4 e5 e6 e7 e8 bar fa pls2 ins2 tap2 d3 d4 d5 d6 d7 d8 bar2 h ad 1524 [(0, ar b), (1, ar mo), (2, ar h), (3, ai i)] (kR + 12) (nR + 140)) : LwK x mo kw pi ta ms pt po nw pls ins tap e3 e4 e5 e6 e7 e8 bar fa pls2 ins2 tap2 d3 d4 d5 d6 d7 d8 bar2 h ad 1022 [(0, ar b), (1, ar mo), (2, ar h), (3, ai i)] kR nR := by
  intro hi f g tp sp sm sf sc bp bm fa0 tr ms0 pt0 po0 u0 u1 u2 u3 u4 u5 u6 by0 mtr kp mms mpt bd m v pv iv pv2 iv2 pl tu kpl ktu z0 z1 z2 z3 z4 z5 kn il hNow hKep hTr h3
  obtain ⟨hS, hP, hI, hR0, hR1, hR2, hR3, hR4, hR5, hR6⟩ := id hNow
  obtain ⟨hg0, hg1, hg2, hg3, hg4, -⟩ := id hS.1
  refine v_aload_n (i := 1) 1 rfl dL_law_1022 ?_
  refine v_aload_n (i := 0) 0 rfl dL_law_1023 ?_
  refine v_iload_n (i := 3) 3 rfl dL_law_1024 ?_
  refine v_iconst dL_law_1025 ?_
  refine v_iadd dL_law_1026 ?_
  refine v_xald hX (by omega) (by omega) hN dL_law_1027 ?_
  refine v_aload_n (i := 0) 0 rfl dL_law_1028 ?_
  refine v_iload_n (i := 3) 3 rfl dL_law_1029 ?_
  refine v_iconst dL_law_1030 ?_
  refine v_iadd dL_law_1031 ?_
  refine v_xald hX (by omega) (by omega) hN dL_law_1032 ?_
  refine v_aload_n (i := 0) 0 rfl dL_law_1033 ?_
  refine v_iload_n (i := 3) 3 rfl dL_law_1034 ?_
  refine v_iconst dL_law_1035 ?_
  refine v_iadd dL_law_1036 ?_
  refine v_xald hX (by omega) (by omega) hN dL_law_1037 ?_
  refine LC_X11_wager hS hI hP (hb _) (hb _) (hb _) (Nat.le_of_ble_eq_true rfl) (by omega) (by omega) (fun u => ?_)
  refine v_aload_n (i := 2) 2 rfl dL_law_1041 ?_
  refine v_aload_n (i := 0) 0 rfl dL_law_1042 ?_
  refine v_iload_n (i := 3) 3 rfl dL_law_1043 ?_
  refine v_iconst dL_law_1044 ?_
  refine v_iadd dL_law_1045 ?_
  refine v_xald hX (by omega) (by omega) hN dL_law_1046 ?_
  refine v_aload_n (i := 0) 0 rfl dL_law_1047 ?_
  refine v_iload_n (i := 3) 3 rfl dL_law_1048 ?_
  refine v_iconst dL_law_1049 ?_
  refine v_iadd dL_law_1050 ?_
  refine v_xald hX (by omega) (by omega) hN dL_law_1051 ?_
  refine v_aload_n (i := 0) 0 rfl dL_law_1052 ?_
  refine v_iload_n (i := 3) 3 rfl dL_law_1053 ?_
  refine v_iconst dL_law_1054 ?_
  refine v_iadd dL_law_1055 ?_
  refine v_xald hX (by omega) (by omega) hN dL_law_1056 ?_
  refine v_perm perm_f ?_
  refine LR_X12_wager hS (hb _) (hb _) (hb _) (Nat.le_of_ble_eq_true rfl) (by omega) (by omega) (fun w hw => ?_)
  refine v_perm perm_f.symm ?_
  refine v_icmp_s 1524 dL_law_1060 rfl ?_
  refine v_widen (k2 := kR + 12) (n2 := nR + 140) (by omega) (by omega) ?_
  have v3e : w.1 3 = v 3 := hw.1
  have v21e : w.1 21 = v 21 := hw.2.2.2
  exact kk hi f g tp sp sm sf sc bp bm u.2 tr ms0 pt0 po0 u0 u1 u2 u3 u4 u5 u6 w.2.1 w.2.2 kp mms mpt bd u.1 w.1 pv iv pv2 iv2 pl tu kpl ktu z0 z1 z2 z3 z4 z5 kn il (hNow) (by rw [v3e]; exact hKep) (by rw [v21e]; exact hTr) (by rw [v3e]; exact h3)
theorem law_c21 {x : Cx} {mo kw pi ta ms pt po nw pls ins tap e3 e4 e5 e6 e7 e8 bar fa pls2 ins2 tap2 d3 d4 d5 d6 d7 d8 bar2 h : Nat} {ad : Nat → Nat} {b : Nat} {i : Int} {N : Nat} {xf : Int → Int} {kR nR : Nat} (hX : Sc x b N xf) (hi0 : 0 ≤ i) (hi7 : i + 7 ≤ N) (hN : N < 2147483648) (hb : ∀ j : Int, -2147483648 ≤ xf j ∧ xf j < 2147483648) (hk : kR + 24 ≤ 600000) (hn : nR + 280 ≤ 7302250) (kk : LwK x mo kw pi ta ms pt po nw pls ins tap e3 e4 e5 e6 e7 e8 bar fa pls2 ins2 tap2 d3 d4 d5 d6 d7 d8 bar2 h ad 1524 [(0, ar b), (1, ar mo), (2, ar h), (3, ai i)] (kR + 12) (nR + 140)) : LwK x mo kw pi ta ms pt po nw pls ins tap e3 e4 e5 e6 e7 e8 bar fa pls2 ins2 tap2 d3 d4 d5 d6 d7 d8 bar2 h ad 1065 [(0, ar b), (1, ar mo), (2, ar h), (3, ai i)] kR nR := by
  intro hi f g tp sp sm sf sc bp bm fa0 tr ms0 pt0 po0 u0 u1 u2 u3 u4 u5 u6 by0 mtr kp mms mpt bd m v pv iv pv2 iv2 pl tu kpl ktu z0 z1 z2 z3 z4 z5 kn il hNow hKep hTr h3
  obtain ⟨hS, hP, hI, hR0, hR1, hR2, hR3, hR4, hR5, hR6⟩ := id hNow
  obtain ⟨hg0, hg1, hg2, hg3, hg4, -⟩ := id hS.1
  refine v_aload_n (i := 1) 1 rfl dL_law_1065 ?_
  refine v_aload_n (i := 0) 0 rfl dL_law_1066 ?_
  refine v_iload_n (i := 3) 3 rfl dL_law_1067 ?_
  refine v_iconst dL_law_1068 ?_
  refine v_iadd dL_law_1069 ?_
  refine v_xald hX (by omega) (by omega) hN dL_law_1070 ?_
  refine v_aload_n (i := 0) 0 rfl dL_law_1071 ?_
  refine v_iload_n (i := 3) 3 rfl dL_law_1072 ?_
  refine v_iconst dL_law_1073 ?_
  refine v_iadd dL_law_1074 ?_
  refine v_xald hX (by omega) (by omega) hN dL_law_1075 ?_
  refine LC_X11_glass hS hI hP (hb _) (hb _) (Nat.le_of_ble_eq_true rfl) (by omega) (by omega) (fun u => ?_)
  refine v_aload_n (i := 2) 2 rfl dL_law_1079 ?_
  refine v_aload_n (i := 0) 0 rfl dL_law_1080 ?_
  refine v_iload_n (i := 3) 3 rfl dL_law_1081 ?_
  refine v_iconst dL_law_1082 ?_
  refine v_iadd dL_law_1083 ?_
  refine v_xald hX (by omega) (by omega) hN dL_law_1084 ?_
  refine v_aload_n (i := 0) 0 rfl dL_law_1085 ?_
  refine v_iload_n (i := 3) 3 rfl dL_law_1086 ?_
  refine v_iconst dL_law_1087 ?_
  refine v_iadd dL_law_1088 ?_
  refine v_xald hX (by omega) (by omega) hN dL_law_1089 ?_
  refine v_perm perm_f ?_
  refine LR_X12_glass hS (hb _) (hb _) (Nat.le_of_ble_eq_true rfl) (by omega) (by omega) (fun w hw => ?_)
  obtain ⟨w1, w2⟩ := w
  have gf : f = w1 := hw.1.symm
  subst gf
  refine v_perm perm_f.symm ?_
  refine v_icmp_s 1524 dL_law_1093 rfl ?_
  refine v_widen (k2 := kR + 12) (n2 := nR + 140) (by omega) (by omega) ?_
  have v3e : w2.1 3 = v 3 := hw.2.1
  have v21e : w2.1 21 = v 21 := hw.2.2.2.2
  exact kk hi f g tp sp sm sf sc bp bm u.2 tr ms0 pt0 po0 u0 u1 u2 u3 u4 u5 u6 w2.2.1 w2.2.2 kp mms mpt bd u.1 w2.1 pv iv pv2 iv2 pl tu kpl ktu z0 z1 z2 z3 z4 z5 kn il (hNow) (by rw [v3e]; exact hKep) (by rw [v21e]; exact hTr) (by rw [v3e]; exact h3)
theorem law_c22 {x : Cx} {mo kw pi ta ms pt po nw pls ins tap e3 e4 e5 e6 e7 e8 bar fa pls2 ins2 tap2 d3 d4 d5 d6 d7 d8 bar2 h : Nat} {ad : Nat → Nat} {b : Nat} {i : Int} {N : Nat} {xf : Int → Int} {kR nR : Nat} (hX : Sc x b N xf) (hi0 : 0 ≤ i) (hi7 : i + 7 ≤ N) (hN : N < 2147483648) (hb : ∀ j : Int, -2147483648 ≤ xf j ∧ xf j < 2147483648) (hk : kR + 24 ≤ 600000) (hn : nR + 280 ≤ 7302250) (kk : LwK x mo kw pi ta ms pt po nw pls ins tap e3 e4 e5 e6 e7 e8 bar fa pls2 ins2 tap2 d3 d4 d5 d6 d7 d8 bar2 h ad 1524 [(0, ar b), (1, ar mo), (2, ar h), (3, ai i)] (kR + 12) (nR + 140)) : LwK x mo kw pi ta ms pt po nw pls ins tap e3 e4 e5 e6 e7 e8 bar fa pls2 ins2 tap2 d3 d4 d5 d6 d7 d8 bar2 h ad 1098 [(0, ar b), (1, ar mo), (2, ar h), (3, ai i)] kR nR := by
  intro hi f g tp sp sm sf sc bp bm fa0 tr ms0 pt0 po0 u0 u1 u2 u3 u4 u5 u6 by0 mtr kp mms mpt bd m v pv iv pv2 iv2 pl tu kpl ktu z0 z1 z2 z3 z4 z5 kn il hNow hKep hTr h3
  obtain ⟨hS, hP, hI, hR0, hR1, hR2, hR3, hR4, hR5, hR6⟩ := id hNow
  obtain ⟨hg0, hg1, hg2, hg3, hg4, -⟩ := id hS.1
  refine v_aload_n (i := 1) 1 rfl dL_law_1098 ?_
  refine v_aload_n (i := 0) 0 rfl dL_law_1099 ?_
  refine v_iload_n (i := 3) 3 rfl dL_law_1100 ?_
  refine v_iconst dL_law_1101 ?_
  refine v_iadd dL_law_1102 ?_
  refine v_xald hX (by omega) (by omega) hN dL_law_1103 ?_
  refine v_aload_n (i := 0) 0 rfl dL_law_1104 ?_
  refine v_iload_n (i := 3) 3 rfl dL_law_1105 ?_
  refine v_iconst dL_law_1106 ?_
  refine v_iadd dL_law_1107 ?_
  refine v_xald hX (by omega) (by omega) hN dL_law_1108 ?_
  refine LC_X11_stuck hS hI hP (hb _) (hb _) (Nat.le_of_ble_eq_true rfl) (by omega) (by omega) (fun u => ?_)
  refine v_aload_n (i := 2) 2 rfl dL_law_1112 ?_
  refine v_aload_n (i := 0) 0 rfl dL_law_1113 ?_
  refine v_iload_n (i := 3) 3 rfl dL_law_1114 ?_
  refine v_iconst dL_law_1115 ?_
  refine v_iadd dL_law_1116 ?_
  refine v_xald hX (by omega) (by omega) hN dL_law_1117 ?_
  refine v_aload_n (i := 0) 0 rfl dL_law_1118 ?_
  refine v_iload_n (i := 3) 3 rfl dL_law_1119 ?_
  refine v_iconst dL_law_1120 ?_
  refine v_iadd dL_law_1121 ?_
  refine v_xald hX (by omega) (by omega) hN dL_law_1122 ?_
  refine v_perm perm_f ?_
  refine LR_X12_stuck hS (hb _) (hb _) (Nat.le_of_ble_eq_true rfl) (by omega) (by omega) (fun w hw => ?_)
  refine v_perm perm_f.symm ?_
  refine v_icmp_s 1524 dL_law_1126 rfl ?_
  refine v_widen (k2 := kR + 12) (n2 := nR + 140) (by omega) (by omega) ?_
  have v3e : w.1 3 = v 3 := hw.1
  have v21e : w.1 21 = v 21 := hw.2.2.2
  exact kk hi f g tp sp sm sf sc bp bm u.2 tr ms0 pt0 po0 u0 u1 u2 u3 u4 u5 u6 w.2.1 w.2.2 kp mms mpt bd u.1 w.1 pv iv pv2 iv2 pl tu kpl ktu z0 z1 z2 z3 z4 z5 kn il (hNow) (by rw [v3e]; exact hKep) (by rw [v21e]; exact hTr) (by rw [v3e]; exact h3)
theorem law_c23 {x : Cx} {mo kw pi ta ms pt po nw pls ins tap e3 e4 e5 e6 e7 e8 bar fa pls2 ins2 tap2 d3 d4 d5 d6 d7 d8 bar2 h : Nat} {ad : Nat → Nat} {b : Nat} {i : Int} {N : Nat} {xf : Int → Int} {kR nR : Nat} (hX : Sc x b N xf) (hi0 : 0 ≤ i) (hi7 : i + 7 ≤ N) (hN : N < 2147483648) (hb : ∀ j : Int, -2147483648 ≤ xf j ∧ xf j < 2147483648) (hk : kR + 24 ≤ 600000) (hn : nR + 280 ≤ 7302250) (kk : LwK x mo kw pi ta ms pt po nw pls ins tap e3 e4 e5 e6 e7 e8 bar fa pls2 ins2 tap2 d3 d4 d5 d6 d7 d8 bar2 h ad 1524 [(0, ar b), (1, ar mo), (2, ar h), (3, ai i)] (kR + 12) (nR + 140)) : LwK x mo kw pi ta ms pt po nw pls ins tap e3 e4 e5 e6 e7 e8 bar fa pls2 ins2 tap2 d3 d4 d5 d6 d7 d8 bar2 h ad 1131 [(0, ar b), (1, ar mo), (2, ar h), (3, ai i)] kR nR := by
  intro hi f g tp sp sm sf sc bp bm fa0 tr ms0 pt0 po0 u0 u1 u2 u3 u4 u5 u6 by0 mtr kp mms mpt bd m v pv iv pv2 iv2 pl tu kpl ktu z0 z1 z2 z3 z4 z5 kn il hNow hKep hTr h3
  obtain ⟨hS, hP, hI, hR0, hR1, hR2, hR3, hR4, hR5, hR6⟩ := id hNow
  obtain ⟨hg0, hg1, hg2, hg3, hg4, -⟩ := id hS.1
  refine v_aload_n (i := 1) 1 rfl dL_law_1131 ?_
  refine v_aload_n (i := 0) 0 rfl dL_law_1132 ?_
  refine v_iload_n (i := 3) 3 rfl dL_law_1133 ?_
  refine v_iconst dL_law_1134 ?_
  refine v_iadd dL_law_1135 ?_
  refine v_xald hX (by omega) (by omega) hN dL_law_1136 ?_
  refine v_aload_n (i := 0) 0 rfl dL_law_1137 ?_
  refine v_iload_n (i := 3) 3 rfl dL_law_1138 ?_
  refine v_iconst dL_law_1139 ?_
  refine v_iadd dL_law_1140 ?_
  refine v_xald hX (by omega) (by omega) hN dL_law_1141 ?_
  refine v_aload_n (i := 0) 0 rfl dL_law_1142 ?_
  refine v_iload_n (i := 3) 3 rfl dL_law_1143 ?_
  refine v_iconst dL_law_1144 ?_
  refine v_iadd dL_law_1145 ?_
  refine v_xald hX (by omega) (by omega) hN dL_law_1146 ?_
  refine v_aload_n (i := 0) 0 rfl dL_law_1147 ?_
  refine v_iload_n (i := 3) 3 rfl dL_law_1148 ?_
  refine v_iconst dL_law_1149 ?_
  refine v_iadd dL_law_1150 ?_
  refine v_xald hX (by omega) (by omega) hN dL_law_1151 ?_
  refine LC_X11_floor hS hI hP (hb _) (hb _) (hb _) (hb _) (Nat.le_of_ble_eq_true rfl) (by omega) (by omega) (fun u => ?_)
  refine v_aload_n (i := 2) 2 rfl dL_law_1155 ?_
  refine v_aload_n (i := 0) 0 rfl dL_law_1156 ?_
  refine v_iload_n (i := 3) 3 rfl dL_law_1157 ?_
  refine v_iconst dL_law_1158 ?_
  refine v_iadd dL_law_1159 ?_
  refine v_xald hX (by omega) (by omega) hN dL_law_1160 ?_
  refine v_aload_n (i := 0) 0 rfl dL_law_1161 ?_
  refine v_iload_n (i := 3) 3 rfl dL_law_1162 ?_
  refine v_iconst dL_law_1163 ?_
  refine v_iadd dL_law_1164 ?_
  refine v_xald hX (by omega) (by omega) hN dL_law_1165 ?_
  refine v_aload_n (i := 0) 0 rfl dL_law_1166 ?_
  refine v_iload_n (i := 3) 3 rfl dL_law_1167 ?_
  refine v_iconst dL_law_1168 ?_
  refine v_iadd dL_law_1169 ?_
  refine v_xald hX (by omega) (by omega) hN dL_law_1170 ?_
  refine v_aload_n (i := 0) 0 rfl dL_law_1171 ?_
  refine v_iload_n (i := 3) 3 rfl dL_law_1172 ?_
  refine v_iconst dL_law_1173 ?_
  refine v_iadd dL_law_1174 ?_
  refine v_xald hX (by omega) (by omega) hN dL_law_1175 ?_
  refine v_perm perm_f ?_
  refine LR_X12_floor hS (hb _) (hb _) (hb _) (hb _) (Nat.le_of_ble_eq_true rfl) (by omega) (by omega) (fun w hw => ?_)
  refine v_perm perm_f.symm ?_
  refine v_lcmp_s dL_law_1179 ?_
  refine v_if0 1524 dL_law_1180 rfl ?_
  refine v_widen (k2 := kR + 12) (n2 := nR + 140) (by omega) (by omega) ?_
  have v3e : w.1 3 = v 3 := hw.1
  have v21e : w.1 21 = v 21 := hw.2.2.2
  exact kk hi f g tp sp sm sf sc bp bm u.2 tr ms0 pt0 po0 u0 u1 u2 u3 u4 u5 u6 w.2.1 w.2.2 kp mms mpt bd u.1 w.1 pv iv pv2 iv2 pl tu kpl ktu z0 z1 z2 z3 z4 z5 kn il (hNow) (by rw [v3e]; exact hKep) (by rw [v21e]; exact hTr) (by rw [v3e]; exact h3)
theorem law_c24 {x : Cx} {mo kw pi ta ms pt po nw pls ins tap e3 e4 e5 e6 e7 e8 bar fa pls2 ins2 tap2 d3 d4 d5 d6 d7 d8 bar2 h : Nat} {ad : Nat → Nat} {b : Nat} {i : Int} {N : Nat} {xf : Int → Int} {kR nR : Nat} (hX : Sc x b N xf) (hi0 : 0 ≤ i) (hi7 : i + 7 ≤ N) (hN : N < 2147483648) (hb : ∀ j : Int, -2147483648 ≤ xf j ∧ xf j < 2147483648) (hk : kR + 24 ≤ 600000) (hn : nR + 280 ≤ 7302250) (kk : LwK x mo kw pi ta ms pt po nw pls ins tap e3 e4 e5 e6 e7 e8 bar fa pls2 ins2 tap2 d3 d4 d5 d6 d7 d8 bar2 h ad 1524 [(0, ar b), (1, ar mo), (2, ar h), (3, ai i)] (kR + 12) (nR + 140)) : LwK x mo kw pi ta ms pt po nw pls ins tap e3 e4 e5 e6 e7 e8 bar fa pls2 ins2 tap2 d3 d4 d5 d6 d7 d8 bar2 h ad 1185 [(0, ar b), (1, ar mo), (2, ar h), (3, ai i)] kR nR := by
  intro hi f g tp sp sm sf sc bp bm fa0 tr ms0 pt0 po0 u0 u1 u2 u3 u4 u5 u6 by0 mtr kp mms mpt bd m v pv iv pv2 iv2 pl tu kpl ktu z0 z1 z2 z3 z4 z5 kn il hNow hKep hTr h3
  obtain ⟨hS, hP, hI, hR0, hR1, hR2, hR3, hR4, hR5, hR6⟩ := id hNow
  obtain ⟨hg0, hg1, hg2, hg3, hg4, -⟩ := id hS.1
  refine v_aload_n (i := 1) 1 rfl dL_law_1185 ?_
  refine v_aload_n (i := 0) 0 rfl dL_law_1186 ?_
  refine v_iload_n (i := 3) 3 rfl dL_law_1187 ?_
  refine v_iconst dL_law_1188 ?_
  refine v_iadd dL_law_1189 ?_
  refine v_xald hX (by omega) (by omega) hN dL_law_1190 ?_
  refine LC_X11_order hS hI hP (hb _) (Nat.le_of_ble_eq_true rfl) (by omega) (by omega) (fun u => ?_)
  refine v_aload_n (i := 2) 2 rfl dL_law_1194 ?_
  refine v_aload_n (i := 0) 0 rfl dL_law_1195 ?_
  refine v_iload_n (i := 3) 3 rfl dL_law_1196 ?_
  refine v_iconst dL_law_1197 ?_
  refine v_iadd dL_law_1198 ?_
  refine v_xald hX (by omega) (by omega) hN dL_law_1199 ?_
  refine v_perm perm_f ?_
  refine LR_X12_order hS (hb _) (Nat.le_of_ble_eq_true rfl) (by omega) (by omega) (fun w hw => ?_)
  refine v_perm perm_f.symm ?_
  refine v_icmp_s 1524 dL_law_1203 rfl ?_
  refine v_widen (k2 := kR + 12) (n2 := nR + 140) (by omega) (by omega) ?_
  have v3e : w.2.1 3 = v 3 := hw.1
  have v21e : w.2.1 21 = v 21 := hw.2.2.2
  exact kk hi f g tp sp sm sf sc bp bm u.2.2 tr u.1 pt0 po0 u0 u1 u2 u3 u4 u5 u6 w.2.2.1 w.2.2.2 kp w.1 mpt bd u.2.1 w.2.1 pv iv pv2 iv2 pl tu kpl ktu z0 z1 z2 z3 z4 z5 kn il (hNow) (by rw [v3e]; exact hKep) (by rw [v21e]; exact hTr) (by rw [v3e]; exact h3)
theorem law_c25 {x : Cx} {mo kw pi ta ms pt po nw pls ins tap e3 e4 e5 e6 e7 e8 bar fa pls2 ins2 tap2 d3 d4 d5 d6 d7 d8 bar2 h : Nat} {ad : Nat → Nat} {b : Nat} {i : Int} {N : Nat} {xf : Int → Int} {kR nR : Nat} (hX : Sc x b N xf) (hi0 : 0 ≤ i) (hi7 : i + 7 ≤ N) (hN : N < 2147483648) (hb : ∀ j : Int, -2147483648 ≤ xf j ∧ xf j < 2147483648) (hk : kR + 24 ≤ 600000) (hn : nR + 280 ≤ 7302250) (kk : LwK x mo kw pi ta ms pt po nw pls ins tap e3 e4 e5 e6 e7 e8 bar fa pls2 ins2 tap2 d3 d4 d5 d6 d7 d8 bar2 h ad 1524 [(0, ar b), (1, ar mo), (2, ar h), (3, ai i)] (kR + 12) (nR + 140)) : LwK x mo kw pi ta ms pt po nw pls ins tap e3 e4 e5 e6 e7 e8 bar fa pls2 ins2 tap2 d3 d4 d5 d6 d7 d8 bar2 h ad 1208 [(0, ar b), (1, ar mo), (2, ar h), (3, ai i)] kR nR := by
  intro hi f g tp sp sm sf sc bp bm fa0 tr ms0 pt0 po0 u0 u1 u2 u3 u4 u5 u6 by0 mtr kp mms mpt bd m v pv iv pv2 iv2 pl tu kpl ktu z0 z1 z2 z3 z4 z5 kn il hNow hKep hTr h3
  obtain ⟨hS, hP, hI, hR0, hR1, hR2, hR3, hR4, hR5, hR6⟩ := id hNow
  obtain ⟨hg0, hg1, hg2, hg3, hg4, -⟩ := id hS.1
  refine v_aload_n (i := 1) 1 rfl dL_law_1208 ?_
  refine v_aload_n (i := 0) 0 rfl dL_law_1209 ?_
  refine v_iload_n (i := 3) 3 rfl dL_law_1210 ?_
  refine v_iconst dL_law_1211 ?_
  refine v_iadd dL_law_1212 ?_
  refine v_xald hX (by omega) (by omega) hN dL_law_1213 ?_
  refine LC_X11_title hS hI hP (hb _) (Nat.le_of_ble_eq_true rfl) (by omega) (by omega) (fun u => ?_)
  refine v_aload_n (i := 2) 2 rfl dL_law_1217 ?_
  refine v_aload_n (i := 0) 0 rfl dL_law_1218 ?_
  refine v_iload_n (i := 3) 3 rfl dL_law_1219 ?_
  refine v_iconst dL_law_1220 ?_
  refine v_iadd dL_law_1221 ?_
  refine v_xald hX (by omega) (by omega) hN dL_law_1222 ?_
  refine v_perm perm_f ?_
  refine LR_X12_title hS (hb _) (Nat.le_of_ble_eq_true rfl) (by omega) (by omega) (fun w hw => ?_)
  refine v_perm perm_f.symm ?_
  refine v_icmp_s 1524 dL_law_1226 rfl ?_
  refine v_widen (k2 := kR + 12) (n2 := nR + 140) (by omega) (by omega) ?_
  have v3e : w.2.2.1 3 = v 3 := hw.1
  have v21e : w.2.2.1 21 = v 21 := hw.2
  exact kk hi f g tp sp sm sf sc bp bm u.2.2.2 tr u.1 u.2.1 po0 u0 u1 u2 u3 u4 u5 u6 w.2.2.2.1 w.2.2.2.2 kp w.1 w.2.1 bd u.2.2.1 w.2.2.1 pv iv pv2 iv2 pl tu kpl ktu z0 z1 z2 z3 z4 z5 kn il (hNow) (by rw [v3e]; exact hKep) (by rw [v21e]; exact hTr) (by rw [v3e]; exact h3)
theorem law_c26 {x : Cx} {mo kw pi ta ms pt po nw pls ins tap e3 e4 e5 e6 e7 e8 bar fa pls2 ins2 tap2 d3 d4 d5 d6 d7 d8 bar2 h : Nat} {ad : Nat → Nat} {b : Nat} {i : Int} {N : Nat} {xf : Int → Int} {kR nR : Nat} (hX : Sc x b N xf) (hi0 : 0 ≤ i) (hi7 : i + 7 ≤ N) (hN : N < 2147483648) (hb : ∀ j : Int, -2147483648 ≤ xf j ∧ xf j < 2147483648) (hk : kR + 24 ≤ 600000) (hn : nR + 280 ≤ 7302250) (kk : LwK x mo kw pi ta ms pt po nw pls ins tap e3 e4 e5 e6 e7 e8 bar fa pls2 ins2 tap2 d3 d4 d5 d6 d7 d8 bar2 h ad 1524 [(0, ar b), (1, ar mo), (2, ar h), (3, ai i)] (kR + 12) (nR + 140)) : LwK x mo kw pi ta ms pt po nw pls ins tap e3 e4 e5 e6 e7 e8 bar fa pls2 ins2 tap2 d3 d4 d5 d6 d7 d8 bar2 h ad 1231 [(0, ar b), (1, ar mo), (2, ar h), (3, ai i)] kR nR := by
  intro hi f g tp sp sm sf sc bp bm fa0 tr ms0 pt0 po0 u0 u1 u2 u3 u4 u5 u6 by0 mtr kp mms mpt bd m v pv iv pv2 iv2 pl tu kpl ktu z0 z1 z2 z3 z4 z5 kn il hNow hKep hTr h3
  obtain ⟨hS, hP, hI, hR0, hR1, hR2, hR3, hR4, hR5, hR6⟩ := id hNow
  obtain ⟨hg0, hg1, hg2, hg3, hg4, -⟩ := id hS.1
  refine v_aload_n (i := 1) 1 rfl dL_law_1231 ?_
  refine v_aload_n (i := 0) 0 rfl dL_law_1232 ?_
  refine v_iload_n (i := 3) 3 rfl dL_law_1233 ?_
  refine v_iconst dL_law_1234 ?_
  refine v_iadd dL_law_1235 ?_
  refine v_xald hX (by omega) (by omega) hN dL_law_1236 ?_
  refine v_aload_n (i := 0) 0 rfl dL_law_1237 ?_
  refine v_iload_n (i := 3) 3 rfl dL_law_1238 ?_
  refine v_iconst dL_law_1239 ?_
  refine v_iadd dL_law_1240 ?_
  refine v_xald hX (by omega) (by omega) hN dL_law_1241 ?_
  refine v_aload_n (i := 0) 0 rfl dL_law_1242 ?_
  refine v_iload_n (i := 3) 3 rfl dL_law_1243 ?_
  refine v_iconst dL_law_1244 ?_
  refine v_iadd dL_law_1245 ?_
  refine v_xald hX (by omega) (by omega) hN dL_law_1246 ?_
  refine v_aload_n (i := 0) 0 rfl dL_law_1247 ?_
  refine v_iload_n (i := 3) 3 rfl dL_law_1248 ?_
  refine v_iconst dL_law_1249 ?_
  refine v_iadd dL_law_1250 ?_
  refine v_xald hX (by omega) (by omega) hN dL_law_1251 ?_
  refine LC_X11_see hS hP hR1 hR2 hR3 hR4 (hb _) (hb _) (hb _) (hb _) (Nat.le_of_ble_eq_true rfl) (by omega) (by omega) (fun u hu => ?_)
  obtain ⟨y1, y2, y3, y4, y5, y6⟩ := u
  obtain ⟨hu, hrow⟩ := hu
  have h1 : y1 = (qSee f (xf (i + 1)) (xf (i + 2)) (xf (i + 3)) (xf (i + 4))).1 := congrArg Prod.fst hu
  have h2 : y2 = (qSee f (xf (i + 1)) (xf (i + 2)) (xf (i + 3)) (xf (i + 4))).2 := congrArg Prod.snd hu
  subst h2
  subst h1
  dsimp only at hrow
  refine v_aload_n (i := 2) 2 rfl dL_law_1255 ?_
  refine v_aload_n (i := 0) 0 rfl dL_law_1256 ?_
  refine v_iload_n (i := 3) 3 rfl dL_law_1257 ?_
  refine v_iconst dL_law_1258 ?_
  refine v_iadd dL_law_1259 ?_
  refine v_xald hX (by omega) (by omega) hN dL_law_1260 ?_
  refine v_aload_n (i := 0) 0 rfl dL_law_1261 ?_
  refine v_iload_n (i := 3) 3 rfl dL_law_1262 ?_
  refine v_iconst dL_law_1263 ?_
  refine v_iadd dL_law_1264 ?_
  refine v_xald hX (by omega) (by omega) hN dL_law_1265 ?_
  refine v_aload_n (i := 0) 0 rfl dL_law_1266 ?_
  refine v_iload_n (i := 3) 3 rfl dL_law_1267 ?_
  refine v_iconst dL_law_1268 ?_
  refine v_iadd dL_law_1269 ?_
  refine v_xald hX (by omega) (by omega) hN dL_law_1270 ?_
  refine v_aload_n (i := 0) 0 rfl dL_law_1271 ?_
  refine v_iload_n (i := 3) 3 rfl dL_law_1272 ?_
  refine v_iconst dL_law_1273 ?_
  refine v_iadd dL_law_1274 ?_
  refine v_xald hX (by omega) (by omega) hN dL_law_1275 ?_
  refine v_perm perm_f ?_
  refine LR_X12_see hS (hb _) (hb _) (hb _) (hb _) (Nat.le_of_ble_eq_true rfl) (by omega) (by omega) (fun w hw => ?_)
  obtain ⟨w1, w2⟩ := w
  have g1 : w1 = (qSee f (xf (i + 1)) (xf (i + 2)) (xf (i + 3)) (xf (i + 4))).1 := congrArg Prod.fst hw
  have g2 : w2 = (qSee f (xf (i + 1)) (xf (i + 2)) (xf (i + 3)) (xf (i + 4))).2 := congrArg Prod.snd hw
  subst g2
  subst g1
  refine v_perm perm_f.symm ?_
  refine v_icmp_s 1524 dL_law_1279 rfl ?_
  refine v_widen (k2 := kR + 12) (n2 := nR + 140) (by omega) (by omega) ?_
  have hSF : SOK (qSee f (xf (i + 1)) (xf (i + 2)) (xf (i + 3)) (xf (i + 4))).2 := SOK_see hS
  have ez : zpA ta (qSee f (xf (i + 1)) (xf (i + 2)) (xf (i + 3)) (xf (i + 4))).2 pl tu = zpA ta f pl tu := zpA_cf hS (qSee_k hg2 (by omega) (by omega)) (fun j j0 j1 => qSee_k hg2 (by omega) (by omega))
  rw [← ez]
  exact kk hi ((qSee f (xf (i + 1)) (xf (i + 2)) (xf (i + 3)) (xf (i + 4))).2) g tp y3 y4 y5 y6 bp bm fa0 tr ms0 pt0 po0 u0 u1 u2 u3 u4 u5 u6 by0 mtr kp mms mpt bd m v pv iv pv2 iv2 pl tu kpl ktu z0 z1 z2 z3 z4 z5 kn il (⟨hSF, PI_eq (qSee_k hg2 (by omega) (by omega)) hP, WI_eq (qSee_k hg2 (by omega) (by omega)) (fun j hj => qSee_k hg2 (by omega) (by omega)) hI hg1.2, (RW_eq (fun j j0 j1 => qSee_k hg2 (by omega) (by omega)) hR0), hrow.1, hrow.2.1, hrow.2.2.1, hrow.2.2.2, (RW_eq (fun j j0 j1 => qSee_k hg2 (by omega) (by omega)) hR5), (RW_eq (fun j j0 j1 => qSee_k hg2 (by omega) (by omega)) hR6)⟩) hKep hTr h3
theorem law_c27 {x : Cx} {mo kw pi ta ms pt po nw pls ins tap e3 e4 e5 e6 e7 e8 bar fa pls2 ins2 tap2 d3 d4 d5 d6 d7 d8 bar2 h : Nat} {ad : Nat → Nat} {b : Nat} {i : Int} {N : Nat} {xf : Int → Int} {kR nR : Nat} (hX : Sc x b N xf) (hi0 : 0 ≤ i) (hi7 : i + 7 ≤ N) (hN : N < 2147483648) (hb : ∀ j : Int, -2147483648 ≤ xf j ∧ xf j < 2147483648) (hk : kR + 24 ≤ 600000) (hn : nR + 280 ≤ 7302250) (kk : LwK x mo kw pi ta ms pt po nw pls ins tap e3 e4 e5 e6 e7 e8 bar fa pls2 ins2 tap2 d3 d4 d5 d6 d7 d8 bar2 h ad 1524 [(0, ar b), (1, ar mo), (2, ar h), (3, ai i)] (kR + 12) (nR + 140)) : LwK x mo kw pi ta ms pt po nw pls ins tap e3 e4 e5 e6 e7 e8 bar fa pls2 ins2 tap2 d3 d4 d5 d6 d7 d8 bar2 h ad 1284 [(0, ar b), (1, ar mo), (2, ar h), (3, ai i)] kR nR := by
  intro hi f g tp sp sm sf sc bp bm fa0 tr ms0 pt0 po0 u0 u1 u2 u3 u4 u5 u6 by0 mtr kp mms mpt bd m v pv iv pv2 iv2 pl tu kpl ktu z0 z1 z2 z3 z4 z5 kn il hNow hKep hTr h3
  obtain ⟨hS, hP, hI, hR0, hR1, hR2, hR3, hR4, hR5, hR6⟩ := id hNow
  obtain ⟨hg0, hg1, hg2, hg3, hg4, -⟩ := id hS.1
  refine v_aload_n (i := 1) 1 rfl dL_law_1284 ?_
  refine v_aload_n (i := 0) 0 rfl dL_law_1285 ?_
  refine v_iload_n (i := 3) 3 rfl dL_law_1286 ?_
  refine v_iconst dL_law_1287 ?_
  refine v_iadd dL_law_1288 ?_
  refine v_xald hX (by omega) (by omega) hN dL_law_1289 ?_
  refine LC_X11_can hS hI hP hR1 hR2 hR3 hR4 (hb _) (Nat.le_of_ble_eq_true rfl) (by omega) (by omega) (fun u => ?_)
  refine v_aload_n (i := 2) 2 rfl dL_law_1293 ?_
  refine v_aload_n (i := 0) 0 rfl dL_law_1294 ?_
  refine v_iload_n (i := 3) 3 rfl dL_law_1295 ?_
  refine v_iconst dL_law_1296 ?_
  refine v_iadd dL_law_1297 ?_
  refine v_xald hX (by omega) (by omega) hN dL_law_1298 ?_
  refine v_perm perm_f ?_
  refine LR_X12_can hS (hb _) (Nat.le_of_ble_eq_true rfl) (by omega) (by omega) (fun w hw => ?_)
  refine v_perm perm_f.symm ?_
  refine v_icmp_s 1524 dL_law_1302 rfl ?_
  refine v_widen (k2 := kR + 12) (n2 := nR + 140) (by omega) (by omega) ?_
  have v3e : w.1 3 = v 3 := hw.1
  have v21e : w.1 21 = v 21 := hw.2.2.2
  exact kk hi f g tp sp sm sf sc bp bm u.2 tr ms0 pt0 po0 u0 u1 u2 u3 u4 u5 u6 w.2.1 w.2.2 kp mms mpt bd u.1 w.1 pv iv pv2 iv2 pl tu kpl ktu z0 z1 z2 z3 z4 z5 kn il (hNow) (by rw [v3e]; exact hKep) (by rw [v21e]; exact hTr) (by rw [v3e]; exact h3)
theorem law_c28 {x : Cx} {mo kw pi ta ms pt po nw pls ins tap e3 e4 e5 e6 e7 e8 bar fa pls2 ins2 tap2 d3 d4 d5 d6 d7 d8 bar2 h : Nat} {ad : Nat → Nat} {b : Nat} {i : Int} {N : Nat} {xf : Int → Int} {kR nR : Nat} (hX : Sc x b N xf) (hi0 : 0 ≤ i) (hi7 : i + 7 ≤ N) (hN : N < 2147483648) (hb : ∀ j : Int, -2147483648 ≤ xf j ∧ xf j < 2147483648) (hk : kR + 24 ≤ 600000) (hn : nR + 280 ≤ 7302250) (kk : LwK x mo kw pi ta ms pt po nw pls ins tap e3 e4 e5 e6 e7 e8 bar fa pls2 ins2 tap2 d3 d4 d5 d6 d7 d8 bar2 h ad 1524 [(0, ar b), (1, ar mo), (2, ar h), (3, ai i)] (kR + 12) (nR + 140)) : LwK x mo kw pi ta ms pt po nw pls ins tap e3 e4 e5 e6 e7 e8 bar fa pls2 ins2 tap2 d3 d4 d5 d6 d7 d8 bar2 h ad 1307 [(0, ar b), (1, ar mo), (2, ar h), (3, ai i)] kR nR := by
  intro hi f g tp sp sm sf sc bp bm fa0 tr ms0 pt0 po0 u0 u1 u2 u3 u4 u5 u6 by0 mtr kp mms mpt bd m v pv iv pv2 iv2 pl tu kpl ktu z0 z1 z2 z3 z4 z5 kn il hNow hKep hTr h3
  obtain ⟨hS, hP, hI, hR0, hR1, hR2, hR3, hR4, hR5, hR6⟩ := id hNow
  obtain ⟨hg0, hg1, hg2, hg3, hg4, -⟩ := id hS.1
  refine v_aload_n (i := 1) 1 rfl dL_law_1307 ?_
  refine v_aload_n (i := 0) 0 rfl dL_law_1308 ?_
  refine v_iload_n (i := 3) 3 rfl dL_law_1309 ?_
  refine v_iconst dL_law_1310 ?_
  refine v_iadd dL_law_1311 ?_
  refine v_xald hX (by omega) (by omega) hN dL_law_1312 ?_
  refine LC_X11_skills hS hI hP hR1 hR2 hR3 hR4 (hb _) (Nat.le_of_ble_eq_true rfl) (by omega) (by omega) (fun u => ?_)
  refine v_aload_n (i := 2) 2 rfl dL_law_1316 ?_
  refine v_aload_n (i := 0) 0 rfl dL_law_1317 ?_
  refine v_iload_n (i := 3) 3 rfl dL_law_1318 ?_
  refine v_iconst dL_law_1319 ?_
  refine v_iadd dL_law_1320 ?_
  refine v_xald hX (by omega) (by omega) hN dL_law_1321 ?_
  refine v_perm perm_f ?_
  refine LR_X12_skills hS (hb _) (Nat.le_of_ble_eq_true rfl) (by omega) (by omega) (fun w hw => ?_)
  obtain ⟨w1, w2⟩ := w
  have gf : f = w1 := hw.1.symm
  subst gf
  refine v_perm perm_f.symm ?_
  refine v_icmp_s 1524 dL_law_1325 rfl ?_
  refine v_widen (k2 := kR + 12) (n2 := nR + 140) (by omega) (by omega) ?_
  have v3e : w2.1 3 = v 3 := hw.2.1
  have v21e : w2.1 21 = v 21 := hw.2.2.2.2
  exact kk hi f g tp sp sm sf sc bp bm u.2 tr ms0 pt0 po0 u0 u1 u2 u3 u4 u5 u6 w2.2.1 w2.2.2 kp mms mpt bd u.1 w2.1 pv iv pv2 iv2 pl tu kpl ktu z0 z1 z2 z3 z4 z5 kn il (hNow) (by rw [v3e]; exact hKep) (by rw [v21e]; exact hTr) (by rw [v3e]; exact h3)
theorem law_c29 {x : Cx} {mo kw pi ta ms pt po nw pls ins tap e3 e4 e5 e6 e7 e8 bar fa pls2 ins2 tap2 d3 d4 d5 d6 d7 d8 bar2 h : Nat} {ad : Nat → Nat} {b : Nat} {i : Int} {N : Nat} {xf : Int → Int} {kR nR : Nat} (hX : Sc x b N xf) (hi0 : 0 ≤ i) (hi7 : i + 7 ≤ N) (hN : N < 2147483648) (hb : ∀ j : Int, -2147483648 ≤ xf j ∧ xf j < 2147483648) (hk : kR + 24 ≤ 600000) (hn : nR + 280 ≤ 7302250) (kk : LwK x mo kw pi ta ms pt po nw pls ins tap e3 e4 e5 e6 e7 e8 bar fa pls2 ins2 tap2 d3 d4 d5 d6 d7 d8 bar2 h ad 1524 [(0, ar b), (1, ar mo), (2, ar h), (3, ai i)] (kR + 12) (nR + 140)) : LwK x mo kw pi ta ms pt po nw pls ins tap e3 e4 e5 e6 e7 e8 bar fa pls2 ins2 tap2 d3 d4 d5 d6 d7 d8 bar2 h ad 1330 [(0, ar b), (1, ar mo), (2, ar h), (3, ai i)] kR nR := by
  intro hi f g tp sp sm sf sc bp bm fa0 tr ms0 pt0 po0 u0 u1 u2 u3 u4 u5 u6 by0 mtr kp mms mpt bd m v pv iv pv2 iv2 pl tu kpl ktu z0 z1 z2 z3 z4 z5 kn il hNow hKep hTr h3
  obtain ⟨hS, hP, hI, hR0, hR1, hR2, hR3, hR4, hR5, hR6⟩ := id hNow
  obtain ⟨hg0, hg1, hg2, hg3, hg4, -⟩ := id hS.1
  refine v_aload_n (i := 1) 1 rfl dL_law_1330 ?_
  refine v_aload_n (i := 0) 0 rfl dL_law_1331 ?_
  refine v_iload_n (i := 3) 3 rfl dL_law_1332 ?_
  refine v_iconst dL_law_1333 ?_
  refine v_iadd dL_law_1334 ?_
  refine v_xald hX (by omega) (by omega) hN dL_law_1335 ?_
  refine v_aload_n (i := 0) 0 rfl dL_law_1336 ?_
  refine v_iload_n (i := 3) 3 rfl dL_law_1337 ?_
  refine v_iconst dL_law_1338 ?_
  refine v_iadd dL_law_1339 ?_
  refine v_xald hX (by omega) (by omega) hN dL_law_1340 ?_
  refine LC_X11_book hS hP hR5 hR6 (hb _) (hb _) (Nat.le_of_ble_eq_true rfl) (by omega) (by omega) (fun u hu => ?_)
  obtain ⟨y1, y2, y3, y4⟩ := u
  obtain ⟨hu, hrow⟩ := hu
  have h1 : y1 = (qBook f (xf (i + 1)) (xf (i + 2))).1 := congrArg Prod.fst hu
  have h2 : y2 = (qBook f (xf (i + 1)) (xf (i + 2))).2 := congrArg Prod.snd hu
  subst h2
  subst h1
  dsimp only at hrow
  refine v_aload_n (i := 2) 2 rfl dL_law_1344 ?_
  refine v_aload_n (i := 0) 0 rfl dL_law_1345 ?_
  refine v_iload_n (i := 3) 3 rfl dL_law_1346 ?_
  refine v_iconst dL_law_1347 ?_
  refine v_iadd dL_law_1348 ?_
  refine v_xald hX (by omega) (by omega) hN dL_law_1349 ?_
  refine v_aload_n (i := 0) 0 rfl dL_law_1350 ?_
  refine v_iload_n (i := 3) 3 rfl dL_law_1351 ?_
  refine v_iconst dL_law_1352 ?_
  refine v_iadd dL_law_1353 ?_
  refine v_xald hX (by omega) (by omega) hN dL_law_1354 ?_
  refine v_perm perm_f ?_
  refine LR_X12_book hS (hb _) (hb _) (Nat.le_of_ble_eq_true rfl) (by omega) (by omega) (fun w hw => ?_)
  obtain ⟨w1, w2⟩ := w
  have g1 : w1 = (qBook f (xf (i + 1)) (xf (i + 2))).1 := congrArg Prod.fst hw
  have g2 : w2 = (qBook f (xf (i + 1)) (xf (i + 2))).2 := congrArg Prod.snd hw
  subst g2
  subst g1
  refine v_perm perm_f.symm ?_
  refine v_icmp_s 1524 dL_law_1358 rfl ?_
  refine v_widen (k2 := kR + 12) (n2 := nR + 140) (by omega) (by omega) ?_
  have hSF : SOK (qBook f (xf (i + 1)) (xf (i + 2))).2 := SOK_book hS
  have ez : zpA ta (qBook f (xf (i + 1)) (xf (i + 2))).2 pl tu = zpA ta f pl tu := zpA_cf hS (qBook_k hg3 (by omega) (by omega)) (fun j j0 j1 => qBook_k hg3 (by omega) (by omega))
  rw [← ez]
  exact kk hi ((qBook f (xf (i + 1)) (xf (i + 2))).2) g tp sp sm sf sc y3 y4 fa0 tr ms0 pt0 po0 u0 u1 u2 u3 u4 u5 u6 by0 mtr kp mms mpt bd m v pv iv pv2 iv2 pl tu kpl ktu z0 z1 z2 z3 z4 z5 kn il (⟨hSF, PI_eq (qBook_k hg3 (by omega) (by omega)) hP, WI_eq (qBook_k hg3 (by omega) (by omega)) (fun j hj => qBook_k hg3 (by omega) (by omega)) hI hg1.2, (RW_eq (fun j j0 j1 => qBook_k hg3 (by omega) (by omega)) hR0), (RW_eq (fun j j0 j1 => qBook_k hg3 (by omega) (by omega)) hR1), (RW_eq (fun j j0 j1 => qBook_k hg3 (by omega) (by omega)) hR2), (RW_eq (fun j j0 j1 => qBook_k hg3 (by omega) (by omega)) hR3), (RW_eq (fun j j0 j1 => qBook_k hg3 (by omega) (by omega)) hR4), hrow.1, hrow.2⟩) hKep hTr h3
theorem law_c30 {x : Cx} {mo kw pi ta ms pt po nw pls ins tap e3 e4 e5 e6 e7 e8 bar fa pls2 ins2 tap2 d3 d4 d5 d6 d7 d8 bar2 h : Nat} {ad : Nat → Nat} {b : Nat} {i : Int} {N : Nat} {xf : Int → Int} {kR nR : Nat} (hX : Sc x b N xf) (hi0 : 0 ≤ i) (hi7 : i + 7 ≤ N) (hN : N < 2147483648) (hb : ∀ j : Int, -2147483648 ≤ xf j ∧ xf j < 2147483648) (hk : kR + 24 ≤ 600000) (hn : nR + 280 ≤ 7302250) (kk : LwK x mo kw pi ta ms pt po nw pls ins tap e3 e4 e5 e6 e7 e8 bar fa pls2 ins2 tap2 d3 d4 d5 d6 d7 d8 bar2 h ad 1524 [(0, ar b), (1, ar mo), (2, ar h), (3, ai i)] (kR + 12) (nR + 140)) : LwK x mo kw pi ta ms pt po nw pls ins tap e3 e4 e5 e6 e7 e8 bar fa pls2 ins2 tap2 d3 d4 d5 d6 d7 d8 bar2 h ad 1363 [(0, ar b), (1, ar mo), (2, ar h), (3, ai i)] kR nR := by
  intro hi f g tp sp sm sf sc bp bm fa0 tr ms0 pt0 po0 u0 u1 u2 u3 u4 u5 u6 by0 mtr kp mms mpt bd m v pv iv pv2 iv2 pl tu kpl ktu z0 z1 z2 z3 z4 z5 kn il hNow hKep hTr h3
  obtain ⟨hS, hP, hI, hR0, hR1, hR2, hR3, hR4, hR5, hR6⟩ := id hNow
  obtain ⟨hg0, hg1, hg2, hg3, hg4, -⟩ := id hS.1
  refine v_aload_n (i := 1) 1 rfl dL_law_1363 ?_
  refine LC_X11_looked hS hI hP hR5 hR6  (Nat.le_of_ble_eq_true rfl) (by omega) (by omega) (fun u => ?_)
  refine v_aload_n (i := 2) 2 rfl dL_law_1367 ?_
  refine v_perm perm_f ?_
  refine LR_X12_looked hS  (Nat.le_of_ble_eq_true rfl) (by omega) (by omega) (fun w hw => ?_)
  refine v_perm perm_f.symm ?_
  refine v_icmp_s 1524 dL_law_1371 rfl ?_
  refine v_widen (k2 := kR + 12) (n2 := nR + 140) (by omega) (by omega) ?_
  have v3e : w.1 3 = v 3 := hw.1
  have v21e : w.1 21 = v 21 := hw.2.2.2
  exact kk hi f g tp sp sm sf sc bp bm u.2 tr ms0 pt0 po0 u0 u1 u2 u3 u4 u5 u6 w.2.1 w.2.2 kp mms mpt bd u.1 w.1 pv iv pv2 iv2 pl tu kpl ktu z0 z1 z2 z3 z4 z5 kn il (hNow) (by rw [v3e]; exact hKep) (by rw [v21e]; exact hTr) (by rw [v3e]; exact h3)
theorem law_c31 {x : Cx} {mo kw pi ta ms pt po nw pls ins tap e3 e4 e5 e6 e7 e8 bar fa pls2 ins2 tap2 d3 d4 d5 d6 d7 d8 bar2 h : Nat} {ad : Nat → Nat} {b : Nat} {i : Int} {N : Nat} {xf : Int → Int} {kR nR : Nat} (hX : Sc x b N xf) (hi0 : 0 ≤ i) (hi7 : i + 7 ≤ N) (hN : N < 2147483648) (hb : ∀ j : Int, -2147483648 ≤ xf j ∧ xf j < 2147483648) (hk : kR + 24 ≤ 600000) (hn : nR + 280 ≤ 7302250) (kk : LwK x mo kw pi ta ms pt po nw pls ins tap e3 e4 e5 e6 e7 e8 bar fa pls2 ins2 tap2 d3 d4 d5 d6 d7 d8 bar2 h ad 1524 [(0, ar b), (1, ar mo), (2, ar h), (3, ai i)] (kR + 12) (nR + 140)) : LwK x mo kw pi ta ms pt po nw pls ins tap e3 e4 e5 e6 e7 e8 bar fa pls2 ins2 tap2 d3 d4 d5 d6 d7 d8 bar2 h ad 1376 [(0, ar b), (1, ar mo), (2, ar h), (3, ai i)] kR nR := by
  intro hi f g tp sp sm sf sc bp bm fa0 tr ms0 pt0 po0 u0 u1 u2 u3 u4 u5 u6 by0 mtr kp mms mpt bd m v pv iv pv2 iv2 pl tu kpl ktu z0 z1 z2 z3 z4 z5 kn il hNow hKep hTr h3
  obtain ⟨hS, hP, hI, hR0, hR1, hR2, hR3, hR4, hR5, hR6⟩ := id hNow
  obtain ⟨hg0, hg1, hg2, hg3, hg4, -⟩ := id hS.1
  refine v_aload_n (i := 1) 1 rfl dL_law_1376 ?_
  refine v_aload_n (i := 0) 0 rfl dL_law_1377 ?_
  refine v_iload_n (i := 3) 3 rfl dL_law_1378 ?_
  refine v_iconst dL_law_1379 ?_
  refine v_iadd dL_law_1380 ?_
  refine v_xald hX (by omega) (by omega) hN dL_law_1381 ?_
  refine v_aload_n (i := 0) 0 rfl dL_law_1382 ?_
  refine v_iload_n (i := 3) 3 rfl dL_law_1383 ?_
  refine v_iconst dL_law_1384 ?_
  refine v_iadd dL_law_1385 ?_
  refine v_xald hX (by omega) (by omega) hN dL_law_1386 ?_
  refine v_aload_n (i := 0) 0 rfl dL_law_1387 ?_
  refine v_iload_n (i := 3) 3 rfl dL_law_1388 ?_
  refine v_iconst dL_law_1389 ?_
  refine v_iadd dL_law_1390 ?_
  refine v_xald hX (by omega) (by omega) hN dL_law_1391 ?_
  refine LC_X11_act hS hP (hb _) (hb _) (hb _) (Nat.le_of_ble_eq_true rfl) (by omega) (by omega) (fun u hu => ?_)
  refine v_aload_n (i := 2) 2 rfl dL_law_1395 ?_
  refine v_aload_n (i := 0) 0 rfl dL_law_1396 ?_
  refine v_iload_n (i := 3) 3 rfl dL_law_1397 ?_
  refine v_iconst dL_law_1398 ?_
  refine v_iadd dL_law_1399 ?_
  refine v_xald hX (by omega) (by omega) hN dL_law_1400 ?_
  refine v_aload_n (i := 0) 0 rfl dL_law_1401 ?_
  refine v_iload_n (i := 3) 3 rfl dL_law_1402 ?_
  refine v_iconst dL_law_1403 ?_
  refine v_iadd dL_law_1404 ?_
  refine v_xald hX (by omega) (by omega) hN dL_law_1405 ?_
  refine v_aload_n (i := 0) 0 rfl dL_law_1406 ?_
  refine v_iload_n (i := 3) 3 rfl dL_law_1407 ?_
  refine v_iconst dL_law_1408 ?_
  refine v_iadd dL_law_1409 ?_
  refine v_xald hX (by omega) (by omega) hN dL_law_1410 ?_
  refine v_perm perm_f ?_
  refine LR_X12_act hS (hb _) (hb _) (hb _) (Nat.le_of_ble_eq_true rfl) (by omega) (by omega) (fun w hw => ?_)
  refine v_perm perm_f.symm ?_
  refine v_icmp_s 1524 dL_law_1414 rfl ?_
  refine v_widen (k2 := kR + 12) (n2 := nR + 140) (by omega) (by omega) ?_
  have v3e : w.1 3 = v 3 := hw.2
  exact kk hi f g tp sp sm sf sc bp bm fa0 u ms0 pt0 po0 u0 u1 u2 u3 u4 u5 u6 by0 mtr kp mms mpt w.2 m w.1 pv iv pv2 iv2 pl tu kpl ktu z0 z1 z2 z3 z4 z5 kn il (hNow) (by rw [v3e]; exact hKep) (by rw [show u = _ from hu]; exact TrI_act hw.1) (by rw [v3e]; exact h3)
theorem law_c32 {x : Cx} {mo kw pi ta ms pt po nw pls ins tap e3 e4 e5 e6 e7 e8 bar fa pls2 ins2 tap2 d3 d4 d5 d6 d7 d8 bar2 h : Nat} {ad : Nat → Nat} {b : Nat} {i : Int} {N : Nat} {xf : Int → Int} {kR nR : Nat} (hX : Sc x b N xf) (hi0 : 0 ≤ i) (hi7 : i + 7 ≤ N) (hN : N < 2147483648) (hb : ∀ j : Int, -2147483648 ≤ xf j ∧ xf j < 2147483648) (hk : kR + 24 ≤ 600000) (hn : nR + 280 ≤ 7302250) (kk : LwK x mo kw pi ta ms pt po nw pls ins tap e3 e4 e5 e6 e7 e8 bar fa pls2 ins2 tap2 d3 d4 d5 d6 d7 d8 bar2 h ad 1524 [(0, ar b), (1, ar mo), (2, ar h), (3, ai i)] (kR + 12) (nR + 140)) : LwK x mo kw pi ta ms pt po nw pls ins tap e3 e4 e5 e6 e7 e8 bar fa pls2 ins2 tap2 d3 d4 d5 d6 d7 d8 bar2 h ad 1419 [(0, ar b), (1, ar mo), (2, ar h), (3, ai i)] kR nR := by
  intro hi f g tp sp sm sf sc bp bm fa0 tr ms0 pt0 po0 u0 u1 u2 u3 u4 u5 u6 by0 mtr kp mms mpt bd m v pv iv pv2 iv2 pl tu kpl ktu z0 z1 z2 z3 z4 z5 kn il hNow hKep hTr h3
  obtain ⟨hS, hP, hI, hR0, hR1, hR2, hR3, hR4, hR5, hR6⟩ := id hNow
  obtain ⟨hg0, hg1, hg2, hg3, hg4, -⟩ := id hS.1
  refine v_aload_n (i := 1) 1 rfl dL_law_1419 ?_
  refine v_aload_n (i := 0) 0 rfl dL_law_1420 ?_
  refine v_iload_n (i := 3) 3 rfl dL_law_1421 ?_
  refine v_iconst dL_law_1422 ?_
  refine v_iadd dL_law_1423 ?_
  refine v_xald hX (by omega) (by omega) hN dL_law_1424 ?_
  refine LC_X11_trace hS (TrI_B hTr) (hb _) (Nat.le_of_ble_eq_true rfl) (by omega) (by omega) (fun _ => ?_)
  refine v_eqi (y := if 0 ≤ (xf (i + 1)) ∧ (xf (i + 1)) < v 21 ∧ (xf (i + 1)) < 20 then bd (xf (i + 1)) else -1) ?_ ?_
  · rw [hTr.1]
    split
    · rename_i z
      exact hTr.2.2 _ z.1 z.2.2 z.2.1
    · rfl
  refine v_aload_n (i := 2) 2 rfl dL_law_1428 ?_
  refine v_aload_n (i := 0) 0 rfl dL_law_1429 ?_
  refine v_iload_n (i := 3) 3 rfl dL_law_1430 ?_
  refine v_iconst dL_law_1431 ?_
  refine v_iadd dL_law_1432 ?_
  refine v_xald hX (by omega) (by omega) hN dL_law_1433 ?_
  refine v_perm perm_f ?_
  refine LR_X12_trace ⟨hTr.2.1.1, by have := hTr.2.1.2; omega⟩ (hb _) (Nat.le_of_ble_eq_true rfl) (by omega) (by omega) (fun _ => ?_)
  refine v_perm perm_f.symm ?_
  refine v_icmp_s 1524 dL_law_1437 rfl ?_
  refine v_widen (k2 := kR + 12) (n2 := nR + 140) (by omega) (by omega) ?_
  exact kk hi f g tp sp sm sf sc bp bm fa0 tr ms0 pt0 po0 u0 u1 u2 u3 u4 u5 u6 by0 mtr kp mms mpt bd m v pv iv pv2 iv2 pl tu kpl ktu z0 z1 z2 z3 z4 z5 kn il (hNow) hKep hTr h3
theorem law_c33 {x : Cx} {mo kw pi ta ms pt po nw pls ins tap e3 e4 e5 e6 e7 e8 bar fa pls2 ins2 tap2 d3 d4 d5 d6 d7 d8 bar2 h : Nat} {ad : Nat → Nat} {b : Nat} {i : Int} {N : Nat} {xf : Int → Int} {kR nR : Nat} (hX : Sc x b N xf) (hi0 : 0 ≤ i) (hi7 : i + 7 ≤ N) (hN : N < 2147483648) (hb : ∀ j : Int, -2147483648 ≤ xf j ∧ xf j < 2147483648) (hk : kR + 24 ≤ 600000) (hn : nR + 280 ≤ 7302250) (kk : LwK x mo kw pi ta ms pt po nw pls ins tap e3 e4 e5 e6 e7 e8 bar fa pls2 ins2 tap2 d3 d4 d5 d6 d7 d8 bar2 h ad 1524 [(0, ar b), (1, ar mo), (2, ar h), (3, ai i)] (kR + 12) (nR + 140)) : LwK x mo kw pi ta ms pt po nw pls ins tap e3 e4 e5 e6 e7 e8 bar fa pls2 ins2 tap2 d3 d4 d5 d6 d7 d8 bar2 h ad 1442 [(0, ar b), (1, ar mo), (2, ar h), (3, ai i)] kR nR := by
  intro hi f g tp sp sm sf sc bp bm fa0 tr ms0 pt0 po0 u0 u1 u2 u3 u4 u5 u6 by0 mtr kp mms mpt bd m v pv iv pv2 iv2 pl tu kpl ktu z0 z1 z2 z3 z4 z5 kn il hNow hKep hTr h3
  obtain ⟨hS, hP, hI, hR0, hR1, hR2, hR3, hR4, hR5, hR6⟩ := id hNow
  obtain ⟨hg0, hg1, hg2, hg3, hg4, -⟩ := id hS.1
  refine v_aload_n (i := 1) 1 rfl dL_law_1442 ?_
  refine v_aload_n (i := 0) 0 rfl dL_law_1443 ?_
  refine v_iload_n (i := 3) 3 rfl dL_law_1444 ?_
  refine v_iconst dL_law_1445 ?_
  refine v_iadd dL_law_1446 ?_
  refine v_xald hX (by omega) (by omega) hN dL_law_1447 ?_
  refine v_aload_n (i := 0) 0 rfl dL_law_1448 ?_
  refine v_iload_n (i := 3) 3 rfl dL_law_1449 ?_
  refine v_iconst dL_law_1450 ?_
  refine v_iadd dL_law_1451 ?_
  refine v_xald hX (by omega) (by omega) hN dL_law_1452 ?_
  refine LC_X11_as hS hP (hb _) (hb _) (Nat.le_of_ble_eq_true rfl) (by omega) (by omega) (fun _ => ?_)
  refine v_aload_n (i := 2) 2 rfl dL_law_1456 ?_
  refine v_aload_n (i := 0) 0 rfl dL_law_1457 ?_
  refine v_iload_n (i := 3) 3 rfl dL_law_1458 ?_
  refine v_iconst dL_law_1459 ?_
  refine v_iadd dL_law_1460 ?_
  refine v_xald hX (by omega) (by omega) hN dL_law_1461 ?_
  refine v_aload_n (i := 0) 0 rfl dL_law_1462 ?_
  refine v_iload_n (i := 3) 3 rfl dL_law_1463 ?_
  refine v_iconst dL_law_1464 ?_
  refine v_iadd dL_law_1465 ?_
  refine v_xald hX (by omega) (by omega) hN dL_law_1466 ?_
  refine v_perm perm_f ?_
  refine LR_X12_as hS (hb _) (hb _) (Nat.le_of_ble_eq_true rfl) (by omega) (by omega) (fun _ => ?_)
  refine v_perm perm_f.symm ?_
  refine v_icmp_s 1524 dL_law_1470 rfl ?_
  refine v_widen (k2 := kR + 12) (n2 := nR + 140) (by omega) (by omega) ?_
  exact kk hi f g tp sp sm sf sc bp bm fa0 tr ms0 pt0 po0 u0 u1 u2 u3 u4 u5 u6 by0 mtr kp mms mpt bd m v pv iv pv2 iv2 pl tu kpl ktu z0 z1 z2 z3 z4 z5 kn il (hNow) hKep hTr h3
theorem law_c36 {x : Cx} {mo kw pi ta ms pt po nw pls ins tap e3 e4 e5 e6 e7 e8 bar fa pls2 ins2 tap2 d3 d4 d5 d6 d7 d8 bar2 h : Nat} {ad : Nat → Nat} {b : Nat} {i : Int} {N : Nat} {xf : Int → Int} {kR nR : Nat} (hX : Sc x b N xf) (hi0 : 0 ≤ i) (hi7 : i + 7 ≤ N) (hN : N < 2147483648) (hb : ∀ j : Int, -2147483648 ≤ xf j ∧ xf j < 2147483648) (hk : kR + 24 ≤ 600000) (hn : nR + 280 ≤ 7302250) (kk : LwK x mo kw pi ta ms pt po nw pls ins tap e3 e4 e5 e6 e7 e8 bar fa pls2 ins2 tap2 d3 d4 d5 d6 d7 d8 bar2 h ad 1524 [(0, ar b), (1, ar mo), (2, ar h), (3, ai i)] (kR + 12) (nR + 140)) : LwK x mo kw pi ta ms pt po nw pls ins tap e3 e4 e5 e6 e7 e8 bar fa pls2 ins2 tap2 d3 d4 d5 d6 d7 d8 bar2 h ad 1501 [(0, ar b), (1, ar mo), (2, ar h), (3, ai i)] kR nR := by
  intro hi f g tp sp sm sf sc bp bm fa0 tr ms0 pt0 po0 u0 u1 u2 u3 u4 u5 u6 by0 mtr kp mms mpt bd m v pv iv pv2 iv2 pl tu kpl ktu z0 z1 z2 z3 z4 z5 kn il hNow hKep hTr h3
  obtain ⟨hS, hP, hI, hR0, hR1, hR2, hR3, hR4, hR5, hR6⟩ := id hNow
  obtain ⟨hg0, hg1, hg2, hg3, hg4, -⟩ := id hS.1
  refine v_aload_n (i := 1) 1 rfl dL_law_1501 ?_
  refine v_aload_n (i := 0) 0 rfl dL_law_1502 ?_
  refine v_iload_n (i := 3) 3 rfl dL_law_1503 ?_
  refine v_iconst dL_law_1504 ?_
  refine v_iadd dL_law_1505 ?_
  refine v_xald hX (by omega) (by omega) hN dL_law_1506 ?_
  refine LC_X11_count hS (hb _) (Nat.le_of_ble_eq_true rfl) (by omega) (by omega) (fun _ => ?_)
  refine v_eqi (y := if (xf (i + 1)) = 5 then v 21 else if 0 ≤ (xf (i + 1)) ∧ (xf (i + 1)) ≤ 4 then f (xf (i + 1)) else -1) (by rw [hTr.1]) ?_
  refine v_aload_n (i := 2) 2 rfl dL_law_1510 ?_
  refine v_aload_n (i := 0) 0 rfl dL_law_1511 ?_
  refine v_iload_n (i := 3) 3 rfl dL_law_1512 ?_
  refine v_iconst dL_law_1513 ?_
  refine v_iadd dL_law_1514 ?_
  refine v_xald hX (by omega) (by omega) hN dL_law_1515 ?_
  refine v_perm perm_f ?_
  refine LR_X12_count hS (hb _) (Nat.le_of_ble_eq_true rfl) (by omega) (by omega) (fun _ => ?_)
  refine v_perm perm_f.symm ?_
  refine v_icmp_s 1524 dL_law_1519 rfl ?_
  refine v_widen (k2 := kR + 12) (n2 := nR + 140) (by omega) (by omega) ?_
  exact kk hi f g tp sp sm sf sc bp bm fa0 tr ms0 pt0 po0 u0 u1 u2 u3 u4 u5 u6 by0 mtr kp mms mpt bd m v pv iv pv2 iv2 pl tu kpl ktu z0 z1 z2 z3 z4 z5 kn il (hNow) hKep hTr h3
