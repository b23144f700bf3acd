/-! ===== the law: its loop ===== -/
theorem law_sw {x : Cx} {mo kw pi ta ms pt po nw pls ins tap e3 e4 e5 e6 e7 e8 bar fa pls2 ins2 tap2 d3 d4 d5 d6 d7 d8 bar2 h : Nat} {ad : Nat → Nat} {b : Nat} {i c0 : Int} {N : Nat} {xf : Int → Int} {kR nR : Nat} (hX : Sc x b N xf) (hN : N < 2147483648) (hb : ∀ j : Int, -2147483648 ≤ xf j ∧ xf j < 2147483648) (hi0 : 0 ≤ i) (hi7 : i + 7 ≤ N) (hk : kR + 24 ≤ 600000) (hn : nR + 280 ≤ 7302250) (hc : iB c0) (kk : LwK x mo kw pi ta ms pt po nw pls ins tap e3 e4 e5 e6 e7 e8 bar fa pls2 ins2 tap2 d3 d4 d5 d6 d7 d8 bar2 h ad 1524 [(0, ar b), (1, ar mo), (2, ar h), (3, ai i)] (kR + 12) (nR + 140)) {hi : Int} {f : Int → Int} {g : Int → Int} {tp : Int → Int} {sp : Int → Int} {sm : Int → Int} {sf : Int → Int} {sc : Int → Int} {bp : Int → Int} {bm : Int → Int} {fa0 : Int → Int} {tr : Int → Int} {ms0 : Int → Int} {pt0 : Int → Int} {po0 : Int → Int} {u0 : Int → Int} {u1 : Int → Int} {u2 : Int → Int} {u3 : Int → Int} {u4 : Int → Int} {u5 : Int → Int} {u6 : Int → Int} {by0 : Int → Int} {mtr : Int → Int} {kp : Int → Int} {mms : Int → Int} {mpt : Int → Int} {bd : Int → Int} {m : Nat → Int} {v : Nat → Int} {pv : Int → Option Nat} {iv : Int → Option Nat} {pv2 : Int → Option Nat} {iv2 : Int → Option Nat} {pl : Int → Nat} {tu : Int → Nat} {kpl : Int → Nat} {ktu : Int → Nat} {z0 : Int} {z1 : Int} {z2 : Int} {z3 : Int} {z4 : Int} {z5 : Int} {kn : Nat} {il : aW} (hNow : NowI il bar f pv iv pl tp sp sm sf sc bp bm) (hKep : KepI il bar g (v 3) pv2 iv2 kpl u0 u1 u2 u3 u4 u5 u6 kn z0 z1 z2 z3 z4 z5) (hTr : TrI (v 21) tr bd) (h3 : hi = v 3) : V x code "MatFlipLaw" 4 room_1 ([(mo, co 11 [ar nw, ar kw, ar pi, ar ta, ar ms, ar pt, ar po, ai hi]), (nw, co 10 [ar pls, ar ins, ar tap, ar e3, ar e4, ar e5, ar e6, ar e7, ar e8, ai (f 0), ai (f 1), ai (f 4), ai (f 2), ai (f 3), ai (f 6), ar bar]), (pls, cq 3 6 pv), (ins, cq 2 5 iv), (tap, cn 0 100 tp), (e3, cn 0 8 sp), (e4, cn 0 8 sm), (e5, cn 0 8 sf), (e6, cn 0 8 sc), (e7, cn 0 8 bp), (e8, cn 0 8 bm), (pi, co 4 (pO fa m)), (fa, cn 0 6 fa0), (ta, cn 0 21 tr), (ms, cn 0 6 ms0), (pt, cn 0 6 pt0), (po, cn 0 36 po0)] ++ (zpA ta f pl tu ++ (il ++ ([(kw, co 10 [ar pls2, ar ins2, ar tap2, ar d3, ar d4, ar d5, ar d6, ar d7, ar d8, ai z0, ai z1, ai z2, ai z3, ai z4, ai z5, ar bar2]), (pls2, cq 3 6 pv2), (ins2, cq 2 5 iv2), (tap2, cn 0 100 u0), (d3, cn 0 8 u1), (d4, cn 0 8 u2), (d5, cn 0 8 u3), (d6, cn 0 8 u4), (d7, cn 0 8 u5), (d8, cn 0 8 u6)] ++ (zpS ta g kpl ktu kn ++ [(h, co 12 (mO ad v)), ((ad 1), cn 0 936 f), ((ad 2), cn 0 936 g), ((ad 9), cn 0 6 by0), ((ad 10), cn 1 64 mtr), ((ad 14), cn 0 252 kp), ((ad 18), cn 0 6 mms), ((ad 19), cn 0 6 mpt), ((ad 20), cn 0 20 bd)]))))) 33 [(0, ar b), (1, ar mo), (2, ar h), (3, ai i)] [ai c0] kR nR := by
  by_cases ho : c0 < 0 ∨ 36 < c0
  · refine v_sw_out 1524 dL_law_33 rfl hc ho ?_
    refine v_widen (k2 := kR + 12) (n2 := nR + 140) (by omega) (by omega) ?_
    exact kk hi f g tp sp sm sf sc bp bm fa0 tr ms0 pt0 po0 u0 u1 u2 u3 u4 u5 u6 by0 mtr kp mms mpt bd m v pv iv pv2 iv2 pl tu kpl ktu z0 z1 z2 z3 z4 z5 kn il hNow hKep hTr h3
  · rcases (show c0 = 0 ∨ c0 = 1 ∨ c0 = 2 ∨ c0 = 3 ∨ c0 = 4 ∨ c0 = 5 ∨ c0 = 6 ∨ c0 = 7 ∨ c0 = 8 ∨ c0 = 9 ∨ c0 = 10 ∨ c0 = 11 ∨ c0 = 12 ∨ c0 = 13 ∨ c0 = 14 ∨ c0 = 15 ∨ c0 = 16 ∨ c0 = 17 ∨ c0 = 18 ∨ c0 = 19 ∨ c0 = 20 ∨ c0 = 21 ∨ c0 = 22 ∨ c0 = 23 ∨ c0 = 24 ∨ c0 = 25 ∨ c0 = 26 ∨ c0 = 27 ∨ c0 = 28 ∨ c0 = 29 ∨ c0 = 30 ∨ c0 = 31 ∨ c0 = 32 ∨ c0 = 33 ∨ c0 = 34 ∨ c0 = 35 ∨ c0 = 36 by omega) with h0 | h0 | h0 | h0 | h0 | h0 | h0 | h0 | h0 | h0 | h0 | h0 | h0 | h0 | h0 | h0 | h0 | h0 | h0 | h0 | h0 | h0 | h0 | h0 | h0 | h0 | h0 | h0 | h0 | h0 | h0 | h0 | h0 | h0 | h0 | h0 | h0
    · subst h0
      refine v_sw_in 196 0 dL_law_33 hc (by decide) (by decide) rfl rfl rfl ?_
      exact law_c0 hX hi0 hi7 hN hb hk hn kk hi f g tp sp sm sf sc bp bm fa0 tr ms0 pt0 po0 u0 u1 u2 u3 u4 u5 u6 by0 mtr kp mms mpt bd m v pv iv pv2 iv2 pl tu kpl ktu z0 z1 z2 z3 z4 z5 kn il hNow hKep hTr h3
    · subst h0
      refine v_sw_in 219 1 dL_law_33 hc (by decide) (by decide) rfl rfl rfl ?_
      exact law_c1 hX hi0 hi7 hN hb hk hn kk hi f g tp sp sm sf sc bp bm fa0 tr ms0 pt0 po0 u0 u1 u2 u3 u4 u5 u6 by0 mtr kp mms mpt bd m v pv iv pv2 iv2 pl tu kpl ktu z0 z1 z2 z3 z4 z5 kn il hNow hKep hTr h3
    · subst h0
      refine v_sw_in 232 2 dL_law_33 hc (by decide) (by decide) rfl rfl rfl ?_
      exact law_c2 hX hi0 hi7 hN hb hk hn kk hi f g tp sp sm sf sc bp bm fa0 tr ms0 pt0 po0 u0 u1 u2 u3 u4 u5 u6 by0 mtr kp mms mpt bd m v pv iv pv2 iv2 pl tu kpl ktu z0 z1 z2 z3 z4 z5 kn il hNow hKep hTr h3
    · subst h0
      refine v_sw_in 295 3 dL_law_33 hc (by decide) (by decide) rfl rfl rfl ?_
      exact law_c3 hX hi0 hi7 hN hb hk hn kk hi f g tp sp sm sf sc bp bm fa0 tr ms0 pt0 po0 u0 u1 u2 u3 u4 u5 u6 by0 mtr kp mms mpt bd m v pv iv pv2 iv2 pl tu kpl ktu z0 z1 z2 z3 z4 z5 kn il hNow hKep hTr h3
    · subst h0
      refine v_sw_in 328 4 dL_law_33 hc (by decide) (by decide) rfl rfl rfl ?_
      exact law_c4 hX hi0 hi7 hN hb hk hn kk hi f g tp sp sm sf sc bp bm fa0 tr ms0 pt0 po0 u0 u1 u2 u3 u4 u5 u6 by0 mtr kp mms mpt bd m v pv iv pv2 iv2 pl tu kpl ktu z0 z1 z2 z3 z4 z5 kn il hNow hKep hTr h3
    · subst h0
      refine v_sw_in 371 5 dL_law_33 hc (by decide) (by decide) rfl rfl rfl ?_
      exact law_c5 hX hi0 hi7 hN hb hk hn kk hi f g tp sp sm sf sc bp bm fa0 tr ms0 pt0 po0 u0 u1 u2 u3 u4 u5 u6 by0 mtr kp mms mpt bd m v pv iv pv2 iv2 pl tu kpl ktu z0 z1 z2 z3 z4 z5 kn il hNow hKep hTr h3
    · subst h0
      refine v_sw_in 414 6 dL_law_33 hc (by decide) (by decide) rfl rfl rfl ?_
      exact law_c6 hX hi0 hi7 hN hb hk hn kk hi f g tp sp sm sf sc bp bm fa0 tr ms0 pt0 po0 u0 u1 u2 u3 u4 u5 u6 by0 mtr kp mms mpt bd m v pv iv pv2 iv2 pl tu kpl ktu z0 z1 z2 z3 z4 z5 kn il hNow hKep hTr h3
    · subst h0
      refine v_sw_in 437 7 dL_law_33 hc (by decide) (by decide) rfl rfl rfl ?_
      exact law_c7 hX hi0 hi7 hN hb hk hn kk hi f g tp sp sm sf sc bp bm fa0 tr ms0 pt0 po0 u0 u1 u2 u3 u4 u5 u6 by0 mtr kp mms mpt bd m v pv iv pv2 iv2 pl tu kpl ktu z0 z1 z2 z3 z4 z5 kn il hNow hKep hTr h3
    · subst h0
      refine v_sw_in 490 8 dL_law_33 hc (by decide) (by decide) rfl rfl rfl ?_
      exact law_c8 hX hi0 hi7 hN hb hk hn kk hi f g tp sp sm sf sc bp bm fa0 tr ms0 pt0 po0 u0 u1 u2 u3 u4 u5 u6 by0 mtr kp mms mpt bd m v pv iv pv2 iv2 pl tu kpl ktu z0 z1 z2 z3 z4 z5 kn il hNow hKep hTr h3
    · subst h0
      refine v_sw_in 543 9 dL_law_33 hc (by decide) (by decide) rfl rfl rfl ?_
      exact law_c9 hX hi0 hi7 hN hb hk hn kk hi f g tp sp sm sf sc bp bm fa0 tr ms0 pt0 po0 u0 u1 u2 u3 u4 u5 u6 by0 mtr kp mms mpt bd m v pv iv pv2 iv2 pl tu kpl ktu z0 z1 z2 z3 z4 z5 kn il hNow hKep hTr h3
    · subst h0
      refine v_sw_in 596 10 dL_law_33 hc (by decide) (by decide) rfl rfl rfl ?_
      exact law_c10 hX hi0 hi7 hN hb hk hn kk hi f g tp sp sm sf sc bp bm fa0 tr ms0 pt0 po0 u0 u1 u2 u3 u4 u5 u6 by0 mtr kp mms mpt bd m v pv iv pv2 iv2 pl tu kpl ktu z0 z1 z2 z3 z4 z5 kn il hNow hKep hTr h3
    · subst h0
      refine v_sw_in 639 11 dL_law_33 hc (by decide) (by decide) rfl rfl rfl ?_
      exact law_c11 hX hi0 hi7 hN hb hk hn kk hi f g tp sp sm sf sc bp bm fa0 tr ms0 pt0 po0 u0 u1 u2 u3 u4 u5 u6 by0 mtr kp mms mpt bd m v pv iv pv2 iv2 pl tu kpl ktu z0 z1 z2 z3 z4 z5 kn il hNow hKep hTr h3
    · subst h0
      refine v_sw_in 693 12 dL_law_33 hc (by decide) (by decide) rfl rfl rfl ?_
      exact law_c12 hX hi0 hi7 hN hb hk hn kk hi f g tp sp sm sf sc bp bm fa0 tr ms0 pt0 po0 u0 u1 u2 u3 u4 u5 u6 by0 mtr kp mms mpt bd m v pv iv pv2 iv2 pl tu kpl ktu z0 z1 z2 z3 z4 z5 kn il hNow hKep hTr h3
    · subst h0
      refine v_sw_in 736 13 dL_law_33 hc (by decide) (by decide) rfl rfl rfl ?_
      exact law_c13 hX hi0 hi7 hN hb hk hn kk hi f g tp sp sm sf sc bp bm fa0 tr ms0 pt0 po0 u0 u1 u2 u3 u4 u5 u6 by0 mtr kp mms mpt bd m v pv iv pv2 iv2 pl tu kpl ktu z0 z1 z2 z3 z4 z5 kn il hNow hKep hTr h3
    · subst h0
      refine v_sw_in 759 14 dL_law_33 hc (by decide) (by decide) rfl rfl rfl ?_
      exact law_c14 hX hi0 hi7 hN hb hk hn kk hi f g tp sp sm sf sc bp bm fa0 tr ms0 pt0 po0 u0 u1 u2 u3 u4 u5 u6 by0 mtr kp mms mpt bd m v pv iv pv2 iv2 pl tu kpl ktu z0 z1 z2 z3 z4 z5 kn il hNow hKep hTr h3
    · subst h0
      refine v_sw_in 782 15 dL_law_33 hc (by decide) (by decide) rfl rfl rfl ?_
      exact law_c15 hX hi0 hi7 hN hb hk hn kk hi f g tp sp sm sf sc bp bm fa0 tr ms0 pt0 po0 u0 u1 u2 u3 u4 u5 u6 by0 mtr kp mms mpt bd m v pv iv pv2 iv2 pl tu kpl ktu z0 z1 z2 z3 z4 z5 kn il hNow hKep hTr h3
    · subst h0
      refine v_sw_in 826 16 dL_law_33 hc (by decide) (by decide) rfl rfl rfl ?_
      exact law_c16 hX hi0 hi7 hN hb hk hn kk hi f g tp sp sm sf sc bp bm fa0 tr ms0 pt0 po0 u0 u1 u2 u3 u4 u5 u6 by0 mtr kp mms mpt bd m v pv iv pv2 iv2 pl tu kpl ktu z0 z1 z2 z3 z4 z5 kn il hNow hKep hTr h3
    · subst h0
      refine v_sw_in 859 17 dL_law_33 hc (by decide) (by decide) rfl rfl rfl ?_
      exact law_c17 hX hi0 hi7 hN hb hk hn kk hi f g tp sp sm sf sc bp bm fa0 tr ms0 pt0 po0 u0 u1 u2 u3 u4 u5 u6 by0 mtr kp mms mpt bd m v pv iv pv2 iv2 pl tu kpl ktu z0 z1 z2 z3 z4 z5 kn il hNow hKep hTr h3
    · subst h0
      refine v_sw_in 913 18 dL_law_33 hc (by decide) (by decide) rfl rfl rfl ?_
      exact law_c18 hX hi0 hi7 hN hb hk hn kk hi f g tp sp sm sf sc bp bm fa0 tr ms0 pt0 po0 u0 u1 u2 u3 u4 u5 u6 by0 mtr kp mms mpt bd m v pv iv pv2 iv2 pl tu kpl ktu z0 z1 z2 z3 z4 z5 kn il hNow hKep hTr h3
    · subst h0
      refine v_sw_in 946 19 dL_law_33 hc (by decide) (by decide) rfl rfl rfl ?_
      exact law_c19 hX hi0 hi7 hN hb hk hn kk hi f g tp sp sm sf sc bp bm fa0 tr ms0 pt0 po0 u0 u1 u2 u3 u4 u5 u6 by0 mtr kp mms mpt bd m v pv iv pv2 iv2 pl tu kpl ktu z0 z1 z2 z3 z4 z5 kn il hNow hKep hTr h3
    · subst h0
      refine v_sw_in 1022 20 dL_law_33 hc (by decide) (by decide) rfl rfl rfl ?_
      exact law_c20 hX hi0 hi7 hN hb hk hn kk hi f g tp sp sm sf sc bp bm fa0 tr ms0 pt0 po0 u0 u1 u2 u3 u4 u5 u6 by0 mtr kp mms mpt bd m v pv iv pv2 iv2 pl tu kpl ktu z0 z1 z2 z3 z4 z5 kn il hNow hKep hTr h3
    · subst h0
      refine v_sw_in 1065 21 dL_law_33 hc (by decide) (by decide) rfl rfl rfl ?_
      exact law_c21 hX hi0 hi7 hN hb hk hn kk hi f g tp sp sm sf sc bp bm fa0 tr ms0 pt0 po0 u0 u1 u2 u3 u4 u5 u6 by0 mtr kp mms mpt bd m v pv iv pv2 iv2 pl tu kpl ktu z0 z1 z2 z3 z4 z5 kn il hNow hKep hTr h3
    · subst h0
      refine v_sw_in 1098 22 dL_law_33 hc (by decide) (by decide) rfl rfl rfl ?_
      exact law_c22 hX hi0 hi7 hN hb hk hn kk hi f g tp sp sm sf sc bp bm fa0 tr ms0 pt0 po0 u0 u1 u2 u3 u4 u5 u6 by0 mtr kp mms mpt bd m v pv iv pv2 iv2 pl tu kpl ktu z0 z1 z2 z3 z4 z5 kn il hNow hKep hTr h3
    · subst h0
      refine v_sw_in 1131 23 dL_law_33 hc (by decide) (by decide) rfl rfl rfl ?_
      exact law_c23 hX hi0 hi7 hN hb hk hn kk hi f g tp sp sm sf sc bp bm fa0 tr ms0 pt0 po0 u0 u1 u2 u3 u4 u5 u6 by0 mtr kp mms mpt bd m v pv iv pv2 iv2 pl tu kpl ktu z0 z1 z2 z3 z4 z5 kn il hNow hKep hTr h3
    · subst h0
      refine v_sw_in 1185 24 dL_law_33 hc (by decide) (by decide) rfl rfl rfl ?_
      exact law_c24 hX hi0 hi7 hN hb hk hn kk hi f g tp sp sm sf sc bp bm fa0 tr ms0 pt0 po0 u0 u1 u2 u3 u4 u5 u6 by0 mtr kp mms mpt bd m v pv iv pv2 iv2 pl tu kpl ktu z0 z1 z2 z3 z4 z5 kn il hNow hKep hTr h3
    · subst h0
      refine v_sw_in 1208 25 dL_law_33 hc (by decide) (by decide) rfl rfl rfl ?_
      exact law_c25 hX hi0 hi7 hN hb hk hn kk hi f g tp sp sm sf sc bp bm fa0 tr ms0 pt0 po0 u0 u1 u2 u3 u4 u5 u6 by0 mtr kp mms mpt bd m v pv iv pv2 iv2 pl tu kpl ktu z0 z1 z2 z3 z4 z5 kn il hNow hKep hTr h3
    · subst h0
      refine v_sw_in 1231 26 dL_law_33 hc (by decide) (by decide) rfl rfl rfl ?_
      exact law_c26 hX hi0 hi7 hN hb hk hn kk hi f g tp sp sm sf sc bp bm fa0 tr ms0 pt0 po0 u0 u1 u2 u3 u4 u5 u6 by0 mtr kp mms mpt bd m v pv iv pv2 iv2 pl tu kpl ktu z0 z1 z2 z3 z4 z5 kn il hNow hKep hTr h3
    · subst h0
      refine v_sw_in 1284 27 dL_law_33 hc (by decide) (by decide) rfl rfl rfl ?_
      exact law_c27 hX hi0 hi7 hN hb hk hn kk hi f g tp sp sm sf sc bp bm fa0 tr ms0 pt0 po0 u0 u1 u2 u3 u4 u5 u6 by0 mtr kp mms mpt bd m v pv iv pv2 iv2 pl tu kpl ktu z0 z1 z2 z3 z4 z5 kn il hNow hKep hTr h3
    · subst h0
      refine v_sw_in 1307 28 dL_law_33 hc (by decide) (by decide) rfl rfl rfl ?_
      exact law_c28 hX hi0 hi7 hN hb hk hn kk hi f g tp sp sm sf sc bp bm fa0 tr ms0 pt0 po0 u0 u1 u2 u3 u4 u5 u6 by0 mtr kp mms mpt bd m v pv iv pv2 iv2 pl tu kpl ktu z0 z1 z2 z3 z4 z5 kn il hNow hKep hTr h3
    · subst h0
      refine v_sw_in 1330 29 dL_law_33 hc (by decide) (by decide) rfl rfl rfl ?_
      exact law_c29 hX hi0 hi7 hN hb hk hn kk hi f g tp sp sm sf sc bp bm fa0 tr ms0 pt0 po0 u0 u1 u2 u3 u4 u5 u6 by0 mtr kp mms mpt bd m v pv iv pv2 iv2 pl tu kpl ktu z0 z1 z2 z3 z4 z5 kn il hNow hKep hTr h3
    · subst h0
      refine v_sw_in 1363 30 dL_law_33 hc (by decide) (by decide) rfl rfl rfl ?_
      exact law_c30 hX hi0 hi7 hN hb hk hn kk hi f g tp sp sm sf sc bp bm fa0 tr ms0 pt0 po0 u0 u1 u2 u3 u4 u5 u6 by0 mtr kp mms mpt bd m v pv iv pv2 iv2 pl tu kpl ktu z0 z1 z2 z3 z4 z5 kn il hNow hKep hTr h3
    · subst h0
      refine v_sw_in 1376 31 dL_law_33 hc (by decide) (by decide) rfl rfl rfl ?_
      exact law_c31 hX hi0 hi7 hN hb hk hn kk hi f g tp sp sm sf sc bp bm fa0 tr ms0 pt0 po0 u0 u1 u2 u3 u4 u5 u6 by0 mtr kp mms mpt bd m v pv iv pv2 iv2 pl tu kpl ktu z0 z1 z2 z3 z4 z5 kn il hNow hKep hTr h3
    · subst h0
      refine v_sw_in 1419 32 dL_law_33 hc (by decide) (by decide) rfl rfl rfl ?_
      exact law_c32 hX hi0 hi7 hN hb hk hn kk hi f g tp sp sm sf sc bp bm fa0 tr ms0 pt0 po0 u0 u1 u2 u3 u4 u5 u6 by0 mtr kp mms mpt bd m v pv iv pv2 iv2 pl tu kpl ktu z0 z1 z2 z3 z4 z5 kn il hNow hKep hTr h3
    · subst h0
      refine v_sw_in 1442 33 dL_law_33 hc (by decide) (by decide) rfl rfl rfl ?_
      exact law_c33 hX hi0 hi7 hN hb hk hn kk hi f g tp sp sm sf sc bp bm fa0 tr ms0 pt0 po0 u0 u1 u2 u3 u4 u5 u6 by0 mtr kp mms mpt bd m v pv iv pv2 iv2 pl tu kpl ktu z0 z1 z2 z3 z4 z5 kn il hNow hKep hTr h3
    · subst h0
      refine v_sw_in 1475 34 dL_law_33 hc (by decide) (by decide) rfl rfl rfl ?_
      exact law_c34 hX hi0 hi7 hN hb hk hn kk hi f g tp sp sm sf sc bp bm fa0 tr ms0 pt0 po0 u0 u1 u2 u3 u4 u5 u6 by0 mtr kp mms mpt bd m v pv iv pv2 iv2 pl tu kpl ktu z0 z1 z2 z3 z4 z5 kn il hNow hKep hTr h3
    · subst h0
      refine v_sw_in 1488 35 dL_law_33 hc (by decide) (by decide) rfl rfl rfl ?_
      exact law_c35 hX hi0 hi7 hN hb hk hn kk hi f g tp sp sm sf sc bp bm fa0 tr ms0 pt0 po0 u0 u1 u2 u3 u4 u5 u6 by0 mtr kp mms mpt bd m v pv iv pv2 iv2 pl tu kpl ktu z0 z1 z2 z3 z4 z5 kn il hNow hKep hTr h3
    · subst h0
      refine v_sw_in 1501 36 dL_law_33 hc (by decide) (by decide) rfl rfl rfl ?_
      exact law_c36 hX hi0 hi7 hN hb hk hn kk hi f g tp sp sm sf sc bp bm fa0 tr ms0 pt0 po0 u0 u1 u2 u3 u4 u5 u6 by0 mtr kp mms mpt bd m v pv iv pv2 iv2 pl tu kpl ktu z0 z1 z2 z3 z4 z5 kn il hNow hKep hTr h3
theorem law_loop {x : Cx} {mo kw pi ta ms pt po nw pls ins tap e3 e4 e5 e6 e7 e8 bar fa pls2 ins2 tap2 d3 d4 d5 d6 d7 d8 bar2 h : Nat} {ad : Nat → Nat} {b : Nat} {N : Nat} {xf : Int → Int} (hX : Sc x b N xf) (hN : N < 2147483648) (hb : ∀ j : Int, -2147483648 ≤ xf j ∧ xf j < 2147483648) (hN2 : N ≤ 3584) (hret : ∀ (ws : aW) (L : List (Nat × aV)) (k n : Nat), k ≤ 600000 → n ≤ 7302250 → V x code "MatFlipLaw" 4 room_1 ws 1531 L [ai 1] k n) : ∀ d c : Nat, c + d = 512 → LwK x mo kw pi ta ms pt po nw pls ins tap e3 e4 e5 e6 e7 e8 bar fa pls2 ins2 tap2 d3 d4 d5 d6 d7 d8 bar2 h ad 18 [(0, ar b), (1, ar mo), (2, ar h), (3, ai (7 * (c : Int)))] (100 + 12 * c) (5000 + 140 * c)
  | 0, c, hd => by
    intro hi f g tp sp sm sf sc bp bm fa0 tr ms0 pt0 po0 u0 u1 u2 u3 u4 u5 u6 by0 mtr kp mms mpt bd m v pv iv pv2 iv2 pl tu kpl ktu z0 z1 z2 z3 z4 z5 kn il hNow hKep hTr h3
    refine v_iload_n (i := 3) 3 rfl dL_law_18 ?_
    refine v_aload_n (i := 0) 0 rfl dL_law_19 ?_
    refine v_xlen hX dL_law_20 ?_
    refine v_bipush dL_law_21 rfl ?_
    refine v_isub dL_law_23 ?_
    refine v_icmp_gt 1530 dL_law_24 rfl (by unfold iB; omega) (by unfold iB; omega) (fun hz => ?_) (fun hz => ?_)
    · refine v_iconst dL_law_1530 ?_
      exact hret _ _ _ _ (by omega) (by omega)
    · exfalso; omega
  | d + 1, c, hd => by
    intro hi f g tp sp sm sf sc bp bm fa0 tr ms0 pt0 po0 u0 u1 u2 u3 u4 u5 u6 by0 mtr kp mms mpt bd m v pv iv pv2 iv2 pl tu kpl ktu z0 z1 z2 z3 z4 z5 kn il hNow hKep hTr h3
    refine v_iload_n (i := 3) 3 rfl dL_law_18 ?_
    refine v_aload_n (i := 0) 0 rfl dL_law_19 ?_
    refine v_xlen hX dL_law_20 ?_
    refine v_bipush dL_law_21 rfl ?_
    refine v_isub dL_law_23 ?_
    refine v_icmp_gt 1530 dL_law_24 rfl (by unfold iB; omega) (by unfold iB; omega) (fun hz => ?_) (fun hz => ?_)
    · refine v_iconst dL_law_1530 ?_
      exact hret _ _ _ _ (by omega) (by omega)
    · refine v_aload_n (i := 0) 0 rfl dL_law_27 ?_
      refine v_iload_n (i := 3) 3 rfl dL_law_28 ?_
      refine v_xald hX (by omega) (by omega) hN dL_law_29 ?_
      refine v_bipush dL_law_30 rfl ?_
      refine v_iand (c := (Int32.ofInt (xf (7 * (c : Int))) &&& Int32.ofInt 63).toInt) (Int32.ofInt_toInt _).symm dL_law_32 ?_
      refine law_sw hX hN hb (by omega) (by omega) (by omega) (by omega) ⟨Int32.le_toInt _, Int32.toInt_lt _⟩ ?_ hNow hKep hTr h3
      intro hi f g tp sp sm sf sc bp bm fa0 tr ms0 pt0 po0 u0 u1 u2 u3 u4 u5 u6 by0 mtr kp mms mpt bd m v pv iv pv2 iv2 pl tu kpl ktu z0 z1 z2 z3 z4 z5 kn il hNow hKep hTr h3
      refine v_iinc (L2 := [(3, ai (7 * ((c + 1 : Nat) : Int))), (0, ar b), (1, ar mo), (2, ar h)]) 3 rfl (by rw [show (7 * ((c + 1 : Nat) : Int)) = 7 * (c : Int) + 7 by omega]; rfl) (by decide) dL_law_1524 ?_
      refine v_sub (L2 := [(0, ar b), (1, ar mo), (2, ar h), (3, ai (7 * ((c + 1 : Nat) : Int)))]) [1, 2, 3, 0] rfl ?_
      refine v_goto 18 dL_law_1527 rfl ?_
      refine v_widen (k2 := 100 + 12 * (c + 1)) (n2 := 5000 + 140 * (c + 1)) (by omega) (by omega) ?_
      exact law_loop hX hN hb hN2 hret d (c + 1) (by omega) hi f g tp sp sm sf sc bp bm fa0 tr ms0 pt0 po0 u0 u1 u2 u3 u4 u5 u6 by0 mtr kp mms mpt bd m v pv iv pv2 iv2 pl tu kpl ktu z0 z1 z2 z3 z4 z5 kn il hNow hKep hTr h3
