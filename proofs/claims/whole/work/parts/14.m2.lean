set_option maxHeartbeats 4000000 in
set_option maxRecDepth 100000 in
theorem c_X12_looks {gS : sG} (ad : Nat → Nat) (v : Nat → Int) (h : Nat) (f : Int → Int) (by0 : Int → Int) (tr0 : Int → Int) (p : Int) (n : Int) (hf : PF f p) (hg : GF f) (hn : 0 ≤ n ∧ n ≤ 99) (hwf : wfS 0 (SL f)) : Ct gS (S := (Nat → Int) × (Int → Int) × (Int → Int)) yX12_looks cX12_looks 11 none 1 22 0 0 [ar h, ai p, ai n] [(h, co 12 (mO ad v)), ((ad 9), cn 0 6 by0), ((ad 10), cn 1 64 tr0)] (fun q => q ∈ ([((ad 1), cn 0 936 f)] : aW)) (fun u => (vK v u.1 ∧ u.1 13 = v 13 ∧ u.1 15 = v 15) ∧ u.1 11 = kSl f p n ∧ u.1 12 = kGl f p n) (fun u => none) (fun u => [(h, co 12 (mO ad u.1)), ((ad 9), cn 0 6 u.2.1), ((ad 10), cn 1 64 u.2.2)]) := by
  refine ct_V RX12 [(0, ar h), (1, ai p), (2, ai n)] (by decide) rfl (Nat.le_of_ble_eq_true rfl) rfl (fun x hgS hnm hro hret => ?_)
  subst hgS
  have r0 := hro _ (mem_at 0 rfl)
  obtain ⟨hp, hf1, hf2, hf3, hf4, hf5, hf6, hf7, hf8⟩ := id hf
  obtain ⟨hg0, hg1, hg2, hg3, hg4, hg5, hg6, hg7⟩ := id hg
  have hmb := kMany_b hg
  show V x cX12_looks RX12 11 (rmU 1 22 0 0) [(h, co 12 (mO ad v)), ((ad 9), cn 0 6 by0), ((ad 10), cn 1 64 tr0)] 0 [(0, ar h), (1, ai p), (2, ai n)] [] 0 0
  refine v_aload_n (pc := 0) 0 rfl dX12_looks_0 ?_
  refine v_get (pc := 1) (v := ar (ad 9)) 9 (Or.inr ⟨0, rfl⟩) fl_12_18_12 rfl dX12_looks_1 ?_
  refine v_iconst (pc := 4) dX12_looks_4 ?_
  refine v_iload_n (pc := 5) 1 rfl dX12_looks_5 ?_
  refine v_iast (pc := 6) 1 rfl (by omega) (by omega) (by decide) (ws2 := [(h, co 12 (mO ad v)), ((ad 9), cn 0 6 (aup by0 0 p)), ((ad 10), cn 1 64 tr0)]) rfl dX12_looks_6 ?_
  refine v_aload_n (pc := 7) 0 rfl dX12_looks_7 ?_
  refine v_get (pc := 8) (v := ar (ad 9)) 9 (Or.inr ⟨0, rfl⟩) fl_12_18_12 rfl dX12_looks_8 ?_
  refine v_iconst (pc := 11) dX12_looks_11 ?_
  refine v_aload_n (pc := 12) 0 rfl dX12_looks_12 ?_
  refine v_get (pc := 13) (v := ar (ad 1)) 1 (Or.inr ⟨0, rfl⟩) fl_12_9_12 rfl dX12_looks_13 ?_
  refine v_bipush (pc := 16) dX12_looks_16 (by decide) ?_
  refine v_iload_n (pc := 18) 1 rfl dX12_looks_18 ?_
  refine v_iadd (pc := 19) dX12_looks_19 ?_
  refine v_iald (pc := 20) (Or.inl r0) (by omega) (by omega) (by decide) dX12_looks_20 ?_
  refine v_iast (pc := 21) 1 rfl (by omega) (by omega) (by decide) (ws2 := [(h, co 12 (mO ad v)), ((ad 9), cn 0 6 (aup (aup by0 0 p) 1 (f (7 + p)))), ((ad 10), cn 1 64 tr0)]) rfl dX12_looks_21 ?_
  refine v_aload_n (pc := 22) 0 rfl dX12_looks_22 ?_
  refine v_get (pc := 23) (v := ar (ad 9)) 9 (Or.inr ⟨0, rfl⟩) fl_12_18_12 rfl dX12_looks_23 ?_
  refine v_iconst (pc := 26) dX12_looks_26 ?_
  refine v_iload_n (pc := 27) 2 rfl dX12_looks_27 ?_
  refine v_bipush (pc := 28) dX12_looks_28 (by decide) ?_
  refine v_idiv (pc := 30) (by omega) (by omega) (by unfold iB; omega) (by unfold iB; omega) dX12_looks_30 ?_
  refine v_iast (pc := 31) 1 rfl (by omega) (by omega) (by decide) (ws2 := [(h, co 12 (mO ad v)), ((ad 9), cn 0 6 (aup (aup (aup by0 0 p) 1 (f (7 + p))) 2 (n / 10))), ((ad 10), cn 1 64 tr0)]) rfl dX12_looks_31 ?_
  refine v_aload_n (pc := 32) 0 rfl dX12_looks_32 ?_
  refine v_get (pc := 33) (v := ar (ad 9)) 9 (Or.inr ⟨0, rfl⟩) fl_12_18_12 rfl dX12_looks_33 ?_
  refine v_iconst (pc := 36) dX12_looks_36 ?_
  refine v_aload_n (pc := 37) 0 rfl dX12_looks_37 ?_
  refine v_get (pc := 38) (v := ar (ad 1)) 1 (Or.inr ⟨0, rfl⟩) fl_12_9_12 rfl dX12_looks_38 ?_
  refine v_bipush (pc := 41) dX12_looks_41 (by decide) ?_
  refine v_iload_n (pc := 43) 1 rfl dX12_looks_43 ?_
  refine v_iadd (pc := 44) dX12_looks_44 ?_
  refine v_iald (pc := 45) (Or.inl r0) (by omega) (by omega) (by decide) dX12_looks_45 ?_
  refine v_iast (pc := 46) 1 rfl (by omega) (by omega) (by decide) (ws2 := [(h, co 12 (mO ad v)), ((ad 9), cn 0 6 (aup (aup (aup (aup by0 0 p) 1 (f (7 + p))) 2 (n / 10)) 3 (f (31 + p)))), ((ad 10), cn 1 64 tr0)]) rfl dX12_looks_46 ?_
  refine v_aload_n (pc := 47) 0 rfl dX12_looks_47 ?_
  refine v_get (pc := 48) (v := ar (ad 9)) 9 (Or.inr ⟨0, rfl⟩) fl_12_18_12 rfl dX12_looks_48 ?_
  refine v_iconst (pc := 51) dX12_looks_51 ?_
  refine v_aload_n (pc := 52) 0 rfl dX12_looks_52 ?_
  refine v_get (pc := 53) (v := ar (ad 1)) 1 (Or.inr ⟨0, rfl⟩) fl_12_9_12 rfl dX12_looks_53 ?_
  refine v_bipush (pc := 56) dX12_looks_56 (by decide) ?_
  refine v_iload_n (pc := 58) 1 rfl dX12_looks_58 ?_
  refine v_iadd (pc := 59) dX12_looks_59 ?_
  refine v_iald (pc := 60) (Or.inl r0) (by omega) (by omega) (by decide) dX12_looks_60 ?_
  refine v_iast (pc := 61) 1 rfl (by omega) (by omega) (by decide) (ws2 := [(h, co 12 (mO ad v)), ((ad 9), cn 0 6 (aup (aup (aup (aup (aup by0 0 p) 1 (f (7 + p))) 2 (n / 10)) 3 (f (31 + p))) 4 (f (19 + p)))), ((ad 10), cn 1 64 tr0)]) rfl dX12_looks_61 ?_
  refine v_aload_n (pc := 62) 0 rfl dX12_looks_62 ?_
  refine v_get (pc := 63) (v := ar (ad 9)) 9 (Or.inr ⟨0, rfl⟩) fl_12_18_12 rfl dX12_looks_63 ?_
  refine v_iconst (pc := 66) dX12_looks_66 ?_
  refine v_aload_n (pc := 67) 0 rfl dX12_looks_67 ?_
  refine v_get (pc := 68) (v := ar (ad 1)) 1 (Or.inr ⟨0, rfl⟩) fl_12_9_12 rfl dX12_looks_68 ?_
  refine v_bipush (pc := 71) dX12_looks_71 (by decide) ?_
  refine v_iald (pc := 73) (Or.inl r0) (by omega) (by omega) (by decide) dX12_looks_73 ?_
  refine v_bipush (pc := 74) dX12_looks_74 (by decide) ?_
  refine v_irem (pc := 76) (by omega) (by omega) (by unfold iB; omega) (by unfold iB; omega) dX12_looks_76 ?_
  refine v_iast (pc := 77) 1 rfl (by omega) (by omega) (by decide) (ws2 := [(h, co 12 (mO ad v)), ((ad 9), cn 0 6 (aup (aup (aup (aup (aup (aup by0 0 p) 1 (f (7 + p))) 2 (n / 10)) 3 (f (31 + p))) 4 (f (19 + p))) 5 ((f 6) % 10))), ((ad 10), cn 1 64 tr0)]) rfl dX12_looks_77 ?_
  refine v_aload_n (pc := 78) 0 rfl dX12_looks_78 ?_
  refine v_iconst (pc := 79) dX12_looks_79 ?_
  refine v_put (pc := 80) 11 0 rfl fl_12_123_12 ck_12 ft_12_11 (okV_i _) (Nat.le_of_ble_eq_true rfl) (ws2 := [(h, co 12 (mO ad (nup v 11 0))), ((ad 9), cn 0 6 (aup (aup (aup (aup (aup (aup by0 0 p) 1 (f (7 + p))) 2 (n / 10)) 3 (f (31 + p))) 4 (f (19 + p))) 5 ((f 6) % 10))), ((ad 10), cn 1 64 tr0)]) rfl dX12_looks_80 ?_
  refine v_aload_n (pc := 83) 0 rfl dX12_looks_83 ?_
  refine v_iconst (pc := 84) dX12_looks_84 ?_
  refine v_put (pc := 85) 12 0 rfl fl_12_126_12 ck_12 ft_12_12 (okV_i _) (Nat.le_of_ble_eq_true rfl) (ws2 := [(h, co 12 (mO ad (nup (nup v 11 0) 12 0))), ((ad 9), cn 0 6 (aup (aup (aup (aup (aup (aup by0 0 p) 1 (f (7 + p))) 2 (n / 10)) 3 (f (31 + p))) 4 (f (19 + p))) 5 ((f 6) % 10))), ((ad 10), cn 1 64 tr0)]) rfl dX12_looks_85 ?_
  refine v_aload_n (pc := 88) 0 rfl dX12_looks_88 ?_
  refine v_sipush (pc := 89) dX12_looks_89 (by decide) ?_
  refine v_iconst (pc := 92) dX12_looks_92 ?_
  refine v_callV (pc := 93) [] [0, 1, 2] [(h, co 12 (mO ad (nup (nup v 11 0) 12 0))), ((ad 9), cn 0 6 (aup (aup (aup (aup (aup (aup by0 0 p) 1 (f (7 + p))) 2 (n / 10)) 3 (f (31 + p))) 4 (f (19 + p))) 5 ((f 6) % 10))), ((ad 10), cn 1 64 tr0)] (As := [ai 231, ai 0]) (rest := []) (c_X12_tellsOf ad (nup (nup v 11 0) 12 0) h f 231 0 (by first | assumption | omega) (by first | assumption | omega)) (c := 12) rfl (Or.inr ⟨0, rfl⟩) wl_X12_129 wi_X12_tellsOf wv_X12_X12_tellsOf_X12_tellsOf wk_X12_tellsOf wz_X12 md_X12_tellsOf rfl (Nat.le_of_ble_eq_true rfl) ⟨Nat.le_of_ble_eq_true rfl, Nat.le_of_ble_eq_true rfl, Nat.le_of_ble_eq_true rfl, Nat.le_of_ble_eq_true rfl⟩ rfl rfl rfl rfl (by decide) (ro_cons (Or.inr ⟨0, rfl, by decide⟩) (ro_cons (Or.inl r0) ro_nil)) dX12_looks_93 (fun u hu => ?_)
  show V x cX12_looks RX12 11 (rmU 1 22 0 0) [(h, co 12 (mO ad (nup (nup v 11 0) 12 0))), ((ad 9), cn 0 6 (aup (aup (aup (aup (aup (aup by0 0 p) 1 (f (7 + p))) 2 (n / 10)) 3 (f (31 + p))) 4 (f (19 + p))) 5 ((f 6) % 10))), ((ad 10), cn 1 64 tr0)] 96 [(0, ar h), (1, ai p), (2, ai n)] [ai (if f 5 = -1 then 0 else f (231 + f 5))] 0 0
  refine v_eqi (y := kMany f) rfl ?_
  refine v_istore_n (pc := 96) (L2 := [(3, ai (kMany f)), (0, ar h), (1, ai p), (2, ai n)]) rfl (by decide) dX12_looks_96 ?_
  refine v_sipush (pc := 97) dX12_looks_97 (by decide) ?_
  refine v_sipush (pc := 100) dX12_looks_100 (by decide) ?_
  refine v_aload_n (pc := 103) 1 rfl dX12_looks_103 ?_
  refine v_get (pc := 104) (v := ar (ad 1)) 1 (Or.inr ⟨0, rfl⟩) fl_12_9_12 rfl dX12_looks_104 ?_
  refine v_iconst (pc := 107) dX12_looks_107 ?_
  refine v_iald (pc := 108) (Or.inl r0) (by omega) (by omega) (by decide) dX12_looks_108 ?_
  refine v_imul (pc := 109) dX12_looks_109 ?_
  refine v_iadd (pc := 110) dX12_looks_110 ?_
  refine v_istore (pc := 111) (L2 := [(4, ai (236 + (140 * (f 5)))), (3, ai (kMany f)), (0, ar h), (1, ai p), (2, ai n)]) rfl (by decide) dX12_looks_111 ?_
  refine v_iconst (pc := 113) dX12_looks_113 ?_
  refine v_istore (pc := 114) (L2 := [(5, ai 0), (4, ai (236 + (140 * (f 5)))), (3, ai (kMany f)), (0, ar h), (1, ai p), (2, ai n)]) rfl (by decide) dX12_looks_114 ?_
  refine v_iload (pc := 116) 1 rfl dX12_looks_116 ?_
  refine v_istore (pc := 118) (L2 := [(6, ai (236 + (140 * (f 5)))), (5, ai 0), (4, ai (236 + (140 * (f 5)))), (3, ai (kMany f)), (0, ar h), (1, ai p), (2, ai n)]) rfl (by decide) dX12_looks_118 ?_
  have lp120 : ∀ (mm : Nat) (tp : Int) (j : Int) (v1 : Nat → Int) (by1 : Int → Int) (tr1 : Int → Int), (236 + 140 * f 5 + kMany f - j).toNat = mm → (236 + 140 * f 5 ≤ j) → (j ≤ 236 + 140 * f 5 + kMany f) → (tp = ((kE f p n j).1.length : Int)) → (LI tr1 (kE f p n j) (kR f j) (j - (236 + 140 * f 5))) → (v1 11 = (kE f p n j).2.1) → (v1 12 = (kE f p n j).2.2) → (vK v v1) → (v1 13 = v 13 ∧ v1 15 = v 15) → (∀ k : Int, 0 ≤ k → k < 6 → by1 k = kB f p n k) → V x cX12_looks RX12 11 (rmU 1 22 0 0) [(h, co 12 (mO ad v1)), ((ad 9), cn 0 6 by1), ((ad 10), cn 1 64 tr1)] 120 [(0, ar h), (1, ai p), (2, ai n), (3, ai (kMany f)), (4, ai (236 + (140 * (f 5)))), (5, ai tp), (6, ai j)] [] 0 0 := by
    intro mm
    induction mm using Nat.strongRecOn with
    | _ mm ih =>
      intro tp j v1 by1 tr1 hmm hj0 hj1 htp hLI hv11 hv12 hvk hvx hby
      refine v_iload (pc := 120) 6 rfl dX12_looks_120 ?_
      refine v_iload (pc := 122) 4 rfl dX12_looks_122 ?_
      refine v_iload_n (pc := 124) 3 rfl dX12_looks_124 ?_
      refine v_iadd (pc := 125) dX12_looks_125 ?_
      refine v_icmp_ge (pc := 126) 438 dX12_looks_126 (by decide) (by unfold iB; omega) (by unfold iB; omega) (fun c_1 => ?_) (fun c_1 => ?_)
      · skip
        exact hret (v1, by1, tr1) _ _ _ _ _ (by exact ⟨⟨hvk, hvx⟩, hv11.trans (kE_end (by omega)).1, hv12.trans (kE_end (by omega)).2⟩) rfl rfl (Nat.le_of_ble_eq_true rfl) (Nat.le_of_ble_eq_true rfl) dX12_looks_438
      · skip
        have hs := kE_succ (p := p) (n := n) hj0 c_1
        rw [hs.2] at hLI
        have hps := LI_pos hLI
        have hfj : -300 ≤ f j ∧ f j ≤ 3300 := by
          rcases Int.lt_or_le (f j) (-9) with q | q
          · have := (LI_slip (b := kB f p n) hLI (by omega)).2.2.1; omega
          · rcases Int.lt_or_le (f j) 0 with q2 | q2
            · omega
            · have := hps.1 q2; omega
        have hle : (kE f p n j).1.length ≤ 60 := hLI.2.2.2.2
        refine v_aload_n (pc := 129) 0 rfl dX12_looks_129 ?_
        refine v_get (pc := 130) (v := ar (ad 1)) 1 (Or.inr ⟨0, rfl⟩) fl_12_9_12 rfl dX12_looks_130 ?_
        refine v_iload (pc := 133) 6 rfl dX12_looks_133 ?_
        refine v_iald (pc := 135) (Or.inl r0) (by omega) (by omega) (by decide) dX12_looks_135 ?_
        refine v_istore (pc := 136) (L2 := [(7, ai (f j)), (0, ar h), (1, ai p), (2, ai n), (3, ai (kMany f)), (4, ai (236 + (140 * (f 5)))), (5, ai tp), (6, ai j)]) rfl (by decide) dX12_looks_136 ?_
        refine v_iload (pc := 138) 0 rfl dX12_looks_138 ?_
        refine v_if_lt (pc := 140) 237 dX12_looks_140 (by decide) (by unfold iB; omega) (fun c_2 => ?_) (fun c_2 => ?_)
        · skip
          refine v_iload (pc := 237) 0 rfl dX12_looks_237 ?_
          refine v_iconst (pc := 239) dX12_looks_239 ?_
          refine v_icmp_ne (pc := 240) 272 dX12_looks_240 (by decide) (by unfold iB; omega) (by unfold iB; omega) (fun c_3 => ?_) (fun c_3 => ?_)
          · skip
            refine v_iload (pc := 272) 0 rfl dX12_looks_272 ?_
            refine v_bipush (pc := 274) dX12_looks_274 (by decide) ?_
            refine v_icmp_le (pc := 276) 358 dX12_looks_276 (by decide) (by unfold iB; omega) (by unfold iB; omega) (fun c_4 => ?_) (fun c_4 => ?_)
            · skip
              have h01 : tr1 0 = 0 ∨ tr1 0 = 1 := by rw [(LI_slip (b := kB f p n) hLI (by omega)).2.1]; split <;> simp
              have h02 : 0 ≤ v1 11 ∧ v1 11 ≤ 200 * (j - (236 + 140 * f 5)) := hv11 ▸ hLI.2.2.1
              have h03 : 0 ≤ v1 12 ∧ v1 12 ≤ 200 * (j - (236 + 140 * f 5)) := hv12 ▸ hLI.2.2.2.1
              refine v_iconst (pc := 358) dX12_looks_358 ?_
              refine v_istore (pc := 359) (L2 := [(5, ai 0), (7, ai (f j)), (0, ar h), (1, ai p), (2, ai n), (3, ai (kMany f)), (4, ai (236 + (140 * (f 5)))), (6, ai j)]) rfl (by decide) dX12_looks_359 ?_
              refine v_aload_n (pc := 361) 2 rfl dX12_looks_361 ?_
              refine v_get (pc := 362) (v := ar (ad 10)) 10 (Or.inr ⟨0, rfl⟩) fl_12_21_12 rfl dX12_looks_362 ?_
              refine v_iconst (pc := 365) dX12_looks_365 ?_
              refine v_bald (pc := 366) (Or.inr ⟨2, rfl⟩) (by omega) (by omega) (by decide) dX12_looks_366 ?_
              refine v_istore (pc := 367) (L2 := [(8, ai (tr1 0)), (5, ai 0), (7, ai (f j)), (0, ar h), (1, ai p), (2, ai n), (3, ai (kMany f)), (4, ai (236 + (140 * (f 5)))), (6, ai j)]) rfl (by decide) dX12_looks_367 ?_
              refine v_aload_n (pc := 369) 3 rfl dX12_looks_369 ?_
              refine v_dup (pc := 370) rfl dX12_looks_370 ?_
              refine v_get (pc := 371) (v := ai (v1 11)) 11 (Or.inr ⟨0, rfl⟩) fl_12_123_12 rfl dX12_looks_371 ?_
              refine v_iload (pc := 374) 0 rfl dX12_looks_374 ?_
              refine v_if_eq (pc := 376) 395 dX12_looks_376 (by decide) (by unfold iB; omega) (fun c_5 => ?_) (fun c_5 => ?_)
              · skip
                refine v_iconst (pc := 395) dX12_looks_395 ?_
                refine v_iadd (pc := 396) dX12_looks_396 ?_
                refine v_put (pc := 397) 11 0 rfl fl_12_123_12 ck_12 ft_12_11 (okV_i _) (Nat.le_of_ble_eq_true rfl) (ws2 := [(h, co 12 (mO ad (nup v1 11 ((v1 11) + 0)))), ((ad 9), cn 0 6 by1), ((ad 10), cn 1 64 tr1)]) rfl dX12_looks_397 ?_
                refine v_aload_n (pc := 400) 3 rfl dX12_looks_400 ?_
                refine v_dup (pc := 401) rfl dX12_looks_401 ?_
                refine v_get (pc := 402) (v := ai (v1 12)) 12 (Or.inr ⟨0, rfl⟩) fl_12_126_12 rfl dX12_looks_402 ?_
                refine v_iload (pc := 405) 0 rfl dX12_looks_405 ?_
                refine v_if_eq (pc := 407) 427 dX12_looks_407 (by decide) (by unfold iB; omega) (fun c_6 => ?_) (fun c_6 => ?_)
                · skip
                  refine v_iconst (pc := 427) dX12_looks_427 ?_
                  refine v_iadd (pc := 428) dX12_looks_428 ?_
                  refine v_put (pc := 429) 12 0 rfl fl_12_126_12 ck_12 ft_12_12 (okV_i _) (Nat.le_of_ble_eq_true rfl) (ws2 := [(h, co 12 (mO ad (nup (nup v1 11 ((v1 11) + 0)) 12 ((v1 12) + 0)))), ((ad 9), cn 0 6 by1), ((ad 10), cn 1 64 tr1)]) rfl dX12_looks_429 ?_
                  refine v_iinc (pc := 432) 8 (L2 := [(6, ai (j + 1)), (8, ai (tr1 0)), (5, ai 0), (7, ai (f j)), (0, ar h), (1, ai p), (2, ai n), (3, ai (kMany f)), (4, ai (236 + (140 * (f 5))))]) rfl rfl (by decide) dX12_looks_432 ?_
                  refine v_goto (pc := 435) 120 dX12_looks_435 (by decide) ?_
                  refine v_sub (L2 := [(0, ar h), (1, ai p), (2, ai n), (3, ai (kMany f)), (4, ai (236 + (140 * (f 5)))), (5, ai 0), (6, ai (j + 1))]) [4, 5, 6, 7, 8, 2, 0] rfl ?_
                  exact ih _ (by omega) 0 (j + 1) (nup (nup v1 11 ((v1 11) + 0)) 12 ((v1 12) + 0)) by1 tr1 rfl (by omega) (by omega) (by rw [hs.1, (LI_slip (b := kB f p n) hLI (by omega)).2.2.2.1]; try rfl) (by have q := (LI_slip (b := kB f p n) hLI (by omega)).1; rw [hs.1, show j + 1 - (236 + 140 * f 5) = j - (236 + 140 * f 5) + 1 by omega]; exact q) (by rw [hs.1, (LI_slip (b := kB f p n) hLI (by omega)).2.2.2.2.1]; have q0 := (LI_slip (b := kB f p n) hLI (by omega)).2.1; simp [nup]; try ((repeat' split) <;> (repeat' split at q0) <;> first | omega | (simp_all; done) | (simp_all; omega) | (exfalso; simp_all; omega))) (by rw [hs.1, (LI_slip (b := kB f p n) hLI (by omega)).2.2.2.2.2]; have q0 := (LI_slip (b := kB f p n) hLI (by omega)).2.1; simp [nup]; try ((repeat' split) <;> (repeat' split at q0) <;> first | omega | (simp_all; done) | (simp_all; omega) | (exfalso; simp_all; omega))) (by exact (vK_up (vK_up hvk (by decide) (by decide) (by decide) (by decide)) (by decide) (by decide) (by decide) (by decide))) (by exact hvx) (by exact hby)
                · skip
                  refine v_iload (pc := 410) 2 rfl dX12_looks_410 ?_
                  refine v_sipush (pc := 412) dX12_looks_412 (by decide) ?_
                  refine v_icmp_gt (pc := 415) 427 dX12_looks_415 (by decide) (by unfold iB; omega) (by unfold iB; omega) (fun c_7 => ?_) (fun c_7 => ?_)
                  · skip
                    refine v_iconst (pc := 427) dX12_looks_427 ?_
                    refine v_iadd (pc := 428) dX12_looks_428 ?_
                    refine v_put (pc := 429) 12 0 rfl fl_12_126_12 ck_12 ft_12_12 (okV_i _) (Nat.le_of_ble_eq_true rfl) (ws2 := [(h, co 12 (mO ad (nup (nup v1 11 ((v1 11) + 0)) 12 ((v1 12) + 0)))), ((ad 9), cn 0 6 by1), ((ad 10), cn 1 64 tr1)]) rfl dX12_looks_429 ?_
                    refine v_iinc (pc := 432) 8 (L2 := [(6, ai (j + 1)), (8, ai (tr1 0)), (5, ai 0), (7, ai (f j)), (0, ar h), (1, ai p), (2, ai n), (3, ai (kMany f)), (4, ai (236 + (140 * (f 5))))]) rfl rfl (by decide) dX12_looks_432 ?_
                    refine v_goto (pc := 435) 120 dX12_looks_435 (by decide) ?_
                    refine v_sub (L2 := [(0, ar h), (1, ai p), (2, ai n), (3, ai (kMany f)), (4, ai (236 + (140 * (f 5)))), (5, ai 0), (6, ai (j + 1))]) [4, 5, 6, 7, 8, 2, 0] rfl ?_
                    exact ih _ (by omega) 0 (j + 1) (nup (nup v1 11 ((v1 11) + 0)) 12 ((v1 12) + 0)) by1 tr1 rfl (by omega) (by omega) (by rw [hs.1, (LI_slip (b := kB f p n) hLI (by omega)).2.2.2.1]; try rfl) (by have q := (LI_slip (b := kB f p n) hLI (by omega)).1; rw [hs.1, show j + 1 - (236 + 140 * f 5) = j - (236 + 140 * f 5) + 1 by omega]; exact q) (by rw [hs.1, (LI_slip (b := kB f p n) hLI (by omega)).2.2.2.2.1]; have q0 := (LI_slip (b := kB f p n) hLI (by omega)).2.1; simp [nup]; try ((repeat' split) <;> (repeat' split at q0) <;> first | omega | (simp_all; done) | (simp_all; omega) | (exfalso; simp_all; omega))) (by rw [hs.1, (LI_slip (b := kB f p n) hLI (by omega)).2.2.2.2.2]; have q0 := (LI_slip (b := kB f p n) hLI (by omega)).2.1; simp [nup]; try ((repeat' split) <;> (repeat' split at q0) <;> first | omega | (simp_all; done) | (simp_all; omega) | (exfalso; simp_all; omega))) (by exact (vK_up (vK_up hvk (by decide) (by decide) (by decide) (by decide)) (by decide) (by decide) (by decide) (by decide))) (by exact hvx) (by exact hby)
                  · skip
                    refine v_sipush (pc := 418) dX12_looks_418 (by decide) ?_
                    refine v_iload (pc := 421) 2 rfl dX12_looks_421 ?_
                    refine v_isub (pc := 423) dX12_looks_423 ?_
                    refine v_goto (pc := 424) 428 dX12_looks_424 (by decide) ?_
                    refine v_iadd (pc := 428) dX12_looks_428 ?_
                    refine v_put (pc := 429) 12 0 rfl fl_12_126_12 ck_12 ft_12_12 (okV_i _) (Nat.le_of_ble_eq_true rfl) (ws2 := [(h, co 12 (mO ad (nup (nup v1 11 ((v1 11) + 0)) 12 ((v1 12) + ((-200) - (f j)))))), ((ad 9), cn 0 6 by1), ((ad 10), cn 1 64 tr1)]) rfl dX12_looks_429 ?_
                    refine v_iinc (pc := 432) 8 (L2 := [(6, ai (j + 1)), (8, ai (tr1 0)), (5, ai 0), (7, ai (f j)), (0, ar h), (1, ai p), (2, ai n), (3, ai (kMany f)), (4, ai (236 + (140 * (f 5))))]) rfl rfl (by decide) dX12_looks_432 ?_
                    refine v_goto (pc := 435) 120 dX12_looks_435 (by decide) ?_
                    refine v_sub (L2 := [(0, ar h), (1, ai p), (2, ai n), (3, ai (kMany f)), (4, ai (236 + (140 * (f 5)))), (5, ai 0), (6, ai (j + 1))]) [4, 5, 6, 7, 8, 2, 0] rfl ?_
                    exact ih _ (by omega) 0 (j + 1) (nup (nup v1 11 ((v1 11) + 0)) 12 ((v1 12) + ((-200) - (f j)))) by1 tr1 rfl (by omega) (by omega) (by rw [hs.1, (LI_slip (b := kB f p n) hLI (by omega)).2.2.2.1]; try rfl) (by have q := (LI_slip (b := kB f p n) hLI (by omega)).1; rw [hs.1, show j + 1 - (236 + 140 * f 5) = j - (236 + 140 * f 5) + 1 by omega]; exact q) (by rw [hs.1, (LI_slip (b := kB f p n) hLI (by omega)).2.2.2.2.1]; have q0 := (LI_slip (b := kB f p n) hLI (by omega)).2.1; simp [nup]; try ((repeat' split) <;> (repeat' split at q0) <;> first | omega | (simp_all; done) | (simp_all; omega) | (exfalso; simp_all; omega))) (by rw [hs.1, (LI_slip (b := kB f p n) hLI (by omega)).2.2.2.2.2]; have q0 := (LI_slip (b := kB f p n) hLI (by omega)).2.1; simp [nup]; try ((repeat' split) <;> (repeat' split at q0) <;> first | omega | (simp_all; done) | (simp_all; omega) | (exfalso; simp_all; omega))) (by exact (vK_up (vK_up hvk (by decide) (by decide) (by decide) (by decide)) (by decide) (by decide) (by decide) (by decide))) (by exact hvx) (by exact hby)
              · skip
                refine v_iload (pc := 379) 2 rfl dX12_looks_379 ?_
                refine v_sipush (pc := 381) dX12_looks_381 (by decide) ?_
                refine v_icmp_le (pc := 384) 395 dX12_looks_384 (by decide) (by unfold iB; omega) (by unfold iB; omega) (fun c_8 => ?_) (fun c_8 => ?_)
                · skip
                  refine v_iconst (pc := 395) dX12_looks_395 ?_
                  refine v_iadd (pc := 396) dX12_looks_396 ?_
                  refine v_put (pc := 397) 11 0 rfl fl_12_123_12 ck_12 ft_12_11 (okV_i _) (Nat.le_of_ble_eq_true rfl) (ws2 := [(h, co 12 (mO ad (nup v1 11 ((v1 11) + 0)))), ((ad 9), cn 0 6 by1), ((ad 10), cn 1 64 tr1)]) rfl dX12_looks_397 ?_
                  refine v_aload_n (pc := 400) 3 rfl dX12_looks_400 ?_
                  refine v_dup (pc := 401) rfl dX12_looks_401 ?_
                  refine v_get (pc := 402) (v := ai (v1 12)) 12 (Or.inr ⟨0, rfl⟩) fl_12_126_12 rfl dX12_looks_402 ?_
                  refine v_iload (pc := 405) 0 rfl dX12_looks_405 ?_
                  refine v_if_eq (pc := 407) 427 dX12_looks_407 (by decide) (by unfold iB; omega) (fun c_9 => ?_) (fun c_9 => ?_)
                  · skip
                    refine v_iconst (pc := 427) dX12_looks_427 ?_
                    refine v_iadd (pc := 428) dX12_looks_428 ?_
                    refine v_put (pc := 429) 12 0 rfl fl_12_126_12 ck_12 ft_12_12 (okV_i _) (Nat.le_of_ble_eq_true rfl) (ws2 := [(h, co 12 (mO ad (nup (nup v1 11 ((v1 11) + 0)) 12 ((v1 12) + 0)))), ((ad 9), cn 0 6 by1), ((ad 10), cn 1 64 tr1)]) rfl dX12_looks_429 ?_
                    refine v_iinc (pc := 432) 8 (L2 := [(6, ai (j + 1)), (8, ai (tr1 0)), (5, ai 0), (7, ai (f j)), (0, ar h), (1, ai p), (2, ai n), (3, ai (kMany f)), (4, ai (236 + (140 * (f 5))))]) rfl rfl (by decide) dX12_looks_432 ?_
                    refine v_goto (pc := 435) 120 dX12_looks_435 (by decide) ?_
                    refine v_sub (L2 := [(0, ar h), (1, ai p), (2, ai n), (3, ai (kMany f)), (4, ai (236 + (140 * (f 5)))), (5, ai 0), (6, ai (j + 1))]) [4, 5, 6, 7, 8, 2, 0] rfl ?_
                    exact ih _ (by omega) 0 (j + 1) (nup (nup v1 11 ((v1 11) + 0)) 12 ((v1 12) + 0)) by1 tr1 rfl (by omega) (by omega) (by rw [hs.1, (LI_slip (b := kB f p n) hLI (by omega)).2.2.2.1]; try rfl) (by have q := (LI_slip (b := kB f p n) hLI (by omega)).1; rw [hs.1, show j + 1 - (236 + 140 * f 5) = j - (236 + 140 * f 5) + 1 by omega]; exact q) (by rw [hs.1, (LI_slip (b := kB f p n) hLI (by omega)).2.2.2.2.1]; have q0 := (LI_slip (b := kB f p n) hLI (by omega)).2.1; simp [nup]; try ((repeat' split) <;> (repeat' split at q0) <;> first | omega | (simp_all; done) | (simp_all; omega) | (exfalso; simp_all; omega))) (by rw [hs.1, (LI_slip (b := kB f p n) hLI (by omega)).2.2.2.2.2]; have q0 := (LI_slip (b := kB f p n) hLI (by omega)).2.1; simp [nup]; try ((repeat' split) <;> (repeat' split at q0) <;> first | omega | (simp_all; done) | (simp_all; omega) | (exfalso; simp_all; omega))) (by exact (vK_up (vK_up hvk (by decide) (by decide) (by decide) (by decide)) (by decide) (by decide) (by decide) (by decide))) (by exact hvx) (by exact hby)
                  · skip
                    refine v_iload (pc := 410) 2 rfl dX12_looks_410 ?_
                    refine v_sipush (pc := 412) dX12_looks_412 (by decide) ?_
                    refine v_icmp_gt (pc := 415) 427 dX12_looks_415 (by decide) (by unfold iB; omega) (by unfold iB; omega) (fun c_10 => ?_) (fun c_10 => ?_)
                    · skip
                      refine v_iconst (pc := 427) dX12_looks_427 ?_
                      refine v_iadd (pc := 428) dX12_looks_428 ?_
                      refine v_put (pc := 429) 12 0 rfl fl_12_126_12 ck_12 ft_12_12 (okV_i _) (Nat.le_of_ble_eq_true rfl) (ws2 := [(h, co 12 (mO ad (nup (nup v1 11 ((v1 11) + 0)) 12 ((v1 12) + 0)))), ((ad 9), cn 0 6 by1), ((ad 10), cn 1 64 tr1)]) rfl dX12_looks_429 ?_
                      refine v_iinc (pc := 432) 8 (L2 := [(6, ai (j + 1)), (8, ai (tr1 0)), (5, ai 0), (7, ai (f j)), (0, ar h), (1, ai p), (2, ai n), (3, ai (kMany f)), (4, ai (236 + (140 * (f 5))))]) rfl rfl (by decide) dX12_looks_432 ?_
                      refine v_goto (pc := 435) 120 dX12_looks_435 (by decide) ?_
                      refine v_sub (L2 := [(0, ar h), (1, ai p), (2, ai n), (3, ai (kMany f)), (4, ai (236 + (140 * (f 5)))), (5, ai 0), (6, ai (j + 1))]) [4, 5, 6, 7, 8, 2, 0] rfl ?_
                      exact ih _ (by omega) 0 (j + 1) (nup (nup v1 11 ((v1 11) + 0)) 12 ((v1 12) + 0)) by1 tr1 rfl (by omega) (by omega) (by rw [hs.1, (LI_slip (b := kB f p n) hLI (by omega)).2.2.2.1]; try rfl) (by have q := (LI_slip (b := kB f p n) hLI (by omega)).1; rw [hs.1, show j + 1 - (236 + 140 * f 5) = j - (236 + 140 * f 5) + 1 by omega]; exact q) (by rw [hs.1, (LI_slip (b := kB f p n) hLI (by omega)).2.2.2.2.1]; have q0 := (LI_slip (b := kB f p n) hLI (by omega)).2.1; simp [nup]; try ((repeat' split) <;> (repeat' split at q0) <;> first | omega | (simp_all; done) | (simp_all; omega) | (exfalso; simp_all; omega))) (by rw [hs.1, (LI_slip (b := kB f p n) hLI (by omega)).2.2.2.2.2]; have q0 := (LI_slip (b := kB f p n) hLI (by omega)).2.1; simp [nup]; try ((repeat' split) <;> (repeat' split at q0) <;> first | omega | (simp_all; done) | (simp_all; omega) | (exfalso; simp_all; omega))) (by exact (vK_up (vK_up hvk (by decide) (by decide) (by decide) (by decide)) (by decide) (by decide) (by decide) (by decide))) (by exact hvx) (by exact hby)
                    · skip
                      refine v_sipush (pc := 418) dX12_looks_418 (by decide) ?_
                      refine v_iload (pc := 421) 2 rfl dX12_looks_421 ?_
                      refine v_isub (pc := 423) dX12_looks_423 ?_
                      refine v_goto (pc := 424) 428 dX12_looks_424 (by decide) ?_
                      refine v_iadd (pc := 428) dX12_looks_428 ?_
                      refine v_put (pc := 429) 12 0 rfl fl_12_126_12 ck_12 ft_12_12 (okV_i _) (Nat.le_of_ble_eq_true rfl) (ws2 := [(h, co 12 (mO ad (nup (nup v1 11 ((v1 11) + 0)) 12 ((v1 12) + ((-200) - (f j)))))), ((ad 9), cn 0 6 by1), ((ad 10), cn 1 64 tr1)]) rfl dX12_looks_429 ?_
                      refine v_iinc (pc := 432) 8 (L2 := [(6, ai (j + 1)), (8, ai (tr1 0)), (5, ai 0), (7, ai (f j)), (0, ar h), (1, ai p), (2, ai n), (3, ai (kMany f)), (4, ai (236 + (140 * (f 5))))]) rfl rfl (by decide) dX12_looks_432 ?_
                      refine v_goto (pc := 435) 120 dX12_looks_435 (by decide) ?_
                      refine v_sub (L2 := [(0, ar h), (1, ai p), (2, ai n), (3, ai (kMany f)), (4, ai (236 + (140 * (f 5)))), (5, ai 0), (6, ai (j + 1))]) [4, 5, 6, 7, 8, 2, 0] rfl ?_
                      exact ih _ (by omega) 0 (j + 1) (nup (nup v1 11 ((v1 11) + 0)) 12 ((v1 12) + ((-200) - (f j)))) by1 tr1 rfl (by omega) (by omega) (by rw [hs.1, (LI_slip (b := kB f p n) hLI (by omega)).2.2.2.1]; try rfl) (by have q := (LI_slip (b := kB f p n) hLI (by omega)).1; rw [hs.1, show j + 1 - (236 + 140 * f 5) = j - (236 + 140 * f 5) + 1 by omega]; exact q) (by rw [hs.1, (LI_slip (b := kB f p n) hLI (by omega)).2.2.2.2.1]; have q0 := (LI_slip (b := kB f p n) hLI (by omega)).2.1; simp [nup]; try ((repeat' split) <;> (repeat' split at q0) <;> first | omega | (simp_all; done) | (simp_all; omega) | (exfalso; simp_all; omega))) (by rw [hs.1, (LI_slip (b := kB f p n) hLI (by omega)).2.2.2.2.2]; have q0 := (LI_slip (b := kB f p n) hLI (by omega)).2.1; simp [nup]; try ((repeat' split) <;> (repeat' split at q0) <;> first | omega | (simp_all; done) | (simp_all; omega) | (exfalso; simp_all; omega))) (by exact (vK_up (vK_up hvk (by decide) (by decide) (by decide) (by decide)) (by decide) (by decide) (by decide) (by decide))) (by exact hvx) (by exact hby)
                · skip
                  refine v_bipush (pc := 387) dX12_looks_387 (by decide) ?_
                  refine v_iload (pc := 389) 2 rfl dX12_looks_389 ?_
                  refine v_isub (pc := 391) dX12_looks_391 ?_
                  refine v_goto (pc := 392) 396 dX12_looks_392 (by decide) ?_
                  refine v_iadd (pc := 396) dX12_looks_396 ?_
                  refine v_put (pc := 397) 11 0 rfl fl_12_123_12 ck_12 ft_12_11 (okV_i _) (Nat.le_of_ble_eq_true rfl) (ws2 := [(h, co 12 (mO ad (nup v1 11 ((v1 11) + ((-10) - (f j)))))), ((ad 9), cn 0 6 by1), ((ad 10), cn 1 64 tr1)]) rfl dX12_looks_397 ?_
                  refine v_aload_n (pc := 400) 3 rfl dX12_looks_400 ?_
                  refine v_dup (pc := 401) rfl dX12_looks_401 ?_
                  refine v_get (pc := 402) (v := ai (v1 12)) 12 (Or.inr ⟨0, rfl⟩) fl_12_126_12 rfl dX12_looks_402 ?_
                  refine v_iload (pc := 405) 0 rfl dX12_looks_405 ?_
                  refine v_if_eq (pc := 407) 427 dX12_looks_407 (by decide) (by unfold iB; omega) (fun c_11 => ?_) (fun c_11 => ?_)
                  · skip
                    refine v_iconst (pc := 427) dX12_looks_427 ?_
                    refine v_iadd (pc := 428) dX12_looks_428 ?_
                    refine v_put (pc := 429) 12 0 rfl fl_12_126_12 ck_12 ft_12_12 (okV_i _) (Nat.le_of_ble_eq_true rfl) (ws2 := [(h, co 12 (mO ad (nup (nup v1 11 ((v1 11) + ((-10) - (f j)))) 12 ((v1 12) + 0)))), ((ad 9), cn 0 6 by1), ((ad 10), cn 1 64 tr1)]) rfl dX12_looks_429 ?_
                    refine v_iinc (pc := 432) 8 (L2 := [(6, ai (j + 1)), (8, ai (tr1 0)), (5, ai 0), (7, ai (f j)), (0, ar h), (1, ai p), (2, ai n), (3, ai (kMany f)), (4, ai (236 + (140 * (f 5))))]) rfl rfl (by decide) dX12_looks_432 ?_
                    refine v_goto (pc := 435) 120 dX12_looks_435 (by decide) ?_
                    refine v_sub (L2 := [(0, ar h), (1, ai p), (2, ai n), (3, ai (kMany f)), (4, ai (236 + (140 * (f 5)))), (5, ai 0), (6, ai (j + 1))]) [4, 5, 6, 7, 8, 2, 0] rfl ?_
                    exact ih _ (by omega) 0 (j + 1) (nup (nup v1 11 ((v1 11) + ((-10) - (f j)))) 12 ((v1 12) + 0)) by1 tr1 rfl (by omega) (by omega) (by rw [hs.1, (LI_slip (b := kB f p n) hLI (by omega)).2.2.2.1]; try rfl) (by have q := (LI_slip (b := kB f p n) hLI (by omega)).1; rw [hs.1, show j + 1 - (236 + 140 * f 5) = j - (236 + 140 * f 5) + 1 by omega]; exact q) (by rw [hs.1, (LI_slip (b := kB f p n) hLI (by omega)).2.2.2.2.1]; have q0 := (LI_slip (b := kB f p n) hLI (by omega)).2.1; simp [nup]; try ((repeat' split) <;> (repeat' split at q0) <;> first | omega | (simp_all; done) | (simp_all; omega) | (exfalso; simp_all; omega))) (by rw [hs.1, (LI_slip (b := kB f p n) hLI (by omega)).2.2.2.2.2]; have q0 := (LI_slip (b := kB f p n) hLI (by omega)).2.1; simp [nup]; try ((repeat' split) <;> (repeat' split at q0) <;> first | omega | (simp_all; done) | (simp_all; omega) | (exfalso; simp_all; omega))) (by exact (vK_up (vK_up hvk (by decide) (by decide) (by decide) (by decide)) (by decide) (by decide) (by decide) (by decide))) (by exact hvx) (by exact hby)
                  · skip
                    refine v_iload (pc := 410) 2 rfl dX12_looks_410 ?_
                    refine v_sipush (pc := 412) dX12_looks_412 (by decide) ?_
                    refine v_icmp_gt (pc := 415) 427 dX12_looks_415 (by decide) (by unfold iB; omega) (by unfold iB; omega) (fun c_12 => ?_) (fun c_12 => ?_)
                    · skip
                      refine v_iconst (pc := 427) dX12_looks_427 ?_
                      refine v_iadd (pc := 428) dX12_looks_428 ?_
                      refine v_put (pc := 429) 12 0 rfl fl_12_126_12 ck_12 ft_12_12 (okV_i _) (Nat.le_of_ble_eq_true rfl) (ws2 := [(h, co 12 (mO ad (nup (nup v1 11 ((v1 11) + ((-10) - (f j)))) 12 ((v1 12) + 0)))), ((ad 9), cn 0 6 by1), ((ad 10), cn 1 64 tr1)]) rfl dX12_looks_429 ?_
                      refine v_iinc (pc := 432) 8 (L2 := [(6, ai (j + 1)), (8, ai (tr1 0)), (5, ai 0), (7, ai (f j)), (0, ar h), (1, ai p), (2, ai n), (3, ai (kMany f)), (4, ai (236 + (140 * (f 5))))]) rfl rfl (by decide) dX12_looks_432 ?_
                      refine v_goto (pc := 435) 120 dX12_looks_435 (by decide) ?_
                      refine v_sub (L2 := [(0, ar h), (1, ai p), (2, ai n), (3, ai (kMany f)), (4, ai (236 + (140 * (f 5)))), (5, ai 0), (6, ai (j + 1))]) [4, 5, 6, 7, 8, 2, 0] rfl ?_
                      exact ih _ (by omega) 0 (j + 1) (nup (nup v1 11 ((v1 11) + ((-10) - (f j)))) 12 ((v1 12) + 0)) by1 tr1 rfl (by omega) (by omega) (by rw [hs.1, (LI_slip (b := kB f p n) hLI (by omega)).2.2.2.1]; try rfl) (by have q := (LI_slip (b := kB f p n) hLI (by omega)).1; rw [hs.1, show j + 1 - (236 + 140 * f 5) = j - (236 + 140 * f 5) + 1 by omega]; exact q) (by rw [hs.1, (LI_slip (b := kB f p n) hLI (by omega)).2.2.2.2.1]; have q0 := (LI_slip (b := kB f p n) hLI (by omega)).2.1; simp [nup]; try ((repeat' split) <;> (repeat' split at q0) <;> first | omega | (simp_all; done) | (simp_all; omega) | (exfalso; simp_all; omega))) (by rw [hs.1, (LI_slip (b := kB f p n) hLI (by omega)).2.2.2.2.2]; have q0 := (LI_slip (b := kB f p n) hLI (by omega)).2.1; simp [nup]; try ((repeat' split) <;> (repeat' split at q0) <;> first | omega | (simp_all; done) | (simp_all; omega) | (exfalso; simp_all; omega))) (by exact (vK_up (vK_up hvk (by decide) (by decide) (by decide) (by decide)) (by decide) (by decide) (by decide) (by decide))) (by exact hvx) (by exact hby)
                    · skip
                      refine v_sipush (pc := 418) dX12_looks_418 (by decide) ?_
                      refine v_iload (pc := 421) 2 rfl dX12_looks_421 ?_
                      refine v_isub (pc := 423) dX12_looks_423 ?_
                      refine v_goto (pc := 424) 428 dX12_looks_424 (by decide) ?_
                      refine v_iadd (pc := 428) dX12_looks_428 ?_
                      refine v_put (pc := 429) 12 0 rfl fl_12_126_12 ck_12 ft_12_12 (okV_i _) (Nat.le_of_ble_eq_true rfl) (ws2 := [(h, co 12 (mO ad (nup (nup v1 11 ((v1 11) + ((-10) - (f j)))) 12 ((v1 12) + ((-200) - (f j)))))), ((ad 9), cn 0 6 by1), ((ad 10), cn 1 64 tr1)]) rfl dX12_looks_429 ?_
                      refine v_iinc (pc := 432) 8 (L2 := [(6, ai (j + 1)), (8, ai (tr1 0)), (5, ai 0), (7, ai (f j)), (0, ar h), (1, ai p), (2, ai n), (3, ai (kMany f)), (4, ai (236 + (140 * (f 5))))]) rfl rfl (by decide) dX12_looks_432 ?_
                      refine v_goto (pc := 435) 120 dX12_looks_435 (by decide) ?_
                      refine v_sub (L2 := [(0, ar h), (1, ai p), (2, ai n), (3, ai (kMany f)), (4, ai (236 + (140 * (f 5)))), (5, ai 0), (6, ai (j + 1))]) [4, 5, 6, 7, 8, 2, 0] rfl ?_
                      exact ih _ (by omega) 0 (j + 1) (nup (nup v1 11 ((v1 11) + ((-10) - (f j)))) 12 ((v1 12) + ((-200) - (f j)))) by1 tr1 rfl (by omega) (by omega) (by rw [hs.1, (LI_slip (b := kB f p n) hLI (by omega)).2.2.2.1]; try rfl) (by have q := (LI_slip (b := kB f p n) hLI (by omega)).1; rw [hs.1, show j + 1 - (236 + 140 * f 5) = j - (236 + 140 * f 5) + 1 by omega]; exact q) (by rw [hs.1, (LI_slip (b := kB f p n) hLI (by omega)).2.2.2.2.1]; have q0 := (LI_slip (b := kB f p n) hLI (by omega)).2.1; simp [nup]; try ((repeat' split) <;> (repeat' split at q0) <;> first | omega | (simp_all; done) | (simp_all; omega) | (exfalso; simp_all; omega))) (by rw [hs.1, (LI_slip (b := kB f p n) hLI (by omega)).2.2.2.2.2]; have q0 := (LI_slip (b := kB f p n) hLI (by omega)).2.1; simp [nup]; try ((repeat' split) <;> (repeat' split at q0) <;> first | omega | (simp_all; done) | (simp_all; omega) | (exfalso; simp_all; omega))) (by exact (vK_up (vK_up hvk (by decide) (by decide) (by decide) (by decide)) (by decide) (by decide) (by decide) (by decide))) (by exact hvx) (by exact hby)
            · skip
              refine v_iinc (pc := 279) 6 (L2 := [(5, ai (tp + (-1))), (7, ai (f j)), (0, ar h), (1, ai p), (2, ai n), (3, ai (kMany f)), (4, ai (236 + (140 * (f 5)))), (6, ai j)]) rfl rfl (by decide) dX12_looks_279 ?_
              have hq2 := hps.2.2 (by omega) (by omega)
              have h01 := RS_01 hLI.1 (k := tp + -1 - 1) (by omega) (by omega)
              have h02 := RS_01 hLI.1 (k := tp + -1) (by omega) (by omega)
              refine v_aload_n (pc := 282) 2 rfl dX12_looks_282 ?_
              refine v_get (pc := 283) (v := ar (ad 10)) 10 (Or.inr ⟨0, rfl⟩) fl_12_21_12 rfl dX12_looks_283 ?_
              refine v_iload (pc := 286) 0 rfl dX12_looks_286 ?_
              refine v_iconst (pc := 288) dX12_looks_288 ?_
              refine v_isub (pc := 289) dX12_looks_289 ?_
              refine v_iload (pc := 290) 1 rfl dX12_looks_290 ?_
              refine v_bipush (pc := 292) dX12_looks_292 (by decide) ?_
              refine v_icmp_ne (pc := 294) 327 dX12_looks_294 (by decide) (by unfold iB; omega) (by unfold iB; omega) (fun c_13 => ?_) (fun c_13 => ?_)
              · skip
                refine v_aload_n (pc := 327) 2 rfl dX12_looks_327 ?_
                refine v_get (pc := 328) (v := ar (ad 10)) 10 (Or.inr ⟨0, rfl⟩) fl_12_21_12 rfl dX12_looks_328 ?_
                refine v_iload (pc := 331) 0 rfl dX12_looks_331 ?_
                refine v_iconst (pc := 333) dX12_looks_333 ?_
                refine v_isub (pc := 334) dX12_looks_334 ?_
                refine v_bald (pc := 335) (Or.inr ⟨2, rfl⟩) (by omega) (by omega) (by decide) dX12_looks_335 ?_
                refine v_if_ne (pc := 336) 349 dX12_looks_336 (by decide) (by unfold iB; omega) (fun c_14 => ?_) (fun c_14 => ?_)
                · skip
                  refine v_iconst (pc := 349) dX12_looks_349 ?_
                  refine v_goto (pc := 350) 354 dX12_looks_350 (by decide) ?_
                  refine v_bast (pc := 354) 2 (Or.inr rfl) rfl (by omega) (by omega) (by decide) (ws2 := [(h, co 12 (mO ad v1)), ((ad 9), cn 0 6 by1), ((ad 10), cn 1 64 (aup tr1 ((tp + (-1)) - 1) 1))]) rfl dX12_looks_354 ?_
                  refine v_goto (pc := 355) 432 dX12_looks_355 (by decide) ?_
                  refine v_iinc (pc := 432) 7 (L2 := [(6, ai (j + 1)), (5, ai (tp + (-1))), (7, ai (f j)), (0, ar h), (1, ai p), (2, ai n), (3, ai (kMany f)), (4, ai (236 + (140 * (f 5))))]) rfl rfl (by decide) dX12_looks_432 ?_
                  refine v_goto (pc := 435) 120 dX12_looks_435 (by decide) ?_
                  refine v_sub (L2 := [(0, ar h), (1, ai p), (2, ai n), (3, ai (kMany f)), (4, ai (236 + (140 * (f 5)))), (5, ai (tp + (-1))), (6, ai (j + 1))]) [3, 4, 5, 6, 7, 1, 0] rfl ?_
                  exact ih _ (by omega) (tp + (-1)) (j + 1) v1 by1 (aup tr1 ((tp + (-1)) - 1) 1) rfl (by omega) (by omega) (by rw [hs.1, LI_len_bin (by omega) (by omega) (by omega)]; omega) (by have q := LI_bin (b := kB f p n) (z := 1) hLI (by omega) (by omega) (by rw [← htp, show tp - 1 - 1 = tp + -1 - 1 by omega, show tp - 1 = tp + -1 by omega]; (repeat' split) <;> omega); rw [hs.1, htp, show j + 1 - (236 + 140 * f 5) = j - (236 + 140 * f 5) + 1 by omega, show ((kE f p n j).1.length : Int) + -1 - 1 = ((kE f p n j).1.length : Int) - 1 - 1 by omega]; exact q) (by rw [hs.1, stp_2 (by omega)]; exact hv11) (by rw [hs.1, stp_2 (by omega)]; exact hv12) (by exact hvk) (by exact hvx) (by exact hby)
                · skip
                  refine v_aload_n (pc := 339) 2 rfl dX12_looks_339 ?_
                  refine v_get (pc := 340) (v := ar (ad 10)) 10 (Or.inr ⟨0, rfl⟩) fl_12_21_12 rfl dX12_looks_340 ?_
                  refine v_iload (pc := 343) 0 rfl dX12_looks_343 ?_
                  refine v_bald (pc := 345) (Or.inr ⟨2, rfl⟩) (by omega) (by omega) (by decide) dX12_looks_345 ?_
                  refine v_if_eq (pc := 346) 353 dX12_looks_346 (by decide) (by unfold iB; omega) (fun c_15 => ?_) (fun c_15 => ?_)
                  · skip
                    refine v_iconst (pc := 353) dX12_looks_353 ?_
                    refine v_bast (pc := 354) 2 (Or.inl rfl) rfl (by omega) (by omega) (by decide) (ws2 := [(h, co 12 (mO ad v1)), ((ad 9), cn 0 6 by1), ((ad 10), cn 1 64 (aup tr1 ((tp + (-1)) - 1) 0))]) rfl dX12_looks_354 ?_
                    refine v_goto (pc := 355) 432 dX12_looks_355 (by decide) ?_
                    refine v_iinc (pc := 432) 7 (L2 := [(6, ai (j + 1)), (5, ai (tp + (-1))), (7, ai (f j)), (0, ar h), (1, ai p), (2, ai n), (3, ai (kMany f)), (4, ai (236 + (140 * (f 5))))]) rfl rfl (by decide) dX12_looks_432 ?_
                    refine v_goto (pc := 435) 120 dX12_looks_435 (by decide) ?_
                    refine v_sub (L2 := [(0, ar h), (1, ai p), (2, ai n), (3, ai (kMany f)), (4, ai (236 + (140 * (f 5)))), (5, ai (tp + (-1))), (6, ai (j + 1))]) [3, 4, 5, 6, 7, 1, 0] rfl ?_
                    exact ih _ (by omega) (tp + (-1)) (j + 1) v1 by1 (aup tr1 ((tp + (-1)) - 1) 0) rfl (by omega) (by omega) (by rw [hs.1, LI_len_bin (by omega) (by omega) (by omega)]; omega) (by have q := LI_bin (b := kB f p n) (z := 0) hLI (by omega) (by omega) (by rw [← htp, show tp - 1 - 1 = tp + -1 - 1 by omega, show tp - 1 = tp + -1 by omega]; (repeat' split) <;> omega); rw [hs.1, htp, show j + 1 - (236 + 140 * f 5) = j - (236 + 140 * f 5) + 1 by omega, show ((kE f p n j).1.length : Int) + -1 - 1 = ((kE f p n j).1.length : Int) - 1 - 1 by omega]; exact q) (by rw [hs.1, stp_2 (by omega)]; exact hv11) (by rw [hs.1, stp_2 (by omega)]; exact hv12) (by exact hvk) (by exact hvx) (by exact hby)
                  · skip
                    refine v_iconst (pc := 349) dX12_looks_349 ?_
                    refine v_goto (pc := 350) 354 dX12_looks_350 (by decide) ?_
                    refine v_bast (pc := 354) 2 (Or.inr rfl) rfl (by omega) (by omega) (by decide) (ws2 := [(h, co 12 (mO ad v1)), ((ad 9), cn 0 6 by1), ((ad 10), cn 1 64 (aup tr1 ((tp + (-1)) - 1) 1))]) rfl dX12_looks_354 ?_
                    refine v_goto (pc := 355) 432 dX12_looks_355 (by decide) ?_
                    refine v_iinc (pc := 432) 7 (L2 := [(6, ai (j + 1)), (5, ai (tp + (-1))), (7, ai (f j)), (0, ar h), (1, ai p), (2, ai n), (3, ai (kMany f)), (4, ai (236 + (140 * (f 5))))]) rfl rfl (by decide) dX12_looks_432 ?_
                    refine v_goto (pc := 435) 120 dX12_looks_435 (by decide) ?_
                    refine v_sub (L2 := [(0, ar h), (1, ai p), (2, ai n), (3, ai (kMany f)), (4, ai (236 + (140 * (f 5)))), (5, ai (tp + (-1))), (6, ai (j + 1))]) [3, 4, 5, 6, 7, 1, 0] rfl ?_
                    exact ih _ (by omega) (tp + (-1)) (j + 1) v1 by1 (aup tr1 ((tp + (-1)) - 1) 1) rfl (by omega) (by omega) (by rw [hs.1, LI_len_bin (by omega) (by omega) (by omega)]; omega) (by have q := LI_bin (b := kB f p n) (z := 1) hLI (by omega) (by omega) (by rw [← htp, show tp - 1 - 1 = tp + -1 - 1 by omega, show tp - 1 = tp + -1 by omega]; (repeat' split) <;> omega); rw [hs.1, htp, show j + 1 - (236 + 140 * f 5) = j - (236 + 140 * f 5) + 1 by omega, show ((kE f p n j).1.length : Int) + -1 - 1 = ((kE f p n j).1.length : Int) - 1 - 1 by omega]; exact q) (by rw [hs.1, stp_2 (by omega)]; exact hv11) (by rw [hs.1, stp_2 (by omega)]; exact hv12) (by exact hvk) (by exact hvx) (by exact hby)
              · skip
                refine v_aload_n (pc := 297) 2 rfl dX12_looks_297 ?_
                refine v_get (pc := 298) (v := ar (ad 10)) 10 (Or.inr ⟨0, rfl⟩) fl_12_21_12 rfl dX12_looks_298 ?_
                refine v_iload (pc := 301) 0 rfl dX12_looks_301 ?_
                refine v_iconst (pc := 303) dX12_looks_303 ?_
                refine v_isub (pc := 304) dX12_looks_304 ?_
                refine v_bald (pc := 305) (Or.inr ⟨2, rfl⟩) (by omega) (by omega) (by decide) dX12_looks_305 ?_
                refine v_if_eq (pc := 306) 323 dX12_looks_306 (by decide) (by unfold iB; omega) (fun c_16 => ?_) (fun c_16 => ?_)
                · skip
                  refine v_iconst (pc := 323) dX12_looks_323 ?_
                  refine v_goto (pc := 324) 354 dX12_looks_324 (by decide) ?_
                  refine v_bast (pc := 354) 2 (Or.inl rfl) rfl (by omega) (by omega) (by decide) (ws2 := [(h, co 12 (mO ad v1)), ((ad 9), cn 0 6 by1), ((ad 10), cn 1 64 (aup tr1 ((tp + (-1)) - 1) 0))]) rfl dX12_looks_354 ?_
                  refine v_goto (pc := 355) 432 dX12_looks_355 (by decide) ?_
                  refine v_iinc (pc := 432) 7 (L2 := [(6, ai (j + 1)), (5, ai (tp + (-1))), (7, ai (f j)), (0, ar h), (1, ai p), (2, ai n), (3, ai (kMany f)), (4, ai (236 + (140 * (f 5))))]) rfl rfl (by decide) dX12_looks_432 ?_
                  refine v_goto (pc := 435) 120 dX12_looks_435 (by decide) ?_
                  refine v_sub (L2 := [(0, ar h), (1, ai p), (2, ai n), (3, ai (kMany f)), (4, ai (236 + (140 * (f 5)))), (5, ai (tp + (-1))), (6, ai (j + 1))]) [3, 4, 5, 6, 7, 1, 0] rfl ?_
                  exact ih _ (by omega) (tp + (-1)) (j + 1) v1 by1 (aup tr1 ((tp + (-1)) - 1) 0) rfl (by omega) (by omega) (by rw [hs.1, LI_len_bin (by omega) (by omega) (by omega)]; omega) (by have q := LI_bin (b := kB f p n) (z := 0) hLI (by omega) (by omega) (by rw [← htp, show tp - 1 - 1 = tp + -1 - 1 by omega, show tp - 1 = tp + -1 by omega]; (repeat' split) <;> omega); rw [hs.1, htp, show j + 1 - (236 + 140 * f 5) = j - (236 + 140 * f 5) + 1 by omega, show ((kE f p n j).1.length : Int) + -1 - 1 = ((kE f p n j).1.length : Int) - 1 - 1 by omega]; exact q) (by rw [hs.1, stp_2 (by omega)]; exact hv11) (by rw [hs.1, stp_2 (by omega)]; exact hv12) (by exact hvk) (by exact hvx) (by exact hby)
                · skip
                  refine v_aload_n (pc := 309) 2 rfl dX12_looks_309 ?_
                  refine v_get (pc := 310) (v := ar (ad 10)) 10 (Or.inr ⟨0, rfl⟩) fl_12_21_12 rfl dX12_looks_310 ?_
                  refine v_iload (pc := 313) 0 rfl dX12_looks_313 ?_
                  refine v_bald (pc := 315) (Or.inr ⟨2, rfl⟩) (by omega) (by omega) (by decide) dX12_looks_315 ?_
                  refine v_if_eq (pc := 316) 323 dX12_looks_316 (by decide) (by unfold iB; omega) (fun c_17 => ?_) (fun c_17 => ?_)
                  · skip
                    refine v_iconst (pc := 323) dX12_looks_323 ?_
                    refine v_goto (pc := 324) 354 dX12_looks_324 (by decide) ?_
                    refine v_bast (pc := 354) 2 (Or.inl rfl) rfl (by omega) (by omega) (by decide) (ws2 := [(h, co 12 (mO ad v1)), ((ad 9), cn 0 6 by1), ((ad 10), cn 1 64 (aup tr1 ((tp + (-1)) - 1) 0))]) rfl dX12_looks_354 ?_
                    refine v_goto (pc := 355) 432 dX12_looks_355 (by decide) ?_
                    refine v_iinc (pc := 432) 7 (L2 := [(6, ai (j + 1)), (5, ai (tp + (-1))), (7, ai (f j)), (0, ar h), (1, ai p), (2, ai n), (3, ai (kMany f)), (4, ai (236 + (140 * (f 5))))]) rfl rfl (by decide) dX12_looks_432 ?_
                    refine v_goto (pc := 435) 120 dX12_looks_435 (by decide) ?_
                    refine v_sub (L2 := [(0, ar h), (1, ai p), (2, ai n), (3, ai (kMany f)), (4, ai (236 + (140 * (f 5)))), (5, ai (tp + (-1))), (6, ai (j + 1))]) [3, 4, 5, 6, 7, 1, 0] rfl ?_
                    exact ih _ (by omega) (tp + (-1)) (j + 1) v1 by1 (aup tr1 ((tp + (-1)) - 1) 0) rfl (by omega) (by omega) (by rw [hs.1, LI_len_bin (by omega) (by omega) (by omega)]; omega) (by have q := LI_bin (b := kB f p n) (z := 0) hLI (by omega) (by omega) (by rw [← htp, show tp - 1 - 1 = tp + -1 - 1 by omega, show tp - 1 = tp + -1 by omega]; (repeat' split) <;> omega); rw [hs.1, htp, show j + 1 - (236 + 140 * f 5) = j - (236 + 140 * f 5) + 1 by omega, show ((kE f p n j).1.length : Int) + -1 - 1 = ((kE f p n j).1.length : Int) - 1 - 1 by omega]; exact q) (by rw [hs.1, stp_2 (by omega)]; exact hv11) (by rw [hs.1, stp_2 (by omega)]; exact hv12) (by exact hvk) (by exact hvx) (by exact hby)
                  · skip
                    refine v_iconst (pc := 319) dX12_looks_319 ?_
                    refine v_goto (pc := 320) 354 dX12_looks_320 (by decide) ?_
                    refine v_bast (pc := 354) 2 (Or.inr rfl) rfl (by omega) (by omega) (by decide) (ws2 := [(h, co 12 (mO ad v1)), ((ad 9), cn 0 6 by1), ((ad 10), cn 1 64 (aup tr1 ((tp + (-1)) - 1) 1))]) rfl dX12_looks_354 ?_
                    refine v_goto (pc := 355) 432 dX12_looks_355 (by decide) ?_
                    refine v_iinc (pc := 432) 7 (L2 := [(6, ai (j + 1)), (5, ai (tp + (-1))), (7, ai (f j)), (0, ar h), (1, ai p), (2, ai n), (3, ai (kMany f)), (4, ai (236 + (140 * (f 5))))]) rfl rfl (by decide) dX12_looks_432 ?_
                    refine v_goto (pc := 435) 120 dX12_looks_435 (by decide) ?_
                    refine v_sub (L2 := [(0, ar h), (1, ai p), (2, ai n), (3, ai (kMany f)), (4, ai (236 + (140 * (f 5)))), (5, ai (tp + (-1))), (6, ai (j + 1))]) [3, 4, 5, 6, 7, 1, 0] rfl ?_
                    exact ih _ (by omega) (tp + (-1)) (j + 1) v1 by1 (aup tr1 ((tp + (-1)) - 1) 1) rfl (by omega) (by omega) (by rw [hs.1, LI_len_bin (by omega) (by omega) (by omega)]; omega) (by have q := LI_bin (b := kB f p n) (z := 1) hLI (by omega) (by omega) (by rw [← htp, show tp - 1 - 1 = tp + -1 - 1 by omega, show tp - 1 = tp + -1 by omega]; (repeat' split) <;> omega); rw [hs.1, htp, show j + 1 - (236 + 140 * f 5) = j - (236 + 140 * f 5) + 1 by omega, show ((kE f p n j).1.length : Int) + -1 - 1 = ((kE f p n j).1.length : Int) - 1 - 1 by omega]; exact q) (by rw [hs.1, stp_2 (by omega)]; exact hv11) (by rw [hs.1, stp_2 (by omega)]; exact hv12) (by exact hvk) (by exact hvx) (by exact hby)
          · skip
            have hq1 := hps.2.1 (by omega)
            have h01 := RS_01 hLI.1 (k := tp - 1) (by omega) (by omega)
            refine v_aload_n (pc := 243) 1 rfl dX12_looks_243 ?_
            refine v_get (pc := 244) (v := ar (ad 10)) 10 (Or.inr ⟨0, rfl⟩) fl_12_21_12 rfl dX12_looks_244 ?_
            refine v_iload (pc := 247) 6 rfl dX12_looks_247 ?_
            refine v_iconst (pc := 249) dX12_looks_249 ?_
            refine v_isub (pc := 250) dX12_looks_250 ?_
            refine v_aload_n (pc := 251) 1 rfl dX12_looks_251 ?_
            refine v_get (pc := 252) (v := ar (ad 10)) 10 (Or.inr ⟨0, rfl⟩) fl_12_21_12 rfl dX12_looks_252 ?_
            refine v_iload (pc := 255) 6 rfl dX12_looks_255 ?_
            refine v_iconst (pc := 257) dX12_looks_257 ?_
            refine v_isub (pc := 258) dX12_looks_258 ?_
            refine v_bald (pc := 259) (Or.inr ⟨2, rfl⟩) (by omega) (by omega) (by decide) dX12_looks_259 ?_
            refine v_if_ne (pc := 260) 267 dX12_looks_260 (by decide) (by unfold iB; omega) (fun c_18 => ?_) (fun c_18 => ?_)
            · skip
              refine v_iconst (pc := 267) dX12_looks_267 ?_
              refine v_bast (pc := 268) 2 (Or.inl rfl) rfl (by omega) (by omega) (by decide) (ws2 := [(h, co 12 (mO ad v1)), ((ad 9), cn 0 6 by1), ((ad 10), cn 1 64 (aup tr1 (tp - 1) 0))]) rfl dX12_looks_268 ?_
              refine v_goto (pc := 269) 432 dX12_looks_269 (by decide) ?_
              refine v_iinc (pc := 432) 7 (L2 := [(6, ai (j + 1)), (7, ai (f j)), (0, ar h), (1, ai p), (2, ai n), (3, ai (kMany f)), (4, ai (236 + (140 * (f 5)))), (5, ai tp)]) rfl rfl (by decide) dX12_looks_432 ?_
              refine v_goto (pc := 435) 120 dX12_looks_435 (by decide) ?_
              refine v_sub (L2 := [(0, ar h), (1, ai p), (2, ai n), (3, ai (kMany f)), (4, ai (236 + (140 * (f 5)))), (5, ai tp), (6, ai (j + 1))]) [2, 3, 4, 5, 6, 7, 0] rfl ?_
              exact ih _ (by omega) tp (j + 1) v1 by1 (aup tr1 (tp - 1) 0) rfl (by omega) (by omega) (by rw [hs.1, LI_len_not (by omega)]; omega) (by have q := LI_not (b := kB f p n) (z := 0) hLI (by omega) (by rw [← htp]; omega); rw [hs.1, htp, show j + 1 - (236 + 140 * f 5) = j - (236 + 140 * f 5) + 1 by omega]; exact q) (by rw [hs.1, stp_2 (by omega)]; exact hv11) (by rw [hs.1, stp_2 (by omega)]; exact hv12) (by exact hvk) (by exact hvx) (by exact hby)
            · skip
              refine v_iconst (pc := 263) dX12_looks_263 ?_
              refine v_goto (pc := 264) 268 dX12_looks_264 (by decide) ?_
              refine v_bast (pc := 268) 2 (Or.inr rfl) rfl (by omega) (by omega) (by decide) (ws2 := [(h, co 12 (mO ad v1)), ((ad 9), cn 0 6 by1), ((ad 10), cn 1 64 (aup tr1 (tp - 1) 1))]) rfl dX12_looks_268 ?_
              refine v_goto (pc := 269) 432 dX12_looks_269 (by decide) ?_
              refine v_iinc (pc := 432) 7 (L2 := [(6, ai (j + 1)), (7, ai (f j)), (0, ar h), (1, ai p), (2, ai n), (3, ai (kMany f)), (4, ai (236 + (140 * (f 5)))), (5, ai tp)]) rfl rfl (by decide) dX12_looks_432 ?_
              refine v_goto (pc := 435) 120 dX12_looks_435 (by decide) ?_
              refine v_sub (L2 := [(0, ar h), (1, ai p), (2, ai n), (3, ai (kMany f)), (4, ai (236 + (140 * (f 5)))), (5, ai tp), (6, ai (j + 1))]) [2, 3, 4, 5, 6, 7, 0] rfl ?_
              exact ih _ (by omega) tp (j + 1) v1 by1 (aup tr1 (tp - 1) 1) rfl (by omega) (by omega) (by rw [hs.1, LI_len_not (by omega)]; omega) (by have q := LI_not (b := kB f p n) (z := 1) hLI (by omega) (by rw [← htp]; omega); rw [hs.1, htp, show j + 1 - (236 + 140 * f 5) = j - (236 + 140 * f 5) + 1 by omega]; exact q) (by rw [hs.1, stp_2 (by omega)]; exact hv11) (by rw [hs.1, stp_2 (by omega)]; exact hv12) (by exact hvk) (by exact hvx) (by exact hby)
        · skip
          have hp8 := hps.1 (by omega)
          have hbk := hby (f j % 8) (by omega) (by omega)
          have hbb := kB_b (k := f j % 8) hf hn (by omega)
          refine v_aload_n (pc := 143) 1 rfl dX12_looks_143 ?_
          refine v_get (pc := 144) (v := ar (ad 9)) 9 (Or.inr ⟨0, rfl⟩) fl_12_18_12 rfl dX12_looks_144 ?_
          refine v_iload (pc := 147) 0 rfl dX12_looks_147 ?_
          refine v_bipush (pc := 149) dX12_looks_149 (by decide) ?_
          refine v_irem (pc := 151) (by omega) (by omega) (by unfold iB; omega) (by unfold iB; omega) dX12_looks_151 ?_
          refine v_iald (pc := 152) (Or.inr ⟨1, rfl⟩) (by omega) (by omega) (by decide) dX12_looks_152 ?_
          refine v_istore (pc := 153) (L2 := [(8, ai (by1 ((f j) % 8))), (7, ai (f j)), (0, ar h), (1, ai p), (2, ai n), (3, ai (kMany f)), (4, ai (236 + (140 * (f 5)))), (5, ai tp), (6, ai j)]) rfl (by decide) dX12_looks_153 ?_
          refine v_iload (pc := 155) 1 rfl dX12_looks_155 ?_
          refine v_bipush (pc := 157) dX12_looks_157 (by decide) ?_
          refine v_idiv (pc := 159) (by omega) (by omega) (by unfold iB; omega) (by unfold iB; omega) dX12_looks_159 ?_
          refine v_iconst (pc := 160) dX12_looks_160 ?_
          refine v_irem (pc := 161) (by omega) (by omega) (by unfold iB; omega) (by unfold iB; omega) dX12_looks_161 ?_
          refine v_istore (pc := 162) (L2 := [(9, ai (((f j) / 8) % 4)), (8, ai (by1 ((f j) % 8))), (7, ai (f j)), (0, ar h), (1, ai p), (2, ai n), (3, ai (kMany f)), (4, ai (236 + (140 * (f 5)))), (5, ai tp), (6, ai j)]) rfl (by decide) dX12_looks_162 ?_
          refine v_iload (pc := 164) 2 rfl dX12_looks_164 ?_
          refine v_bipush (pc := 166) dX12_looks_166 (by decide) ?_
          refine v_idiv (pc := 168) (by omega) (by omega) (by unfold iB; omega) (by unfold iB; omega) dX12_looks_168 ?_
          refine v_istore (pc := 169) (L2 := [(10, ai ((f j) / 32)), (9, ai (((f j) / 8) % 4)), (8, ai (by1 ((f j) % 8))), (7, ai (f j)), (0, ar h), (1, ai p), (2, ai n), (3, ai (kMany f)), (4, ai (236 + (140 * (f 5)))), (5, ai tp), (6, ai j)]) rfl (by decide) dX12_looks_169 ?_
          refine v_aload_n (pc := 171) 4 rfl dX12_looks_171 ?_
          refine v_get (pc := 172) (v := ar (ad 10)) 10 (Or.inr ⟨0, rfl⟩) fl_12_21_12 rfl dX12_looks_172 ?_
          refine v_iload (pc := 175) 9 rfl dX12_looks_175 ?_
          refine v_iload (pc := 177) 1 rfl dX12_looks_177 ?_
          refine v_if_ne (pc := 179) 197 dX12_looks_179 (by decide) (by unfold iB; omega) (fun c_19 => ?_) (fun c_19 => ?_)
          · skip
            refine v_iload (pc := 197) 1 rfl dX12_looks_197 ?_
            refine v_iconst (pc := 199) dX12_looks_199 ?_
            refine v_icmp_ne (pc := 200) 218 dX12_looks_200 (by decide) (by unfold iB; omega) (by unfold iB; omega) (fun c_20 => ?_) (fun c_20 => ?_)
            · skip
              refine v_iload (pc := 218) 2 rfl dX12_looks_218 ?_
              refine v_iload (pc := 220) 0 rfl dX12_looks_220 ?_
              refine v_icmp_le (pc := 222) 229 dX12_looks_222 (by decide) (by unfold iB; omega) (by unfold iB; omega) (fun c_21 => ?_) (fun c_21 => ?_)
              · skip
                refine v_iconst (pc := 229) dX12_looks_229 ?_
                refine v_bast (pc := 230) 2 (Or.inl rfl) rfl (by omega) (by omega) (by decide) (ws2 := [(h, co 12 (mO ad v1)), ((ad 9), cn 0 6 by1), ((ad 10), cn 1 64 (aup tr1 tp 0))]) rfl dX12_looks_230 ?_
                refine v_iinc (pc := 231) 9 (L2 := [(5, ai (tp + 1)), (10, ai ((f j) / 32)), (9, ai (((f j) / 8) % 4)), (8, ai (by1 ((f j) % 8))), (7, ai (f j)), (0, ar h), (1, ai p), (2, ai n), (3, ai (kMany f)), (4, ai (236 + (140 * (f 5)))), (6, ai j)]) rfl rfl (by decide) dX12_looks_231 ?_
                refine v_goto (pc := 234) 432 dX12_looks_234 (by decide) ?_
                refine v_iinc (pc := 432) 10 (L2 := [(6, ai (j + 1)), (5, ai (tp + 1)), (10, ai ((f j) / 32)), (9, ai (((f j) / 8) % 4)), (8, ai (by1 ((f j) % 8))), (7, ai (f j)), (0, ar h), (1, ai p), (2, ai n), (3, ai (kMany f)), (4, ai (236 + (140 * (f 5))))]) rfl rfl (by decide) dX12_looks_432 ?_
                refine v_goto (pc := 435) 120 dX12_looks_435 (by decide) ?_
                refine v_sub (L2 := [(0, ar h), (1, ai p), (2, ai n), (3, ai (kMany f)), (4, ai (236 + (140 * (f 5)))), (5, ai (tp + 1)), (6, ai (j + 1))]) [6, 7, 8, 9, 10, 1, 0] rfl ?_
                exact ih _ (by omega) (tp + 1) (j + 1) v1 by1 (aup tr1 tp 0) rfl (by omega) (by omega) (by rw [hs.1, LI_len_tst (by omega)]; omega) (by have q := LI_tst (b := kB f p n) (z := 0) hLI (by omega) ((if_neg (fun z => by have z1 := (tst_iff _ _).mp z; rw [← hbk] at z1; omega)).symm); rw [hs.1, htp, show j + 1 - (236 + 140 * f 5) = j - (236 + 140 * f 5) + 1 by omega]; exact q) (by rw [hs.1, stp_2 (by omega)]; exact hv11) (by rw [hs.1, stp_2 (by omega)]; exact hv12) (by exact hvk) (by exact hvx) (by exact hby)
              · skip
                refine v_iconst (pc := 225) dX12_looks_225 ?_
                refine v_goto (pc := 226) 230 dX12_looks_226 (by decide) ?_
                refine v_bast (pc := 230) 2 (Or.inr rfl) rfl (by omega) (by omega) (by decide) (ws2 := [(h, co 12 (mO ad v1)), ((ad 9), cn 0 6 by1), ((ad 10), cn 1 64 (aup tr1 tp 1))]) rfl dX12_looks_230 ?_
                refine v_iinc (pc := 231) 9 (L2 := [(5, ai (tp + 1)), (10, ai ((f j) / 32)), (9, ai (((f j) / 8) % 4)), (8, ai (by1 ((f j) % 8))), (7, ai (f j)), (0, ar h), (1, ai p), (2, ai n), (3, ai (kMany f)), (4, ai (236 + (140 * (f 5)))), (6, ai j)]) rfl rfl (by decide) dX12_looks_231 ?_
                refine v_goto (pc := 234) 432 dX12_looks_234 (by decide) ?_
                refine v_iinc (pc := 432) 10 (L2 := [(6, ai (j + 1)), (5, ai (tp + 1)), (10, ai ((f j) / 32)), (9, ai (((f j) / 8) % 4)), (8, ai (by1 ((f j) % 8))), (7, ai (f j)), (0, ar h), (1, ai p), (2, ai n), (3, ai (kMany f)), (4, ai (236 + (140 * (f 5))))]) rfl rfl (by decide) dX12_looks_432 ?_
                refine v_goto (pc := 435) 120 dX12_looks_435 (by decide) ?_
                refine v_sub (L2 := [(0, ar h), (1, ai p), (2, ai n), (3, ai (kMany f)), (4, ai (236 + (140 * (f 5)))), (5, ai (tp + 1)), (6, ai (j + 1))]) [6, 7, 8, 9, 10, 1, 0] rfl ?_
                exact ih _ (by omega) (tp + 1) (j + 1) v1 by1 (aup tr1 tp 1) rfl (by omega) (by omega) (by rw [hs.1, LI_len_tst (by omega)]; omega) (by have q := LI_tst (b := kB f p n) (z := 1) hLI (by omega) ((if_pos ((tst_iff _ _).mpr (by rw [← hbk]; omega))).symm); rw [hs.1, htp, show j + 1 - (236 + 140 * f 5) = j - (236 + 140 * f 5) + 1 by omega]; exact q) (by rw [hs.1, stp_2 (by omega)]; exact hv11) (by rw [hs.1, stp_2 (by omega)]; exact hv12) (by exact hvk) (by exact hvx) (by exact hby)
            · skip
              refine v_iload (pc := 203) 2 rfl dX12_looks_203 ?_
              refine v_iload (pc := 205) 0 rfl dX12_looks_205 ?_
              refine v_icmp_ne (pc := 207) 214 dX12_looks_207 (by decide) (by unfold iB; omega) (by unfold iB; omega) (fun c_22 => ?_) (fun c_22 => ?_)
              · skip
                refine v_iconst (pc := 214) dX12_looks_214 ?_
                refine v_goto (pc := 215) 230 dX12_looks_215 (by decide) ?_
                refine v_bast (pc := 230) 2 (Or.inl rfl) rfl (by omega) (by omega) (by decide) (ws2 := [(h, co 12 (mO ad v1)), ((ad 9), cn 0 6 by1), ((ad 10), cn 1 64 (aup tr1 tp 0))]) rfl dX12_looks_230 ?_
                refine v_iinc (pc := 231) 9 (L2 := [(5, ai (tp + 1)), (10, ai ((f j) / 32)), (9, ai (((f j) / 8) % 4)), (8, ai (by1 ((f j) % 8))), (7, ai (f j)), (0, ar h), (1, ai p), (2, ai n), (3, ai (kMany f)), (4, ai (236 + (140 * (f 5)))), (6, ai j)]) rfl rfl (by decide) dX12_looks_231 ?_
                refine v_goto (pc := 234) 432 dX12_looks_234 (by decide) ?_
                refine v_iinc (pc := 432) 10 (L2 := [(6, ai (j + 1)), (5, ai (tp + 1)), (10, ai ((f j) / 32)), (9, ai (((f j) / 8) % 4)), (8, ai (by1 ((f j) % 8))), (7, ai (f j)), (0, ar h), (1, ai p), (2, ai n), (3, ai (kMany f)), (4, ai (236 + (140 * (f 5))))]) rfl rfl (by decide) dX12_looks_432 ?_
                refine v_goto (pc := 435) 120 dX12_looks_435 (by decide) ?_
                refine v_sub (L2 := [(0, ar h), (1, ai p), (2, ai n), (3, ai (kMany f)), (4, ai (236 + (140 * (f 5)))), (5, ai (tp + 1)), (6, ai (j + 1))]) [6, 7, 8, 9, 10, 1, 0] rfl ?_
                exact ih _ (by omega) (tp + 1) (j + 1) v1 by1 (aup tr1 tp 0) rfl (by omega) (by omega) (by rw [hs.1, LI_len_tst (by omega)]; omega) (by have q := LI_tst (b := kB f p n) (z := 0) hLI (by omega) ((if_neg (fun z => by have z1 := (tst_iff _ _).mp z; rw [← hbk] at z1; omega)).symm); rw [hs.1, htp, show j + 1 - (236 + 140 * f 5) = j - (236 + 140 * f 5) + 1 by omega]; exact q) (by rw [hs.1, stp_2 (by omega)]; exact hv11) (by rw [hs.1, stp_2 (by omega)]; exact hv12) (by exact hvk) (by exact hvx) (by exact hby)
              · skip
                refine v_iconst (pc := 210) dX12_looks_210 ?_
                refine v_goto (pc := 211) 230 dX12_looks_211 (by decide) ?_
                refine v_bast (pc := 230) 2 (Or.inr rfl) rfl (by omega) (by omega) (by decide) (ws2 := [(h, co 12 (mO ad v1)), ((ad 9), cn 0 6 by1), ((ad 10), cn 1 64 (aup tr1 tp 1))]) rfl dX12_looks_230 ?_
                refine v_iinc (pc := 231) 9 (L2 := [(5, ai (tp + 1)), (10, ai ((f j) / 32)), (9, ai (((f j) / 8) % 4)), (8, ai (by1 ((f j) % 8))), (7, ai (f j)), (0, ar h), (1, ai p), (2, ai n), (3, ai (kMany f)), (4, ai (236 + (140 * (f 5)))), (6, ai j)]) rfl rfl (by decide) dX12_looks_231 ?_
                refine v_goto (pc := 234) 432 dX12_looks_234 (by decide) ?_
                refine v_iinc (pc := 432) 10 (L2 := [(6, ai (j + 1)), (5, ai (tp + 1)), (10, ai ((f j) / 32)), (9, ai (((f j) / 8) % 4)), (8, ai (by1 ((f j) % 8))), (7, ai (f j)), (0, ar h), (1, ai p), (2, ai n), (3, ai (kMany f)), (4, ai (236 + (140 * (f 5))))]) rfl rfl (by decide) dX12_looks_432 ?_
                refine v_goto (pc := 435) 120 dX12_looks_435 (by decide) ?_
                refine v_sub (L2 := [(0, ar h), (1, ai p), (2, ai n), (3, ai (kMany f)), (4, ai (236 + (140 * (f 5)))), (5, ai (tp + 1)), (6, ai (j + 1))]) [6, 7, 8, 9, 10, 1, 0] rfl ?_
                exact ih _ (by omega) (tp + 1) (j + 1) v1 by1 (aup tr1 tp 1) rfl (by omega) (by omega) (by rw [hs.1, LI_len_tst (by omega)]; omega) (by have q := LI_tst (b := kB f p n) (z := 1) hLI (by omega) ((if_pos ((tst_iff _ _).mpr (by rw [← hbk]; omega))).symm); rw [hs.1, htp, show j + 1 - (236 + 140 * f 5) = j - (236 + 140 * f 5) + 1 by omega]; exact q) (by rw [hs.1, stp_2 (by omega)]; exact hv11) (by rw [hs.1, stp_2 (by omega)]; exact hv12) (by exact hvk) (by exact hvx) (by exact hby)
          · skip
            refine v_iload (pc := 182) 2 rfl dX12_looks_182 ?_
            refine v_iload (pc := 184) 0 rfl dX12_looks_184 ?_
            refine v_icmp_ge (pc := 186) 193 dX12_looks_186 (by decide) (by unfold iB; omega) (by unfold iB; omega) (fun c_23 => ?_) (fun c_23 => ?_)
            · skip
              refine v_iconst (pc := 193) dX12_looks_193 ?_
              refine v_goto (pc := 194) 230 dX12_looks_194 (by decide) ?_
              refine v_bast (pc := 230) 2 (Or.inl rfl) rfl (by omega) (by omega) (by decide) (ws2 := [(h, co 12 (mO ad v1)), ((ad 9), cn 0 6 by1), ((ad 10), cn 1 64 (aup tr1 tp 0))]) rfl dX12_looks_230 ?_
              refine v_iinc (pc := 231) 9 (L2 := [(5, ai (tp + 1)), (10, ai ((f j) / 32)), (9, ai (((f j) / 8) % 4)), (8, ai (by1 ((f j) % 8))), (7, ai (f j)), (0, ar h), (1, ai p), (2, ai n), (3, ai (kMany f)), (4, ai (236 + (140 * (f 5)))), (6, ai j)]) rfl rfl (by decide) dX12_looks_231 ?_
              refine v_goto (pc := 234) 432 dX12_looks_234 (by decide) ?_
              refine v_iinc (pc := 432) 10 (L2 := [(6, ai (j + 1)), (5, ai (tp + 1)), (10, ai ((f j) / 32)), (9, ai (((f j) / 8) % 4)), (8, ai (by1 ((f j) % 8))), (7, ai (f j)), (0, ar h), (1, ai p), (2, ai n), (3, ai (kMany f)), (4, ai (236 + (140 * (f 5))))]) rfl rfl (by decide) dX12_looks_432 ?_
              refine v_goto (pc := 435) 120 dX12_looks_435 (by decide) ?_
              refine v_sub (L2 := [(0, ar h), (1, ai p), (2, ai n), (3, ai (kMany f)), (4, ai (236 + (140 * (f 5)))), (5, ai (tp + 1)), (6, ai (j + 1))]) [6, 7, 8, 9, 10, 1, 0] rfl ?_
              exact ih _ (by omega) (tp + 1) (j + 1) v1 by1 (aup tr1 tp 0) rfl (by omega) (by omega) (by rw [hs.1, LI_len_tst (by omega)]; omega) (by have q := LI_tst (b := kB f p n) (z := 0) hLI (by omega) ((if_neg (fun z => by have z1 := (tst_iff _ _).mp z; rw [← hbk] at z1; omega)).symm); rw [hs.1, htp, show j + 1 - (236 + 140 * f 5) = j - (236 + 140 * f 5) + 1 by omega]; exact q) (by rw [hs.1, stp_2 (by omega)]; exact hv11) (by rw [hs.1, stp_2 (by omega)]; exact hv12) (by exact hvk) (by exact hvx) (by exact hby)
            · skip
              refine v_iconst (pc := 189) dX12_looks_189 ?_
              refine v_goto (pc := 190) 230 dX12_looks_190 (by decide) ?_
              refine v_bast (pc := 230) 2 (Or.inr rfl) rfl (by omega) (by omega) (by decide) (ws2 := [(h, co 12 (mO ad v1)), ((ad 9), cn 0 6 by1), ((ad 10), cn 1 64 (aup tr1 tp 1))]) rfl dX12_looks_230 ?_
              refine v_iinc (pc := 231) 9 (L2 := [(5, ai (tp + 1)), (10, ai ((f j) / 32)), (9, ai (((f j) / 8) % 4)), (8, ai (by1 ((f j) % 8))), (7, ai (f j)), (0, ar h), (1, ai p), (2, ai n), (3, ai (kMany f)), (4, ai (236 + (140 * (f 5)))), (6, ai j)]) rfl rfl (by decide) dX12_looks_231 ?_
              refine v_goto (pc := 234) 432 dX12_looks_234 (by decide) ?_
              refine v_iinc (pc := 432) 10 (L2 := [(6, ai (j + 1)), (5, ai (tp + 1)), (10, ai ((f j) / 32)), (9, ai (((f j) / 8) % 4)), (8, ai (by1 ((f j) % 8))), (7, ai (f j)), (0, ar h), (1, ai p), (2, ai n), (3, ai (kMany f)), (4, ai (236 + (140 * (f 5))))]) rfl rfl (by decide) dX12_looks_432 ?_
              refine v_goto (pc := 435) 120 dX12_looks_435 (by decide) ?_
              refine v_sub (L2 := [(0, ar h), (1, ai p), (2, ai n), (3, ai (kMany f)), (4, ai (236 + (140 * (f 5)))), (5, ai (tp + 1)), (6, ai (j + 1))]) [6, 7, 8, 9, 10, 1, 0] rfl ?_
              exact ih _ (by omega) (tp + 1) (j + 1) v1 by1 (aup tr1 tp 1) rfl (by omega) (by omega) (by rw [hs.1, LI_len_tst (by omega)]; omega) (by have q := LI_tst (b := kB f p n) (z := 1) hLI (by omega) ((if_pos ((tst_iff _ _).mpr (by rw [← hbk]; omega))).symm); rw [hs.1, htp, show j + 1 - (236 + 140 * f 5) = j - (236 + 140 * f 5) + 1 by omega]; exact q) (by rw [hs.1, stp_2 (by omega)]; exact hv11) (by rw [hs.1, stp_2 (by omega)]; exact hv12) (by exact hvk) (by exact hvx) (by exact hby)
  refine v_sub (L2 := [(0, ar h), (1, ai p), (2, ai n), (3, ai (kMany f)), (4, ai (236 + (140 * (f 5)))), (5, ai 0), (6, ai (236 + (140 * (f 5))))]) [4, 5, 6, 3, 2, 1, 0] rfl ?_
  exact lp120 _ 0 (236 + (140 * (f 5))) (nup (nup v 11 0) 12 0) (aup (aup (aup (aup (aup (aup by0 0 p) 1 (f (7 + p))) 2 (n / 10)) 3 (f (31 + p))) 4 (f (19 + p))) 5 ((f 6) % 10)) tr0 rfl (by omega) (by omega) (by rw [kE_0]; rfl) (by rw [kE_0, kR_0, show 236 + 140 * f 5 - (236 + 140 * f 5) = 0 by omega]; exact LI_0 hwf) (by rw [kE_0]; rfl) (by rw [kE_0]; rfl) (by exact vK_up (vK_up (vK_rf v) (by decide) (by decide) (by decide) (by decide)) (by decide) (by decide) (by decide) (by decide)) (by exact ⟨rfl, rfl⟩) (by intro k h1 h2; unfold kB fbv; rcases (show k = 0 ∨ k = 1 ∨ k = 2 ∨ k = 3 ∨ k = 4 ∨ k = 5 by omega) with rfl | rfl | rfl | rfl | rfl | rfl <;> simp [aup])
