set_option maxHeartbeats 4000000 in
theorem b_L_law_23 {l : Launch} {D mc ms : Nat} {ζ : ZP} {h : HI} {Q : Option AV → HI → ZR → Prop} {x4 : Int} (hn : 144 ≤ ζ.2.2.2.2) (w : (rg x4) ∧ (rg ((h 1000004 0) - 6)) ∧ (if ((h 1000004 0) - 6) < x4 then (Q (some (aI 1)) h (zz ζ)) else ((0 ≤ x4 ∧ x4 < (h 1000004 0)) ∧ ((h 1000004 0) ≤ 3072) ∧ (rg (band (h 1000003 x4) 63)) ∧ ((band (h 1000003 x4) 63) = 0 → ((0 ≤ (x4 + 1) ∧ (x4 + 1) < (h 1000004 0)) ∧ (0 ≤ (x4 + 2) ∧ (x4 + 2) < (h 1000004 0)) ∧ (0 ≤ (x4 + 3) ∧ (x4 + 3) < (h 1000004 0)) ∧ (0 ≤ (x4 + 4) ∧ (x4 + 4) < (h 1000004 0)) ∧ (0 ≤ (x4 + 5) ∧ (x4 + 5) < (h 1000004 0)) ∧ RtI l D mX11_feed (zz ζ) [aP 0, aI (h 1000003 (x4 + 1)), aI (h 1000003 (x4 + 2)), aI (h 1000003 (x4 + 3)), aI (h 1000003 (x4 + 4)), aI (h 1000003 (x4 + 5))] h (fun r1 h1 => (0 ≤ (x4 + 1) ∧ (x4 + 1) < (h1 1000004 0)) ∧ ((h1 1000004 0) ≤ 3072) ∧ (0 ≤ (x4 + 2) ∧ (x4 + 2) < (h1 1000004 0)) ∧ (0 ≤ (x4 + 3) ∧ (x4 + 3) < (h1 1000004 0)) ∧ (0 ≤ (x4 + 4) ∧ (x4 + 4) < (h1 1000004 0)) ∧ (0 ≤ (x4 + 5) ∧ (x4 + 5) < (h1 1000004 0)) ∧ RtI l D mX12_feed (zz ζ) [aP 97, aI (h1 1000003 (x4 + 1)), aI (h1 1000003 (x4 + 2)), aI (h1 1000003 (x4 + 3)), aI (h1 1000003 (x4 + 4)), aI (h1 1000003 (x4 + 5))] h1 (fun r2 h2 => (rg r1) ∧ (rg r2) ∧ (if r1 = r2 then (G l (D + 1) mc ms mL_law (zz ζ) 23 [aP 1000003, aP 0, aP 97, aP 143, aI (x4 + 6), aU, aU] [] h2 Q) else (Q (some (aI 0)) h2 (zz ζ))))))) ∧ ((band (h 1000003 x4) 63) = 1 → ((0 ≤ (x4 + 1) ∧ (x4 + 1) < (h 1000004 0)) ∧ RtI l D mX11_end (zz ζ) [aP 0, aI (h 1000003 (x4 + 1))] h (fun r3 h3 => (0 ≤ (x4 + 1) ∧ (x4 + 1) < (h3 1000004 0)) ∧ ((h3 1000004 0) ≤ 3072) ∧ RtI l D mX12_end (zz ζ) [aP 97, aI (h3 1000003 (x4 + 1))] h3 (fun r4 h4 => (rg r3) ∧ (rg r4) ∧ (if r3 = r4 then (G l (D + 1) mc ms mL_law (zz ζ) 23 [aP 1000003, aP 0, aP 97, aP 143, aI (x4 + 6), aU, aU] [] h4 Q) else (Q (some (aI 0)) h4 (zz ζ))))))) ∧ ((band (h 1000003 x4) 63) = 2 → (RtI l D mX11_house (zz ζ) [aP 0] h (fun r5 h5 => RtI l D mX12_house (zz ζ) [aP 97] h5 (fun r6 h6 => (rg r5) ∧ (rg r6) ∧ (if r5 = r6 then (G l (D + 1) mc ms mL_law (zz ζ) 23 [aP 1000003, aP 0, aP 97, aP 143, aI (x4 + 6), aU, aU] [] h6 Q) else (Q (some (aI 0)) h6 (zz ζ))))))) ∧ ((band (h 1000003 x4) 63) = 3 → (RtI l D mX11_fault (zz ζ) [aP 0] h (fun r7 h7 => RtI l D mX12_fault (zz ζ) [aP 97] h7 (fun r8 h8 => (rg r7) ∧ (rg r8) ∧ (if r7 = r8 then (G l (D + 1) mc ms mL_law (zz ζ) 23 [aP 1000003, aP 0, aP 97, aP 143, aI (x4 + 6), aU, aU] [] h8 Q) else (Q (some (aI 0)) h8 (zz ζ))))))) ∧ ((band (h 1000003 x4) 63) = 4 → ((0 ≤ (x4 + 1) ∧ (x4 + 1) < (h 1000004 0)) ∧ RtI l D mX11_cell (zz ζ) [aP 0, aI (h 1000003 (x4 + 1))] h (fun r9 h9 => (0 ≤ (x4 + 1) ∧ (x4 + 1) < (h9 1000004 0)) ∧ ((h9 1000004 0) ≤ 3072) ∧ RtI l D mX12_cell (zz ζ) [aP 97, aI (h9 1000003 (x4 + 1))] h9 (fun r10 h10 => (rg r9) ∧ (rg r10) ∧ (if r9 = r10 then (G l (D + 1) mc ms mL_law (zz ζ) 23 [aP 1000003, aP 0, aP 97, aP 143, aI (x4 + 6), aU, aU] [] h10 Q) else (Q (some (aI 0)) h10 (zz ζ))))))) ∧ ((band (h 1000003 x4) 63) = 5 → ((0 ≤ (x4 + 1) ∧ (x4 + 1) < (h 1000004 0)) ∧ (0 ≤ (x4 + 2) ∧ (x4 + 2) < (h 1000004 0)) ∧ (0 ≤ (x4 + 3) ∧ (x4 + 3) < (h 1000004 0)) ∧ (0 ≤ (x4 + 4) ∧ (x4 + 4) < (h 1000004 0)) ∧ RtI l D mX11_read (zz ζ) [aP 0, aI (h 1000003 (x4 + 1)), aI (h 1000003 (x4 + 2)), aI (h 1000003 (x4 + 3)), aI (h 1000003 (x4 + 4))] h (fun r11 h11 => (0 ≤ (x4 + 1) ∧ (x4 + 1) < (h11 1000004 0)) ∧ ((h11 1000004 0) ≤ 3072) ∧ (0 ≤ (x4 + 2) ∧ (x4 + 2) < (h11 1000004 0)) ∧ (0 ≤ (x4 + 3) ∧ (x4 + 3) < (h11 1000004 0)) ∧ (0 ≤ (x4 + 4) ∧ (x4 + 4) < (h11 1000004 0)) ∧ RtI l D mX12_read (zz ζ) [aP 97, aI (h11 1000003 (x4 + 1)), aI (h11 1000003 (x4 + 2)), aI (h11 1000003 (x4 + 3)), aI (h11 1000003 (x4 + 4))] h11 (fun r12 h12 => (rg r11) ∧ (rg r12) ∧ (if r11 = r12 then (G l (D + 1) mc ms mL_law (zz ζ) 23 [aP 1000003, aP 0, aP 97, aP 143, aI (x4 + 6), aU, aU] [] h12 Q) else (Q (some (aI 0)) h12 (zz ζ))))))) ∧ ((band (h 1000003 x4) 63) = 6 → ((0 ≤ (x4 + 1) ∧ (x4 + 1) < (h 1000004 0)) ∧ (0 ≤ (x4 + 2) ∧ (x4 + 2) < (h 1000004 0)) ∧ (0 ≤ (x4 + 3) ∧ (x4 + 3) < (h 1000004 0)) ∧ (0 ≤ (x4 + 4) ∧ (x4 + 4) < (h 1000004 0)) ∧ RtI l D mX11_rest (zz ζ) [aP 0, aI (h 1000003 (x4 + 1)), aI (h 1000003 (x4 + 2)), aI (h 1000003 (x4 + 3)), aI (h 1000003 (x4 + 4))] h (fun r13 h13 => (0 ≤ (x4 + 1) ∧ (x4 + 1) < (h13 1000004 0)) ∧ ((h13 1000004 0) ≤ 3072) ∧ (0 ≤ (x4 + 2) ∧ (x4 + 2) < (h13 1000004 0)) ∧ (0 ≤ (x4 + 3) ∧ (x4 + 3) < (h13 1000004 0)) ∧ (0 ≤ (x4 + 4) ∧ (x4 + 4) < (h13 1000004 0)) ∧ RtI l D mX12_rest (zz ζ) [aP 97, aI (h13 1000003 (x4 + 1)), aI (h13 1000003 (x4 + 2)), aI (h13 1000003 (x4 + 3)), aI (h13 1000003 (x4 + 4))] h13 (fun r14 h14 => (rg r13) ∧ (rg r14) ∧ (if r13 = r14 then (G l (D + 1) mc ms mL_law (zz ζ) 23 [aP 1000003, aP 0, aP 97, aP 143, aI (x4 + 6), aU, aU] [] h14 Q) else (Q (some (aI 0)) h14 (zz ζ))))))) ∧ ((band (h 1000003 x4) 63) = 7 → (G l (D + 1) mc ms mL_law (zz ζ) 499 [aP 1000003, aP 0, aP 97, aP 143, aI x4, aU, aU] [] h Q)) ∧ ((band (h 1000003 x4) 63) = 8 → (G l (D + 1) mc ms mL_law (zz ζ) 567 [aP 1000003, aP 0, aP 97, aP 143, aI x4, aU, aU] [] h Q)) ∧ ((band (h 1000003 x4) 63) = 9 → (RtI l D mX11_again (zz ζ) [aP 0] h (fun r15 h15 => RtI l D mX12_again (zz ζ) [aP 97] h15 (fun r16 h16 => (rg r15) ∧ (rg r16) ∧ (if r15 = r16 then (G l (D + 1) mc ms mL_law (zz ζ) 23 [aP 1000003, aP 0, aP 97, aP 143, aI (x4 + 6), aU, aU] [] h16 Q) else (Q (some (aI 0)) h16 (zz ζ))))))) ∧ ((band (h 1000003 x4) 63) = 10 → (G l (D + 1) mc ms mL_law (zz ζ) 648 [aP 1000003, aP 0, aP 97, aP 143, aI x4, aU, aU] [] h Q)) ∧ ((band (h 1000003 x4) 63) = 11 → ((0 ≤ (x4 + 1) ∧ (x4 + 1) < (h 1000004 0)) ∧ RtI l D mX11_lies (zz ζ) [aP 0, aI (h 1000003 (x4 + 1))] h (fun r17 h17 => (0 ≤ (x4 + 1) ∧ (x4 + 1) < (h17 1000004 0)) ∧ ((h17 1000004 0) ≤ 3072) ∧ RtI l D mX12_lies (zz ζ) [aP 97, aI (h17 1000003 (x4 + 1))] h17 (fun r18 h18 => (rg r17) ∧ (rg r18) ∧ (if r17 = r18 then (G l (D + 1) mc ms mL_law (zz ζ) 23 [aP 1000003, aP 0, aP 97, aP 143, aI (x4 + 6), aU, aU] [] h18 Q) else (Q (some (aI 0)) h18 (zz ζ))))))) ∧ ((band (h 1000003 x4) 63) = 12 → ((0 ≤ (x4 + 1) ∧ (x4 + 1) < (h 1000004 0)) ∧ RtI l D mX11_days (zz ζ) [aP 0, aI (h 1000003 (x4 + 1))] h (fun r19 h19 => (0 ≤ (x4 + 1) ∧ (x4 + 1) < (h19 1000004 0)) ∧ ((h19 1000004 0) ≤ 3072) ∧ RtI l D mX12_days (zz ζ) [aP 97, aI (h19 1000003 (x4 + 1))] h19 (fun r20 h20 => (rg r19) ∧ (rg r20) ∧ (if r19 = r20 then (G l (D + 1) mc ms mL_law (zz ζ) 23 [aP 1000003, aP 0, aP 97, aP 143, aI (x4 + 6), aU, aU] [] h20 Q) else (Q (some (aI 0)) h20 (zz ζ))))))) ∧ ((band (h 1000003 x4) 63) = 13 → (RtI l D mX11_rule (zz ζ) [aP 0] h (fun r21 h21 => RtI l D mX12_rule (zz ζ) [aP 97] h21 (fun r22 h22 => (rg r21) ∧ (rg r22) ∧ (if r21 = r22 then (G l (D + 1) mc ms mL_law (zz ζ) 23 [aP 1000003, aP 0, aP 97, aP 143, aI (x4 + 6), aU, aU] [] h22 Q) else (Q (some (aI 0)) h22 (zz ζ))))))) ∧ ((band (h 1000003 x4) 63) = 14 → ((0 ≤ (x4 + 1) ∧ (x4 + 1) < (h 1000004 0)) ∧ RtI l D mX11_meets (zz ζ) [aP 0, aI (h 1000003 (x4 + 1))] h (fun r23 h23 => (0 ≤ (x4 + 1) ∧ (x4 + 1) < (h23 1000004 0)) ∧ ((h23 1000004 0) ≤ 3072) ∧ RtI l D mX12_meets (zz ζ) [aP 97, aI (h23 1000003 (x4 + 1))] h23 (fun r24 h24 => (rg r23) ∧ (rg r24) ∧ (if r23 = r24 then (G l (D + 1) mc ms mL_law (zz ζ) 23 [aP 1000003, aP 0, aP 97, aP 143, aI (x4 + 6), aU, aU] [] h24 Q) else (Q (some (aI 0)) h24 (zz ζ))))))) ∧ ((band (h 1000003 x4) 63) = 15 → ((0 ≤ (x4 + 1) ∧ (x4 + 1) < (h 1000004 0)) ∧ RtI l D mX11_rows (zz ζ) [aP 0, aI (h 1000003 (x4 + 1))] h (fun r25 h25 => (0 ≤ (x4 + 1) ∧ (x4 + 1) < (h25 1000004 0)) ∧ ((h25 1000004 0) ≤ 3072) ∧ RtI l D mX12_rows (zz ζ) [aP 97, aI (h25 1000003 (x4 + 1))] h25 (fun r26 h26 => (rg r25) ∧ (rg r26) ∧ (if r25 = r26 then (G l (D + 1) mc ms mL_law (zz ζ) 23 [aP 1000003, aP 0, aP 97, aP 143, aI (x4 + 6), aU, aU] [] h26 Q) else (Q (some (aI 0)) h26 (zz ζ))))))) ∧ ((band (h 1000003 x4) 63) = 16 → ((0 ≤ (x4 + 1) ∧ (x4 + 1) < (h 1000004 0)) ∧ RtI l D mX11_rowAt (zz ζ) [aP 0, aI (h 1000003 (x4 + 1))] h (fun r27 h27 => (0 ≤ (x4 + 1) ∧ (x4 + 1) < (h27 1000004 0)) ∧ ((h27 1000004 0) ≤ 3072) ∧ RtI l D mX12_rowAt (zz ζ) [aP 97, aI (h27 1000003 (x4 + 1))] h27 (fun r28 h28 => (rg r27) ∧ (rg r28) ∧ (if r27 = r28 then (G l (D + 1) mc ms mL_law (zz ζ) 23 [aP 1000003, aP 0, aP 97, aP 143, aI (x4 + 6), aU, aU] [] h28 Q) else (Q (some (aI 0)) h28 (zz ζ))))))) ∧ ((band (h 1000003 x4) 63) = 17 → ((0 ≤ (x4 + 1) ∧ (x4 + 1) < (h 1000004 0)) ∧ RtI l D mX11_rowsBy (zz ζ) [aP 0, aI (h 1000003 (x4 + 1))] h (fun r29 h29 => (0 ≤ (x4 + 1) ∧ (x4 + 1) < (h29 1000004 0)) ∧ ((h29 1000004 0) ≤ 3072) ∧ RtI l D mX12_rowsBy (zz ζ) [aP 97, aI (h29 1000003 (x4 + 1))] h29 (fun r30 h30 => (rg r29) ∧ (rg r30) ∧ (if r29 = r30 then (G l (D + 1) mc ms mL_law (zz ζ) 23 [aP 1000003, aP 0, aP 97, aP 143, aI (x4 + 6), aU, aU] [] h30 Q) else (Q (some (aI 0)) h30 (zz ζ))))))) ∧ ((band (h 1000003 x4) 63) = 18 → ((0 ≤ (x4 + 1) ∧ (x4 + 1) < (h 1000004 0)) ∧ RtI l D mX11_swaps (zz ζ) [aP 0, aI (h 1000003 (x4 + 1))] h (fun r31 h31 => (0 ≤ (x4 + 1) ∧ (x4 + 1) < (h31 1000004 0)) ∧ ((h31 1000004 0) ≤ 3072) ∧ RtI l D mX12_swaps (zz ζ) [aP 97, aI (h31 1000003 (x4 + 1))] h31 (fun r32 h32 => (rg r31) ∧ (rg r32) ∧ (if r31 = r32 then (G l (D + 1) mc ms mL_law (zz ζ) 23 [aP 1000003, aP 0, aP 97, aP 143, aI (x4 + 6), aU, aU] [] h32 Q) else (Q (some (aI 0)) h32 (zz ζ))))))) ∧ ((band (h 1000003 x4) 63) = 19 → ((0 ≤ (x4 + 1) ∧ (x4 + 1) < (h 1000004 0)) ∧ RtI l D mX11_swapAt (zz ζ) [aP 0, aI (h 1000003 (x4 + 1))] h (fun r33 h33 => (0 ≤ (x4 + 1) ∧ (x4 + 1) < (h33 1000004 0)) ∧ ((h33 1000004 0) ≤ 3072) ∧ RtI l D mX12_swapAt (zz ζ) [aP 97, aI (h33 1000003 (x4 + 1))] h33 (fun r34 h34 => (rg r33) ∧ (rg r34) ∧ (if r33 = r34 then (G l (D + 1) mc ms mL_law (zz ζ) 23 [aP 1000003, aP 0, aP 97, aP 143, aI (x4 + 6), aU, aU] [] h34 Q) else (Q (some (aI 0)) h34 (zz ζ))))))) ∧ ((band (h 1000003 x4) 63) = 20 → ((0 ≤ (x4 + 1) ∧ (x4 + 1) < (h 1000004 0)) ∧ RtI l D mX11_swapsBy (zz ζ) [aP 0, aI (h 1000003 (x4 + 1))] h (fun r35 h35 => (0 ≤ (x4 + 1) ∧ (x4 + 1) < (h35 1000004 0)) ∧ ((h35 1000004 0) ≤ 3072) ∧ RtI l D mX12_swapsBy (zz ζ) [aP 97, aI (h35 1000003 (x4 + 1))] h35 (fun r36 h36 => (rg r35) ∧ (rg r36) ∧ (if r35 = r36 then (G l (D + 1) mc ms mL_law (zz ζ) 23 [aP 1000003, aP 0, aP 97, aP 143, aI (x4 + 6), aU, aU] [] h36 Q) else (Q (some (aI 0)) h36 (zz ζ))))))) ∧ ((band (h 1000003 x4) 63) = 21 → ((0 ≤ (x4 + 1) ∧ (x4 + 1) < (h 1000004 0)) ∧ (0 ≤ (x4 + 2) ∧ (x4 + 2) < (h 1000004 0)) ∧ (0 ≤ (x4 + 3) ∧ (x4 + 3) < (h 1000004 0)) ∧ RtI l D mX11_most (zz ζ) [aP 0, aI (h 1000003 (x4 + 1)), aI (h 1000003 (x4 + 2)), aI (h 1000003 (x4 + 3))] h (fun r37 h37 => (0 ≤ (x4 + 1) ∧ (x4 + 1) < (h37 1000004 0)) ∧ ((h37 1000004 0) ≤ 3072) ∧ (0 ≤ (x4 + 2) ∧ (x4 + 2) < (h37 1000004 0)) ∧ (0 ≤ (x4 + 3) ∧ (x4 + 3) < (h37 1000004 0)) ∧ RtI l D mX12_most (zz ζ) [aP 97, aI (h37 1000003 (x4 + 1)), aI (h37 1000003 (x4 + 2)), aI (h37 1000003 (x4 + 3))] h37 (fun r38 h38 => (rg r37) ∧ (rg r38) ∧ (if r37 = r38 then (G l (D + 1) mc ms mL_law (zz ζ) 23 [aP 1000003, aP 0, aP 97, aP 143, aI (x4 + 6), aU, aU] [] h38 Q) else (Q (some (aI 0)) h38 (zz ζ))))))) ∧ ((band (h 1000003 x4) 63) = 22 → ((0 ≤ (x4 + 1) ∧ (x4 + 1) < (h 1000004 0)) ∧ RtI l D mX11_share (zz ζ) [aP 0, aI (h 1000003 (x4 + 1))] h (fun r39 h39 => (0 ≤ (x4 + 1) ∧ (x4 + 1) < (h39 1000004 0)) ∧ ((h39 1000004 0) ≤ 3072) ∧ RtI l D mX12_share (zz ζ) [aP 97, aI (h39 1000003 (x4 + 1))] h39 (fun r40 h40 => (rg r39) ∧ (rg r40) ∧ (if r39 = r40 then (G l (D + 1) mc ms mL_law (zz ζ) 23 [aP 1000003, aP 0, aP 97, aP 143, aI (x4 + 6), aU, aU] [] h40 Q) else (Q (some (aI 0)) h40 (zz ζ))))))) ∧ ((band (h 1000003 x4) 63) = 23 → ((0 ≤ (x4 + 1) ∧ (x4 + 1) < (h 1000004 0)) ∧ RtI l D mX11_shareAt (zz ζ) [aP 0, aI (h 1000003 (x4 + 1))] h (fun r41 h41 => (0 ≤ (x4 + 1) ∧ (x4 + 1) < (h41 1000004 0)) ∧ ((h41 1000004 0) ≤ 3072) ∧ RtI l D mX12_shareAt (zz ζ) [aP 97, aI (h41 1000003 (x4 + 1))] h41 (fun r42 h42 => (rg r41) ∧ (rg r42) ∧ (if r41 = r42 then (G l (D + 1) mc ms mL_law (zz ζ) 23 [aP 1000003, aP 0, aP 97, aP 143, aI (x4 + 6), aU, aU] [] h42 Q) else (Q (some (aI 0)) h42 (zz ζ))))))) ∧ ((band (h 1000003 x4) 63) = 24 → ((0 ≤ (x4 + 1) ∧ (x4 + 1) < (h 1000004 0)) ∧ (0 ≤ (x4 + 2) ∧ (x4 + 2) < (h 1000004 0)) ∧ RtI l D mX11_pack (zz ζ) [aP 0, aI (h 1000003 (x4 + 1)), aI (h 1000003 (x4 + 2))] h (fun r43 h43 => (0 ≤ (x4 + 1) ∧ (x4 + 1) < (h43 1000004 0)) ∧ ((h43 1000004 0) ≤ 3072) ∧ (0 ≤ (x4 + 2) ∧ (x4 + 2) < (h43 1000004 0)) ∧ RtI l D mX12_pack (zz ζ) [aP 97, aI (h43 1000003 (x4 + 1)), aI (h43 1000003 (x4 + 2))] h43 (fun r44 h44 => (rg r43) ∧ (rg r44) ∧ (if r43 = r44 then (G l (D + 1) mc ms mL_law (zz ζ) 23 [aP 1000003, aP 0, aP 97, aP 143, aI (x4 + 6), aU, aU] [] h44 Q) else (Q (some (aI 0)) h44 (zz ζ))))))) ∧ ((band (h 1000003 x4) 63) = 25 → (G l (D + 1) mc ms mL_law (zz ζ) 1090 [aP 1000003, aP 0, aP 97, aP 143, aI x4, aU, aU] [] h Q)) ∧ ((band (h 1000003 x4) 63) = 26 → ((0 ≤ (x4 + 1) ∧ (x4 + 1) < (h 1000004 0)) ∧ (0 ≤ (x4 + 2) ∧ (x4 + 2) < (h 1000004 0)) ∧ RtI l D mX11_inPack (zz ζ) [aP 0, aI (h 1000003 (x4 + 1)), aI (h 1000003 (x4 + 2))] h (fun r45 h45 => (0 ≤ (x4 + 1) ∧ (x4 + 1) < (h45 1000004 0)) ∧ ((h45 1000004 0) ≤ 3072) ∧ (0 ≤ (x4 + 2) ∧ (x4 + 2) < (h45 1000004 0)) ∧ RtI l D mX12_inPack (zz ζ) [aP 97, aI (h45 1000003 (x4 + 1)), aI (h45 1000003 (x4 + 2))] h45 (fun r46 h46 => (rg r45) ∧ (rg r46) ∧ (if r45 = r46 then (G l (D + 1) mc ms mL_law (zz ζ) 23 [aP 1000003, aP 0, aP 97, aP 143, aI (x4 + 6), aU, aU] [] h46 Q) else (Q (some (aI 0)) h46 (zz ζ))))))) ∧ ((band (h 1000003 x4) 63) = 27 → ((0 ≤ (x4 + 1) ∧ (x4 + 1) < (h 1000004 0)) ∧ RtI l D mX11_life (zz ζ) [aP 0, aI (h 1000003 (x4 + 1))] h (fun r47 h47 => (0 ≤ (x4 + 1) ∧ (x4 + 1) < (h47 1000004 0)) ∧ ((h47 1000004 0) ≤ 3072) ∧ RtI l D mX12_life (zz ζ) [aP 97, aI (h47 1000003 (x4 + 1))] h47 (fun r48 h48 => (rg r47) ∧ (rg r48) ∧ (if r47 = r48 then (G l (D + 1) mc ms mL_law (zz ζ) 23 [aP 1000003, aP 0, aP 97, aP 143, aI (x4 + 6), aU, aU] [] h48 Q) else (Q (some (aI 0)) h48 (zz ζ))))))) ∧ ((band (h 1000003 x4) 63) = 28 → ((0 ≤ (x4 + 1) ∧ (x4 + 1) < (h 1000004 0)) ∧ RtI l D mX11_ends (zz ζ) [aP 0, aI (h 1000003 (x4 + 1))] h (fun r49 h49 => (0 ≤ (x4 + 1) ∧ (x4 + 1) < (h49 1000004 0)) ∧ ((h49 1000004 0) ≤ 3072) ∧ RtI l D mX12_ends (zz ζ) [aP 97, aI (h49 1000003 (x4 + 1))] h49 (fun r50 h50 => (rg r49) ∧ (rg r50) ∧ (if r49 = r50 then (G l (D + 1) mc ms mL_law (zz ζ) 23 [aP 1000003, aP 0, aP 97, aP 143, aI (x4 + 6), aU, aU] [] h50 Q) else (Q (some (aI 0)) h50 (zz ζ))))))) ∧ ((band (h 1000003 x4) 63) = 29 → ((0 ≤ (x4 + 1) ∧ (x4 + 1) < (h 1000004 0)) ∧ (0 ≤ (x4 + 2) ∧ (x4 + 2) < (h 1000004 0)) ∧ (0 ≤ (x4 + 3) ∧ (x4 + 3) < (h 1000004 0)) ∧ (0 ≤ (x4 + 4) ∧ (x4 + 4) < (h 1000004 0)) ∧ RtI l D mX11_mend (zz ζ) [aP 0, aI (h 1000003 (x4 + 1)), aI (h 1000003 (x4 + 2)), aI (h 1000003 (x4 + 3)), aI (h 1000003 (x4 + 4))] h (fun r51 h51 => (0 ≤ (x4 + 1) ∧ (x4 + 1) < (h51 1000004 0)) ∧ ((h51 1000004 0) ≤ 3072) ∧ (0 ≤ (x4 + 2) ∧ (x4 + 2) < (h51 1000004 0)) ∧ (0 ≤ (x4 + 3) ∧ (x4 + 3) < (h51 1000004 0)) ∧ (0 ≤ (x4 + 4) ∧ (x4 + 4) < (h51 1000004 0)) ∧ RtI l D mX12_mend (zz ζ) [aP 97, aI (h51 1000003 (x4 + 1)), aI (h51 1000003 (x4 + 2)), aI (h51 1000003 (x4 + 3)), aI (h51 1000003 (x4 + 4))] h51 (fun r52 h52 => (rg r51) ∧ (rg r52) ∧ (if r51 = r52 then (G l (D + 1) mc ms mL_law (zz ζ) 23 [aP 1000003, aP 0, aP 97, aP 143, aI (x4 + 6), aU, aU] [] h52 Q) else (Q (some (aI 0)) h52 (zz ζ))))))) ∧ ((band (h 1000003 x4) 63) = 30 → ((0 ≤ (x4 + 1) ∧ (x4 + 1) < (h 1000004 0)) ∧ RtI l D mX11_bestMend (zz ζ) [aP 0, aI (h 1000003 (x4 + 1))] h (fun r53 h53 => (0 ≤ (x4 + 1) ∧ (x4 + 1) < (h53 1000004 0)) ∧ ((h53 1000004 0) ≤ 3072) ∧ RtI l D mX12_bestMend (zz ζ) [aP 97, aI (h53 1000003 (x4 + 1))] h53 (fun r54 h54 => (rg r53) ∧ (rg r54) ∧ (if r53 = r54 then (G l (D + 1) mc ms mL_law (zz ζ) 23 [aP 1000003, aP 0, aP 97, aP 143, aI (x4 + 6), aU, aU] [] h54 Q) else (Q (some (aI 0)) h54 (zz ζ))))))) ∧ ((band (h 1000003 x4) 63) = 31 → ((0 ≤ (x4 + 1) ∧ (x4 + 1) < (h 1000004 0)) ∧ RtI l D mX11_bestBy (zz ζ) [aP 0, aI (h 1000003 (x4 + 1))] h (fun r55 h55 => (0 ≤ (x4 + 1) ∧ (x4 + 1) < (h55 1000004 0)) ∧ ((h55 1000004 0) ≤ 3072) ∧ RtI l D mX12_bestBy (zz ζ) [aP 97, aI (h55 1000003 (x4 + 1))] h55 (fun r56 h56 => (rg r55) ∧ (rg r56) ∧ (if r55 = r56 then (G l (D + 1) mc ms mL_law (zz ζ) 23 [aP 1000003, aP 0, aP 97, aP 143, aI (x4 + 6), aU, aU] [] h56 Q) else (Q (some (aI 0)) h56 (zz ζ))))))) ∧ ((band (h 1000003 x4) 63) = 32 → ((0 ≤ (x4 + 1) ∧ (x4 + 1) < (h 1000004 0)) ∧ RtI l D mX11_balance (zz ζ) [aP 0, aI (h 1000003 (x4 + 1))] h (fun r57 h57 => (0 ≤ (x4 + 1) ∧ (x4 + 1) < (h57 1000004 0)) ∧ ((h57 1000004 0) ≤ 3072) ∧ RtI l D mX12_balance (zz ζ) [aP 97, aI (h57 1000003 (x4 + 1))] h57 (fun r58 h58 => (rg r57) ∧ (rg r58) ∧ (if r57 = r58 then (G l (D + 1) mc ms mL_law (zz ζ) 23 [aP 1000003, aP 0, aP 97, aP 143, aI (x4 + 6), aU, aU] [] h58 Q) else (Q (some (aI 0)) h58 (zz ζ))))))) ∧ ((band (h 1000003 x4) 63) = 33 → (RtI l D mX11_lost (zz ζ) [aP 0] h (fun r59 h59 => RtI l D mX12_lost (zz ζ) [aP 97] h59 (fun r60 h60 => (rg r59) ∧ (rg r60) ∧ (if r59 = r60 then (G l (D + 1) mc ms mL_law (zz ζ) 23 [aP 1000003, aP 0, aP 97, aP 143, aI (x4 + 6), aU, aU] [] h60 Q) else (Q (some (aI 0)) h60 (zz ζ))))))) ∧ ((band (h 1000003 x4) 63) = 34 → ((0 ≤ (x4 + 1) ∧ (x4 + 1) < (h 1000004 0)) ∧ RtI l D mX11_shorted (zz ζ) [aP 0, aI (h 1000003 (x4 + 1))] h (fun r61 h61 => (0 ≤ (x4 + 1) ∧ (x4 + 1) < (h61 1000004 0)) ∧ ((h61 1000004 0) ≤ 3072) ∧ RtI l D mX12_shorted (zz ζ) [aP 97, aI (h61 1000003 (x4 + 1))] h61 (fun r62 h62 => (rg r61) ∧ (rg r62) ∧ (if r61 = r62 then (G l (D + 1) mc ms mL_law (zz ζ) 23 [aP 1000003, aP 0, aP 97, aP 143, aI (x4 + 6), aU, aU] [] h62 Q) else (Q (some (aI 0)) h62 (zz ζ))))))) ∧ ((band (h 1000003 x4) 63) = 35 → ((0 ≤ (x4 + 1) ∧ (x4 + 1) < (h 1000004 0)) ∧ (0 ≤ (x4 + 2) ∧ (x4 + 2) < (h 1000004 0)) ∧ RtI l D mX11_held (zz ζ) [aP 0, aI (h 1000003 (x4 + 1)), aI (h 1000003 (x4 + 2))] h (fun r63 h63 => (0 ≤ (x4 + 1) ∧ (x4 + 1) < (h63 1000004 0)) ∧ ((h63 1000004 0) ≤ 3072) ∧ (0 ≤ (x4 + 2) ∧ (x4 + 2) < (h63 1000004 0)) ∧ RtI l D mX12_held (zz ζ) [aP 97, aI (h63 1000003 (x4 + 1)), aI (h63 1000003 (x4 + 2))] h63 (fun r64 h64 => (rg r63) ∧ (rg r64) ∧ (if r63 = r64 then (G l (D + 1) mc ms mL_law (zz ζ) 23 [aP 1000003, aP 0, aP 97, aP 143, aI (x4 + 6), aU, aU] [] h64 Q) else (Q (some (aI 0)) h64 (zz ζ))))))) ∧ ((band (h 1000003 x4) 63) = 36 → (G l (D + 1) mc ms mL_law (zz ζ) 1468 [aP 1000003, aP 0, aP 97, aP 143, aI x4, aU, aU] [] h Q)) ∧ ((band (h 1000003 x4) 63) = 37 → (RtI l D mX11_order (zz ζ) [aP 0] h (fun r65 h65 => RtI l D mX12_order (zz ζ) [aP 97] h65 (fun r66 h66 => (rg r65) ∧ (rg r66) ∧ (if r65 = r66 then (G l (D + 1) mc ms mL_law (zz ζ) 23 [aP 1000003, aP 0, aP 97, aP 143, aI (x4 + 6), aU, aU] [] h66 Q) else (Q (some (aI 0)) h66 (zz ζ))))))) ∧ ((band (h 1000003 x4) 63) = 38 → ((0 ≤ (x4 + 1) ∧ (x4 + 1) < (h 1000004 0)) ∧ RtI l D mX11_orderAt (zz ζ) [aP 0, aI (h 1000003 (x4 + 1))] h (fun r67 h67 => (0 ≤ (x4 + 1) ∧ (x4 + 1) < (h67 1000004 0)) ∧ ((h67 1000004 0) ≤ 3072) ∧ RtI l D mX12_orderAt (zz ζ) [aP 97, aI (h67 1000003 (x4 + 1))] h67 (fun r68 h68 => (rg r67) ∧ (rg r68) ∧ (if r67 = r68 then (G l (D + 1) mc ms mL_law (zz ζ) 23 [aP 1000003, aP 0, aP 97, aP 143, aI (x4 + 6), aU, aU] [] h68 Q) else (Q (some (aI 0)) h68 (zz ζ))))))) ∧ ((band (h 1000003 x4) 63) = 39 → (RtI l D mX11_check (zz ζ) [aP 0] h (fun r69 h69 => RtI l D mX12_check (zz ζ) [aP 97] h69 (fun r70 h70 => (rg r69) ∧ (rg r70) ∧ (if r69 = r70 then (G l (D + 1) mc ms mL_law (zz ζ) 23 [aP 1000003, aP 0, aP 97, aP 143, aI (x4 + 6), aU, aU] [] h70 Q) else (Q (some (aI 0)) h70 (zz ζ))))))) ∧ ((band (h 1000003 x4) 63) = 40 → (G l (D + 1) mc ms mL_law (zz ζ) 1532 [aP 1000003, aP 0, aP 97, aP 143, aI x4, aU, aU] [] h Q)) ∧ ((band (h 1000003 x4) 63) = 41 → ((0 ≤ (x4 + 1) ∧ (x4 + 1) < (h 1000004 0)) ∧ RtI l D mX11_restore (zz ζ) [aP 0, aI (h 1000003 (x4 + 1))] h (fun r71 h71 => (0 ≤ (x4 + 1) ∧ (x4 + 1) < (h71 1000004 0)) ∧ ((h71 1000004 0) ≤ 3072) ∧ RtI l D mX12_restore (zz ζ) [aP 97, aI (h71 1000003 (x4 + 1))] h71 (fun r72 h72 => (rg r71) ∧ (rg r72) ∧ (if r71 = r72 then (G l (D + 1) mc ms mL_law (zz ζ) 23 [aP 1000003, aP 0, aP 97, aP 143, aI (x4 + 6), aU, aU] [] h72 Q) else (Q (some (aI 0)) h72 (zz ζ))))))) ∧ ((band (h 1000003 x4) 63) = 42 → ((0 ≤ (x4 + 1) ∧ (x4 + 1) < (h 1000004 0)) ∧ RtI l D mX11_count (zz ζ) [aP 0, aI (h 1000003 (x4 + 1))] h (fun r73 h73 => (0 ≤ (x4 + 1) ∧ (x4 + 1) < (h73 1000004 0)) ∧ ((h73 1000004 0) ≤ 3072) ∧ RtI l D mX12_count (zz ζ) [aP 97, aI (h73 1000003 (x4 + 1))] h73 (fun r74 h74 => (rg r73) ∧ (rg r74) ∧ (if r73 = r74 then (G l (D + 1) mc ms mL_law (zz ζ) 23 [aP 1000003, aP 0, aP 97, aP 143, aI (x4 + 6), aU, aU] [] h74 Q) else (Q (some (aI 0)) h74 (zz ζ))))))) ∧ ((band (h 1000003 x4) 63) < 0 ∨ 42 < (band (h 1000003 x4) 63) → (G l (D + 1) mc ms mL_law (zz ζ) 23 [aP 1000003, aP 0, aP 97, aP 143, aI (x4 + 6), aU, aU] [] h Q))))) : G l (D + 1) mc ms mL_law (zz ζ) 23 [aP 1000003, aP 0, aP 97, aP 143, aI x4, aU, aU] [] h Q := by
  refine g_iload dL_law_23 rfl ?_
  refine g_aload_n dL_law_25 rfl ?_
  refine g_slen dL_law_26 ?_
  refine g_bipush dL_law_27 rfl ?_
  refine g_isub dL_law_29 ?_
  obtain ⟨o1, w⟩ := w
  obtain ⟨o2, w⟩ := w
  refine g_cmp_gt (tgt := 1613) dL_law_30 rfl o1 o2 ?_
  refine ite_imp (fun w => ?_) (fun w => ?_) w
  · refine g_iconst dL_law_1613 ?_
    exact g_retz dL_law_1614 rfl (Or.inr rfl) w
  · refine g_aload_n dL_law_33 rfl ?_
    refine g_iload dL_law_34 rfl ?_
    obtain ⟨o3, w⟩ := w
    obtain ⟨o4, w⟩ := w
    refine g_sld dL_law_36 o3 o4 ?_
    refine g_bipush dL_law_37 rfl ?_
    refine g_iand dL_law_39 ?_
    obtain ⟨o5, w⟩ := w
    obtain ⟨w0, w1, w2, w3, w4, w5, w6, w7, w8, w9, w10, w11, w12, w13, w14, w15, w16, w17, w18, w19, w20, w21, w22, w23, w24, w25, w26, w27, w28, w29, w30, w31, w32, w33, w34, w35, w36, w37, w38, w39, w40, w41, w42, w43⟩ := w
    by_cases hout : (band (h 1000003 x4) 63) < 0 ∨ 42 < (band (h 1000003 x4) 63)
    · refine g_tabOut (tgt := 1607) dL_law_40 o5 hout rfl ?_
      have w := w43 hout
      refine g_iinc (ls' := [aP 1000003, aP 0, aP 97, aP 143, aI (x4 + 6), aU, aU]) dL_law_1607 rfl (Nat.le_of_ble_eq_true rfl) rfl rfl ?_
      refine g_goto (tgt := 23) dL_law_1610 rfl ?_
      exact g_sub (ls' := [aP 1000003, aP 0, aP 97, aP 143, aI (x4 + 6), aU, aU]) ⟨Or.inr rfl, Or.inr rfl, Or.inr rfl, Or.inr rfl, Or.inr rfl, Or.inl rfl, Or.inl rfl, trivial⟩ w
    by_cases hc0 : (band (h 1000003 x4) 63) = 0
    · have w := w0 hc0
      refine g_tabIn (tgt := 228) dL_law_40 o5 (by omega) (by omega) (by rw [hc0]; rfl) rfl ?_
      refine g_aload_n dL_law_228 rfl ?_
      refine g_aload_n dL_law_229 rfl ?_
      refine g_iload dL_law_230 rfl ?_
      refine g_iconst dL_law_232 ?_
      refine g_iadd dL_law_233 ?_
      obtain ⟨o6, w⟩ := w
      refine g_sld dL_law_234 o6 o4 ?_
      refine g_aload_n dL_law_235 rfl ?_
      refine g_iload dL_law_236 rfl ?_
      refine g_iconst dL_law_238 ?_
      refine g_iadd dL_law_239 ?_
      obtain ⟨o7, w⟩ := w
      refine g_sld dL_law_240 o7 o4 ?_
      refine g_aload_n dL_law_241 rfl ?_
      refine g_iload dL_law_242 rfl ?_
      refine g_iconst dL_law_244 ?_
      refine g_iadd dL_law_245 ?_
      obtain ⟨o8, w⟩ := w
      refine g_sld dL_law_246 o8 o4 ?_
      refine g_aload_n dL_law_247 rfl ?_
      refine g_iload dL_law_248 rfl ?_
      refine g_iconst dL_law_250 ?_
      refine g_iadd dL_law_251 ?_
      obtain ⟨o9, w⟩ := w
      refine g_sld dL_law_252 o9 o4 ?_
      refine g_aload_n dL_law_253 rfl ?_
      refine g_iload dL_law_254 rfl ?_
      refine g_iconst dL_law_256 ?_
      refine g_iadd dL_law_257 ?_
      obtain ⟨o10, w⟩ := w
      refine g_sld dL_law_258 o10 o4 ?_
      refine g_callVI (n := 5) (As := [aI (h 1000003 (x4 + 1)), aI (h 1000003 (x4 + 2)), aI (h 1000003 (x4 + 3)), aI (h 1000003 (x4 + 4)), aI (h 1000003 (x4 + 5))]) (st := []) dL_law_259 ml_L_29 sh_0 rfl (al_0 hn) rfl rfl (Nat.le_of_ble_eq_true rfl) (RtI.mono w (fun r1 h1 w => ?_))
      refine g_aload_n dL_law_262 rfl ?_
      refine g_aload_n dL_law_263 rfl ?_
      refine g_iload dL_law_264 rfl ?_
      refine g_iconst dL_law_266 ?_
      refine g_iadd dL_law_267 ?_
      obtain ⟨o11, w⟩ := w
      obtain ⟨o12, w⟩ := w
      refine g_sld dL_law_268 o11 o12 ?_
      refine g_aload_n dL_law_269 rfl ?_
      refine g_iload dL_law_270 rfl ?_
      refine g_iconst dL_law_272 ?_
      refine g_iadd dL_law_273 ?_
      obtain ⟨o13, w⟩ := w
      refine g_sld dL_law_274 o13 o12 ?_
      refine g_aload_n dL_law_275 rfl ?_
      refine g_iload dL_law_276 rfl ?_
      refine g_iconst dL_law_278 ?_
      refine g_iadd dL_law_279 ?_
      obtain ⟨o14, w⟩ := w
      refine g_sld dL_law_280 o14 o12 ?_
      refine g_aload_n dL_law_281 rfl ?_
      refine g_iload dL_law_282 rfl ?_
      refine g_iconst dL_law_284 ?_
      refine g_iadd dL_law_285 ?_
      obtain ⟨o15, w⟩ := w
      refine g_sld dL_law_286 o15 o12 ?_
      refine g_aload_n dL_law_287 rfl ?_
      refine g_iload dL_law_288 rfl ?_
      refine g_iconst dL_law_290 ?_
      refine g_iadd dL_law_291 ?_
      obtain ⟨o16, w⟩ := w
      refine g_sld dL_law_292 o16 o12 ?_
      refine g_callVI (n := 5) (As := [aI (h1 1000003 (x4 + 1)), aI (h1 1000003 (x4 + 2)), aI (h1 1000003 (x4 + 3)), aI (h1 1000003 (x4 + 4)), aI (h1 1000003 (x4 + 5))]) (st := [aI r1]) dL_law_293 ml_L_33 sh_97 rfl (al_97 hn) rfl rfl (Nat.le_of_ble_eq_true rfl) (RtI.mono w (fun r2 h2 w => ?_))
      obtain ⟨o17, w⟩ := w
      obtain ⟨o18, w⟩ := w
      refine g_cmp_eq (tgt := 1607) dL_law_296 rfl o17 o18 ?_
      refine ite_imp (fun w => ?_) (fun w => ?_) w
      · refine g_iinc (ls' := [aP 1000003, aP 0, aP 97, aP 143, aI (x4 + 6), aU, aU]) dL_law_1607 rfl (Nat.le_of_ble_eq_true rfl) rfl rfl ?_
        refine g_goto (tgt := 23) dL_law_1610 rfl ?_
        exact g_sub (ls' := [aP 1000003, aP 0, aP 97, aP 143, aI (x4 + 6), aU, aU]) ⟨Or.inr rfl, Or.inr rfl, Or.inr rfl, Or.inr rfl, Or.inr rfl, Or.inl rfl, Or.inl rfl, trivial⟩ w
      · refine g_iconst dL_law_299 ?_
        exact g_retz dL_law_300 rfl (Or.inl rfl) w
    by_cases hc1 : (band (h 1000003 x4) 63) = 1
    · have w := w1 hc1
      refine g_tabIn (tgt := 301) dL_law_40 o5 (by omega) (by omega) (by rw [hc1]; rfl) rfl ?_
      refine g_aload_n dL_law_301 rfl ?_
      refine g_aload_n dL_law_302 rfl ?_
      refine g_iload dL_law_303 rfl ?_
      refine g_iconst dL_law_305 ?_
      refine g_iadd dL_law_306 ?_
      obtain ⟨o19, w⟩ := w
      refine g_sld dL_law_307 o19 o4 ?_
      refine g_callVI (n := 1) (As := [aI (h 1000003 (x4 + 1))]) (st := []) dL_law_308 ml_L_34 sh_0 rfl (al_0 hn) rfl rfl (Nat.le_of_ble_eq_true rfl) (RtI.mono w (fun r3 h3 w => ?_))
      refine g_aload_n dL_law_311 rfl ?_
      refine g_aload_n dL_law_312 rfl ?_
      refine g_iload dL_law_313 rfl ?_
      refine g_iconst dL_law_315 ?_
      refine g_iadd dL_law_316 ?_
      obtain ⟨o20, w⟩ := w
      obtain ⟨o21, w⟩ := w
      refine g_sld dL_law_317 o20 o21 ?_
      refine g_callVI (n := 1) (As := [aI (h3 1000003 (x4 + 1))]) (st := [aI r3]) dL_law_318 ml_L_38 sh_97 rfl (al_97 hn) rfl rfl (Nat.le_of_ble_eq_true rfl) (RtI.mono w (fun r4 h4 w => ?_))
      obtain ⟨o22, w⟩ := w
      obtain ⟨o23, w⟩ := w
      refine g_cmp_eq (tgt := 1607) dL_law_321 rfl o22 o23 ?_
      refine ite_imp (fun w => ?_) (fun w => ?_) w
      · refine g_iinc (ls' := [aP 1000003, aP 0, aP 97, aP 143, aI (x4 + 6), aU, aU]) dL_law_1607 rfl (Nat.le_of_ble_eq_true rfl) rfl rfl ?_
        refine g_goto (tgt := 23) dL_law_1610 rfl ?_
        exact g_sub (ls' := [aP 1000003, aP 0, aP 97, aP 143, aI (x4 + 6), aU, aU]) ⟨Or.inr rfl, Or.inr rfl, Or.inr rfl, Or.inr rfl, Or.inr rfl, Or.inl rfl, Or.inl rfl, trivial⟩ w
      · refine g_iconst dL_law_324 ?_
        exact g_retz dL_law_325 rfl (Or.inl rfl) w
    by_cases hc2 : (band (h 1000003 x4) 63) = 2
    · have w := w2 hc2
      refine g_tabIn (tgt := 326) dL_law_40 o5 (by omega) (by omega) (by rw [hc2]; rfl) rfl ?_
      refine g_aload_n dL_law_326 rfl ?_
      refine g_callVI (n := 0) (As := []) (st := []) dL_law_327 ml_L_39 sh_0 rfl (al_0 hn) rfl rfl (Nat.le_of_ble_eq_true rfl) (RtI.mono w (fun r5 h5 w => ?_))
      refine g_aload_n dL_law_330 rfl ?_
      refine g_callVI (n := 0) (As := []) (st := [aI r5]) dL_law_331 ml_L_43 sh_97 rfl (al_97 hn) rfl rfl (Nat.le_of_ble_eq_true rfl) (RtI.mono w (fun r6 h6 w => ?_))
      obtain ⟨o24, w⟩ := w
      obtain ⟨o25, w⟩ := w
      refine g_cmp_eq (tgt := 1607) dL_law_334 rfl o24 o25 ?_
      refine ite_imp (fun w => ?_) (fun w => ?_) w
      · refine g_iinc (ls' := [aP 1000003, aP 0, aP 97, aP 143, aI (x4 + 6), aU, aU]) dL_law_1607 rfl (Nat.le_of_ble_eq_true rfl) rfl rfl ?_
        refine g_goto (tgt := 23) dL_law_1610 rfl ?_
        exact g_sub (ls' := [aP 1000003, aP 0, aP 97, aP 143, aI (x4 + 6), aU, aU]) ⟨Or.inr rfl, Or.inr rfl, Or.inr rfl, Or.inr rfl, Or.inr rfl, Or.inl rfl, Or.inl rfl, trivial⟩ w
      · refine g_iconst dL_law_337 ?_
        exact g_retz dL_law_338 rfl (Or.inl rfl) w
    by_cases hc3 : (band (h 1000003 x4) 63) = 3
    · have w := w3 hc3
      refine g_tabIn (tgt := 339) dL_law_40 o5 (by omega) (by omega) (by rw [hc3]; rfl) rfl ?_
      refine g_aload_n dL_law_339 rfl ?_
      refine g_callVI (n := 0) (As := []) (st := []) dL_law_340 ml_L_44 sh_0 rfl (al_0 hn) rfl rfl (Nat.le_of_ble_eq_true rfl) (RtI.mono w (fun r7 h7 w => ?_))
      refine g_aload_n dL_law_343 rfl ?_
      refine g_callVI (n := 0) (As := []) (st := [aI r7]) dL_law_344 ml_L_47 sh_97 rfl (al_97 hn) rfl rfl (Nat.le_of_ble_eq_true rfl) (RtI.mono w (fun r8 h8 w => ?_))
      obtain ⟨o26, w⟩ := w
      obtain ⟨o27, w⟩ := w
      refine g_cmp_eq (tgt := 1607) dL_law_347 rfl o26 o27 ?_
      refine ite_imp (fun w => ?_) (fun w => ?_) w
      · refine g_iinc (ls' := [aP 1000003, aP 0, aP 97, aP 143, aI (x4 + 6), aU, aU]) dL_law_1607 rfl (Nat.le_of_ble_eq_true rfl) rfl rfl ?_
        refine g_goto (tgt := 23) dL_law_1610 rfl ?_
        exact g_sub (ls' := [aP 1000003, aP 0, aP 97, aP 143, aI (x4 + 6), aU, aU]) ⟨Or.inr rfl, Or.inr rfl, Or.inr rfl, Or.inr rfl, Or.inr rfl, Or.inl rfl, Or.inl rfl, trivial⟩ w
      · refine g_iconst dL_law_350 ?_
        exact g_retz dL_law_351 rfl (Or.inl rfl) w
    by_cases hc4 : (band (h 1000003 x4) 63) = 4
    · have w := w4 hc4
      refine g_tabIn (tgt := 352) dL_law_40 o5 (by omega) (by omega) (by rw [hc4]; rfl) rfl ?_
      refine g_aload_n dL_law_352 rfl ?_
      refine g_aload_n dL_law_353 rfl ?_
      refine g_iload dL_law_354 rfl ?_
      refine g_iconst dL_law_356 ?_
      refine g_iadd dL_law_357 ?_
      obtain ⟨o28, w⟩ := w
      refine g_sld dL_law_358 o28 o4 ?_
      refine g_callVI (n := 1) (As := [aI (h 1000003 (x4 + 1))]) (st := []) dL_law_359 ml_L_48 sh_0 rfl (al_0 hn) rfl rfl (Nat.le_of_ble_eq_true rfl) (RtI.mono w (fun r9 h9 w => ?_))
      refine g_aload_n dL_law_362 rfl ?_
      refine g_aload_n dL_law_363 rfl ?_
      refine g_iload dL_law_364 rfl ?_
      refine g_iconst dL_law_366 ?_
      refine g_iadd dL_law_367 ?_
      obtain ⟨o29, w⟩ := w
      obtain ⟨o30, w⟩ := w
      refine g_sld dL_law_368 o29 o30 ?_
      refine g_callVI (n := 1) (As := [aI (h9 1000003 (x4 + 1))]) (st := [aI r9]) dL_law_369 ml_L_52 sh_97 rfl (al_97 hn) rfl rfl (Nat.le_of_ble_eq_true rfl) (RtI.mono w (fun r10 h10 w => ?_))
      obtain ⟨o31, w⟩ := w
      obtain ⟨o32, w⟩ := w
      refine g_cmp_eq (tgt := 1607) dL_law_372 rfl o31 o32 ?_
      refine ite_imp (fun w => ?_) (fun w => ?_) w
      · refine g_iinc (ls' := [aP 1000003, aP 0, aP 97, aP 143, aI (x4 + 6), aU, aU]) dL_law_1607 rfl (Nat.le_of_ble_eq_true rfl) rfl rfl ?_
        refine g_goto (tgt := 23) dL_law_1610 rfl ?_
        exact g_sub (ls' := [aP 1000003, aP 0, aP 97, aP 143, aI (x4 + 6), aU, aU]) ⟨Or.inr rfl, Or.inr rfl, Or.inr rfl, Or.inr rfl, Or.inr rfl, Or.inl rfl, Or.inl rfl, trivial⟩ w
      · refine g_iconst dL_law_375 ?_
        exact g_retz dL_law_376 rfl (Or.inl rfl) w
    by_cases hc5 : (band (h 1000003 x4) 63) = 5
    · have w := w5 hc5
      refine g_tabIn (tgt := 377) dL_law_40 o5 (by omega) (by omega) (by rw [hc5]; rfl) rfl ?_
      refine g_aload_n dL_law_377 rfl ?_
      refine g_aload_n dL_law_378 rfl ?_
      refine g_iload dL_law_379 rfl ?_
      refine g_iconst dL_law_381 ?_
      refine g_iadd dL_law_382 ?_
      obtain ⟨o33, w⟩ := w
      refine g_sld dL_law_383 o33 o4 ?_
      refine g_aload_n dL_law_384 rfl ?_
      refine g_iload dL_law_385 rfl ?_
      refine g_iconst dL_law_387 ?_
      refine g_iadd dL_law_388 ?_
      obtain ⟨o34, w⟩ := w
      refine g_sld dL_law_389 o34 o4 ?_
      refine g_aload_n dL_law_390 rfl ?_
      refine g_iload dL_law_391 rfl ?_
      refine g_iconst dL_law_393 ?_
      refine g_iadd dL_law_394 ?_
      obtain ⟨o35, w⟩ := w
      refine g_sld dL_law_395 o35 o4 ?_
      refine g_aload_n dL_law_396 rfl ?_
      refine g_iload dL_law_397 rfl ?_
      refine g_iconst dL_law_399 ?_
      refine g_iadd dL_law_400 ?_
      obtain ⟨o36, w⟩ := w
      refine g_sld dL_law_401 o36 o4 ?_
      refine g_callVI (n := 4) (As := [aI (h 1000003 (x4 + 1)), aI (h 1000003 (x4 + 2)), aI (h 1000003 (x4 + 3)), aI (h 1000003 (x4 + 4))]) (st := []) dL_law_402 ml_L_53 sh_0 rfl (al_0 hn) rfl rfl (Nat.le_of_ble_eq_true rfl) (RtI.mono w (fun r11 h11 w => ?_))
      refine g_aload_n dL_law_405 rfl ?_
      refine g_aload_n dL_law_406 rfl ?_
      refine g_iload dL_law_407 rfl ?_
      refine g_iconst dL_law_409 ?_
      refine g_iadd dL_law_410 ?_
      obtain ⟨o37, w⟩ := w
      obtain ⟨o38, w⟩ := w
      refine g_sld dL_law_411 o37 o38 ?_
      refine g_aload_n dL_law_412 rfl ?_
      refine g_iload dL_law_413 rfl ?_
      refine g_iconst dL_law_415 ?_
      refine g_iadd dL_law_416 ?_
      obtain ⟨o39, w⟩ := w
      refine g_sld dL_law_417 o39 o38 ?_
      refine g_aload_n dL_law_418 rfl ?_
      refine g_iload dL_law_419 rfl ?_
      refine g_iconst dL_law_421 ?_
      refine g_iadd dL_law_422 ?_
      obtain ⟨o40, w⟩ := w
      refine g_sld dL_law_423 o40 o38 ?_
      refine g_aload_n dL_law_424 rfl ?_
      refine g_iload dL_law_425 rfl ?_
      refine g_iconst dL_law_427 ?_
      refine g_iadd dL_law_428 ?_
      obtain ⟨o41, w⟩ := w
      refine g_sld dL_law_429 o41 o38 ?_
      refine g_callVI (n := 4) (As := [aI (h11 1000003 (x4 + 1)), aI (h11 1000003 (x4 + 2)), aI (h11 1000003 (x4 + 3)), aI (h11 1000003 (x4 + 4))]) (st := [aI r11]) dL_law_430 ml_L_57 sh_97 rfl (al_97 hn) rfl rfl (Nat.le_of_ble_eq_true rfl) (RtI.mono w (fun r12 h12 w => ?_))
      obtain ⟨o42, w⟩ := w
      obtain ⟨o43, w⟩ := w
      refine g_cmp_eq (tgt := 1607) dL_law_433 rfl o42 o43 ?_
      refine ite_imp (fun w => ?_) (fun w => ?_) w
      · refine g_iinc (ls' := [aP 1000003, aP 0, aP 97, aP 143, aI (x4 + 6), aU, aU]) dL_law_1607 rfl (Nat.le_of_ble_eq_true rfl) rfl rfl ?_
        refine g_goto (tgt := 23) dL_law_1610 rfl ?_
        exact g_sub (ls' := [aP 1000003, aP 0, aP 97, aP 143, aI (x4 + 6), aU, aU]) ⟨Or.inr rfl, Or.inr rfl, Or.inr rfl, Or.inr rfl, Or.inr rfl, Or.inl rfl, Or.inl rfl, trivial⟩ w
      · refine g_iconst dL_law_436 ?_
        exact g_retz dL_law_437 rfl (Or.inl rfl) w
    by_cases hc6 : (band (h 1000003 x4) 63) = 6
    · have w := w6 hc6
      refine g_tabIn (tgt := 438) dL_law_40 o5 (by omega) (by omega) (by rw [hc6]; rfl) rfl ?_
      refine g_aload_n dL_law_438 rfl ?_
      refine g_aload_n dL_law_439 rfl ?_
      refine g_iload dL_law_440 rfl ?_
      refine g_iconst dL_law_442 ?_
      refine g_iadd dL_law_443 ?_
      obtain ⟨o44, w⟩ := w
      refine g_sld dL_law_444 o44 o4 ?_
      refine g_aload_n dL_law_445 rfl ?_
      refine g_iload dL_law_446 rfl ?_
      refine g_iconst dL_law_448 ?_
      refine g_iadd dL_law_449 ?_
      obtain ⟨o45, w⟩ := w
      refine g_sld dL_law_450 o45 o4 ?_
      refine g_aload_n dL_law_451 rfl ?_
      refine g_iload dL_law_452 rfl ?_
      refine g_iconst dL_law_454 ?_
      refine g_iadd dL_law_455 ?_
      obtain ⟨o46, w⟩ := w
      refine g_sld dL_law_456 o46 o4 ?_
      refine g_aload_n dL_law_457 rfl ?_
      refine g_iload dL_law_458 rfl ?_
      refine g_iconst dL_law_460 ?_
      refine g_iadd dL_law_461 ?_
      obtain ⟨o47, w⟩ := w
      refine g_sld dL_law_462 o47 o4 ?_
      refine g_callVI (n := 4) (As := [aI (h 1000003 (x4 + 1)), aI (h 1000003 (x4 + 2)), aI (h 1000003 (x4 + 3)), aI (h 1000003 (x4 + 4))]) (st := []) dL_law_463 ml_L_58 sh_0 rfl (al_0 hn) rfl rfl (Nat.le_of_ble_eq_true rfl) (RtI.mono w (fun r13 h13 w => ?_))
      refine g_aload_n dL_law_466 rfl ?_
      refine g_aload_n dL_law_467 rfl ?_
      refine g_iload dL_law_468 rfl ?_
      refine g_iconst dL_law_470 ?_
      refine g_iadd dL_law_471 ?_
      obtain ⟨o48, w⟩ := w
      obtain ⟨o49, w⟩ := w
      refine g_sld dL_law_472 o48 o49 ?_
      refine g_aload_n dL_law_473 rfl ?_
      refine g_iload dL_law_474 rfl ?_
      refine g_iconst dL_law_476 ?_
      refine g_iadd dL_law_477 ?_
      obtain ⟨o50, w⟩ := w
      refine g_sld dL_law_478 o50 o49 ?_
      refine g_aload_n dL_law_479 rfl ?_
      refine g_iload dL_law_480 rfl ?_
      refine g_iconst dL_law_482 ?_
      refine g_iadd dL_law_483 ?_
      obtain ⟨o51, w⟩ := w
      refine g_sld dL_law_484 o51 o49 ?_
      refine g_aload_n dL_law_485 rfl ?_
      refine g_iload dL_law_486 rfl ?_
      refine g_iconst dL_law_488 ?_
      refine g_iadd dL_law_489 ?_
      obtain ⟨o52, w⟩ := w
      refine g_sld dL_law_490 o52 o49 ?_
      refine g_callVI (n := 4) (As := [aI (h13 1000003 (x4 + 1)), aI (h13 1000003 (x4 + 2)), aI (h13 1000003 (x4 + 3)), aI (h13 1000003 (x4 + 4))]) (st := [aI r13]) dL_law_491 ml_L_61 sh_97 rfl (al_97 hn) rfl rfl (Nat.le_of_ble_eq_true rfl) (RtI.mono w (fun r14 h14 w => ?_))
      obtain ⟨o53, w⟩ := w
      obtain ⟨o54, w⟩ := w
      refine g_cmp_eq (tgt := 1607) dL_law_494 rfl o53 o54 ?_
      refine ite_imp (fun w => ?_) (fun w => ?_) w
      · refine g_iinc (ls' := [aP 1000003, aP 0, aP 97, aP 143, aI (x4 + 6), aU, aU]) dL_law_1607 rfl (Nat.le_of_ble_eq_true rfl) rfl rfl ?_
        refine g_goto (tgt := 23) dL_law_1610 rfl ?_
        exact g_sub (ls' := [aP 1000003, aP 0, aP 97, aP 143, aI (x4 + 6), aU, aU]) ⟨Or.inr rfl, Or.inr rfl, Or.inr rfl, Or.inr rfl, Or.inr rfl, Or.inl rfl, Or.inl rfl, trivial⟩ w
      · refine g_iconst dL_law_497 ?_
        exact g_retz dL_law_498 rfl (Or.inl rfl) w
    by_cases hc7 : (band (h 1000003 x4) 63) = 7
    · have w := w7 hc7
      refine g_tabIn (tgt := 499) dL_law_40 o5 (by omega) (by omega) (by rw [hc7]; rfl) rfl ?_
      exact g_sub (ls' := [aP 1000003, aP 0, aP 97, aP 143, aI x4, aU, aU]) ⟨Or.inr rfl, Or.inr rfl, Or.inr rfl, Or.inr rfl, Or.inr rfl, Or.inl rfl, Or.inl rfl, trivial⟩ w
    by_cases hc8 : (band (h 1000003 x4) 63) = 8
    · have w := w8 hc8
      refine g_tabIn (tgt := 567) dL_law_40 o5 (by omega) (by omega) (by rw [hc8]; rfl) rfl ?_
      exact g_sub (ls' := [aP 1000003, aP 0, aP 97, aP 143, aI x4, aU, aU]) ⟨Or.inr rfl, Or.inr rfl, Or.inr rfl, Or.inr rfl, Or.inr rfl, Or.inl rfl, Or.inl rfl, trivial⟩ w
    by_cases hc9 : (band (h 1000003 x4) 63) = 9
    · have w := w9 hc9
      refine g_tabIn (tgt := 635) dL_law_40 o5 (by omega) (by omega) (by rw [hc9]; rfl) rfl ?_
      refine g_aload_n dL_law_635 rfl ?_
      refine g_callVI (n := 0) (As := []) (st := []) dL_law_636 ml_L_74 sh_0 rfl (al_0 hn) rfl rfl (Nat.le_of_ble_eq_true rfl) (RtI.mono w (fun r15 h15 w => ?_))
      refine g_aload_n dL_law_639 rfl ?_
      refine g_callVI (n := 0) (As := []) (st := [aI r15]) dL_law_640 ml_L_77 sh_97 rfl (al_97 hn) rfl rfl (Nat.le_of_ble_eq_true rfl) (RtI.mono w (fun r16 h16 w => ?_))
      obtain ⟨o55, w⟩ := w
      obtain ⟨o56, w⟩ := w
      refine g_cmp_eq (tgt := 1607) dL_law_643 rfl o55 o56 ?_
      refine ite_imp (fun w => ?_) (fun w => ?_) w
      · refine g_iinc (ls' := [aP 1000003, aP 0, aP 97, aP 143, aI (x4 + 6), aU, aU]) dL_law_1607 rfl (Nat.le_of_ble_eq_true rfl) rfl rfl ?_
        refine g_goto (tgt := 23) dL_law_1610 rfl ?_
        exact g_sub (ls' := [aP 1000003, aP 0, aP 97, aP 143, aI (x4 + 6), aU, aU]) ⟨Or.inr rfl, Or.inr rfl, Or.inr rfl, Or.inr rfl, Or.inr rfl, Or.inl rfl, Or.inl rfl, trivial⟩ w
      · refine g_iconst dL_law_646 ?_
        exact g_retz dL_law_647 rfl (Or.inl rfl) w
    by_cases hc10 : (band (h 1000003 x4) 63) = 10
    · have w := w10 hc10
      refine g_tabIn (tgt := 648) dL_law_40 o5 (by omega) (by omega) (by rw [hc10]; rfl) rfl ?_
      exact g_sub (ls' := [aP 1000003, aP 0, aP 97, aP 143, aI x4, aU, aU]) ⟨Or.inr rfl, Or.inr rfl, Or.inr rfl, Or.inr rfl, Or.inr rfl, Or.inl rfl, Or.inl rfl, trivial⟩ w
    by_cases hc11 : (band (h 1000003 x4) 63) = 11
    · have w := w11 hc11
      refine g_tabIn (tgt := 716) dL_law_40 o5 (by omega) (by omega) (by rw [hc11]; rfl) rfl ?_
      refine g_aload_n dL_law_716 rfl ?_
      refine g_aload_n dL_law_717 rfl ?_
      refine g_iload dL_law_718 rfl ?_
      refine g_iconst dL_law_720 ?_
      refine g_iadd dL_law_721 ?_
      obtain ⟨o57, w⟩ := w
      refine g_sld dL_law_722 o57 o4 ?_
      refine g_callVI (n := 1) (As := [aI (h 1000003 (x4 + 1))]) (st := []) dL_law_723 ml_L_81 sh_0 rfl (al_0 hn) rfl rfl (Nat.le_of_ble_eq_true rfl) (RtI.mono w (fun r17 h17 w => ?_))
      refine g_aload_n dL_law_726 rfl ?_
      refine g_aload_n dL_law_727 rfl ?_
      refine g_iload dL_law_728 rfl ?_
      refine g_iconst dL_law_730 ?_
      refine g_iadd dL_law_731 ?_
      obtain ⟨o58, w⟩ := w
      obtain ⟨o59, w⟩ := w
      refine g_sld dL_law_732 o58 o59 ?_
      refine g_callVI (n := 1) (As := [aI (h17 1000003 (x4 + 1))]) (st := [aI r17]) dL_law_733 ml_L_84 sh_97 rfl (al_97 hn) rfl rfl (Nat.le_of_ble_eq_true rfl) (RtI.mono w (fun r18 h18 w => ?_))
      obtain ⟨o60, w⟩ := w
      obtain ⟨o61, w⟩ := w
      refine g_cmp_eq (tgt := 1607) dL_law_736 rfl o60 o61 ?_
      refine ite_imp (fun w => ?_) (fun w => ?_) w
      · refine g_iinc (ls' := [aP 1000003, aP 0, aP 97, aP 143, aI (x4 + 6), aU, aU]) dL_law_1607 rfl (Nat.le_of_ble_eq_true rfl) rfl rfl ?_
        refine g_goto (tgt := 23) dL_law_1610 rfl ?_
        exact g_sub (ls' := [aP 1000003, aP 0, aP 97, aP 143, aI (x4 + 6), aU, aU]) ⟨Or.inr rfl, Or.inr rfl, Or.inr rfl, Or.inr rfl, Or.inr rfl, Or.inl rfl, Or.inl rfl, trivial⟩ w
      · refine g_iconst dL_law_739 ?_
        exact g_retz dL_law_740 rfl (Or.inl rfl) w
    by_cases hc12 : (band (h 1000003 x4) 63) = 12
    · have w := w12 hc12
      refine g_tabIn (tgt := 741) dL_law_40 o5 (by omega) (by omega) (by rw [hc12]; rfl) rfl ?_
      refine g_aload_n dL_law_741 rfl ?_
      refine g_aload_n dL_law_742 rfl ?_
      refine g_iload dL_law_743 rfl ?_
      refine g_iconst dL_law_745 ?_
      refine g_iadd dL_law_746 ?_
      obtain ⟨o62, w⟩ := w
      refine g_sld dL_law_747 o62 o4 ?_
      refine g_callVI (n := 1) (As := [aI (h 1000003 (x4 + 1))]) (st := []) dL_law_748 ml_L_85 sh_0 rfl (al_0 hn) rfl rfl (Nat.le_of_ble_eq_true rfl) (RtI.mono w (fun r19 h19 w => ?_))
      refine g_aload_n dL_law_751 rfl ?_
      refine g_aload_n dL_law_752 rfl ?_
      refine g_iload dL_law_753 rfl ?_
      refine g_iconst dL_law_755 ?_
      refine g_iadd dL_law_756 ?_
      obtain ⟨o63, w⟩ := w
      obtain ⟨o64, w⟩ := w
      refine g_sld dL_law_757 o63 o64 ?_
      refine g_callVI (n := 1) (As := [aI (h19 1000003 (x4 + 1))]) (st := [aI r19]) dL_law_758 ml_L_88 sh_97 rfl (al_97 hn) rfl rfl (Nat.le_of_ble_eq_true rfl) (RtI.mono w (fun r20 h20 w => ?_))
      obtain ⟨o65, w⟩ := w
      obtain ⟨o66, w⟩ := w
      refine g_cmp_eq (tgt := 1607) dL_law_761 rfl o65 o66 ?_
      refine ite_imp (fun w => ?_) (fun w => ?_) w
      · refine g_iinc (ls' := [aP 1000003, aP 0, aP 97, aP 143, aI (x4 + 6), aU, aU]) dL_law_1607 rfl (Nat.le_of_ble_eq_true rfl) rfl rfl ?_
        refine g_goto (tgt := 23) dL_law_1610 rfl ?_
        exact g_sub (ls' := [aP 1000003, aP 0, aP 97, aP 143, aI (x4 + 6), aU, aU]) ⟨Or.inr rfl, Or.inr rfl, Or.inr rfl, Or.inr rfl, Or.inr rfl, Or.inl rfl, Or.inl rfl, trivial⟩ w
      · refine g_iconst dL_law_764 ?_
        exact g_retz dL_law_765 rfl (Or.inl rfl) w
    by_cases hc13 : (band (h 1000003 x4) 63) = 13
    · have w := w13 hc13
      refine g_tabIn (tgt := 766) dL_law_40 o5 (by omega) (by omega) (by rw [hc13]; rfl) rfl ?_
      refine g_aload_n dL_law_766 rfl ?_
      refine g_callVI (n := 0) (As := []) (st := []) dL_law_767 ml_L_89 sh_0 rfl (al_0 hn) rfl rfl (Nat.le_of_ble_eq_true rfl) (RtI.mono w (fun r21 h21 w => ?_))
      refine g_aload_n dL_law_770 rfl ?_
      refine g_callVI (n := 0) (As := []) (st := [aI r21]) dL_law_771 ml_L_92 sh_97 rfl (al_97 hn) rfl rfl (Nat.le_of_ble_eq_true rfl) (RtI.mono w (fun r22 h22 w => ?_))
      obtain ⟨o67, w⟩ := w
      obtain ⟨o68, w⟩ := w
      refine g_cmp_eq (tgt := 1607) dL_law_774 rfl o67 o68 ?_
      refine ite_imp (fun w => ?_) (fun w => ?_) w
      · refine g_iinc (ls' := [aP 1000003, aP 0, aP 97, aP 143, aI (x4 + 6), aU, aU]) dL_law_1607 rfl (Nat.le_of_ble_eq_true rfl) rfl rfl ?_
        refine g_goto (tgt := 23) dL_law_1610 rfl ?_
        exact g_sub (ls' := [aP 1000003, aP 0, aP 97, aP 143, aI (x4 + 6), aU, aU]) ⟨Or.inr rfl, Or.inr rfl, Or.inr rfl, Or.inr rfl, Or.inr rfl, Or.inl rfl, Or.inl rfl, trivial⟩ w
      · refine g_iconst dL_law_777 ?_
        exact g_retz dL_law_778 rfl (Or.inl rfl) w
    by_cases hc14 : (band (h 1000003 x4) 63) = 14
    · have w := w14 hc14
      refine g_tabIn (tgt := 779) dL_law_40 o5 (by omega) (by omega) (by rw [hc14]; rfl) rfl ?_
      refine g_aload_n dL_law_779 rfl ?_
      refine g_aload_n dL_law_780 rfl ?_
      refine g_iload dL_law_781 rfl ?_
      refine g_iconst dL_law_783 ?_
      refine g_iadd dL_law_784 ?_
      obtain ⟨o69, w⟩ := w
      refine g_sld dL_law_785 o69 o4 ?_
      refine g_callVI (n := 1) (As := [aI (h 1000003 (x4 + 1))]) (st := []) dL_law_786 ml_L_93 sh_0 rfl (al_0 hn) rfl rfl (Nat.le_of_ble_eq_true rfl) (RtI.mono w (fun r23 h23 w => ?_))
      refine g_aload_n dL_law_789 rfl ?_
      refine g_aload_n dL_law_790 rfl ?_
      refine g_iload dL_law_791 rfl ?_
      refine g_iconst dL_law_793 ?_
      refine g_iadd dL_law_794 ?_
      obtain ⟨o70, w⟩ := w
      obtain ⟨o71, w⟩ := w
      refine g_sld dL_law_795 o70 o71 ?_
      refine g_callVI (n := 1) (As := [aI (h23 1000003 (x4 + 1))]) (st := [aI r23]) dL_law_796 ml_L_96 sh_97 rfl (al_97 hn) rfl rfl (Nat.le_of_ble_eq_true rfl) (RtI.mono w (fun r24 h24 w => ?_))
      obtain ⟨o72, w⟩ := w
      obtain ⟨o73, w⟩ := w
      refine g_cmp_eq (tgt := 1607) dL_law_799 rfl o72 o73 ?_
      refine ite_imp (fun w => ?_) (fun w => ?_) w
      · refine g_iinc (ls' := [aP 1000003, aP 0, aP 97, aP 143, aI (x4 + 6), aU, aU]) dL_law_1607 rfl (Nat.le_of_ble_eq_true rfl) rfl rfl ?_
        refine g_goto (tgt := 23) dL_law_1610 rfl ?_
        exact g_sub (ls' := [aP 1000003, aP 0, aP 97, aP 143, aI (x4 + 6), aU, aU]) ⟨Or.inr rfl, Or.inr rfl, Or.inr rfl, Or.inr rfl, Or.inr rfl, Or.inl rfl, Or.inl rfl, trivial⟩ w
      · refine g_iconst dL_law_802 ?_
        exact g_retz dL_law_803 rfl (Or.inl rfl) w
    by_cases hc15 : (band (h 1000003 x4) 63) = 15
    · have w := w15 hc15
      refine g_tabIn (tgt := 804) dL_law_40 o5 (by omega) (by omega) (by rw [hc15]; rfl) rfl ?_
      refine g_aload_n dL_law_804 rfl ?_
      refine g_aload_n dL_law_805 rfl ?_
      refine g_iload dL_law_806 rfl ?_
      refine g_iconst dL_law_808 ?_
      refine g_iadd dL_law_809 ?_
      obtain ⟨o74, w⟩ := w
      refine g_sld dL_law_810 o74 o4 ?_
      refine g_callVI (n := 1) (As := [aI (h 1000003 (x4 + 1))]) (st := []) dL_law_811 ml_L_97 sh_0 rfl (al_0 hn) rfl rfl (Nat.le_of_ble_eq_true rfl) (RtI.mono w (fun r25 h25 w => ?_))
      refine g_aload_n dL_law_814 rfl ?_
      refine g_aload_n dL_law_815 rfl ?_
      refine g_iload dL_law_816 rfl ?_
      refine g_iconst dL_law_818 ?_
      refine g_iadd dL_law_819 ?_
      obtain ⟨o75, w⟩ := w
      obtain ⟨o76, w⟩ := w
      refine g_sld dL_law_820 o75 o76 ?_
      refine g_callVI (n := 1) (As := [aI (h25 1000003 (x4 + 1))]) (st := [aI r25]) dL_law_821 ml_L_100 sh_97 rfl (al_97 hn) rfl rfl (Nat.le_of_ble_eq_true rfl) (RtI.mono w (fun r26 h26 w => ?_))
      obtain ⟨o77, w⟩ := w
      obtain ⟨o78, w⟩ := w
      refine g_cmp_eq (tgt := 1607) dL_law_824 rfl o77 o78 ?_
      refine ite_imp (fun w => ?_) (fun w => ?_) w
      · refine g_iinc (ls' := [aP 1000003, aP 0, aP 97, aP 143, aI (x4 + 6), aU, aU]) dL_law_1607 rfl (Nat.le_of_ble_eq_true rfl) rfl rfl ?_
        refine g_goto (tgt := 23) dL_law_1610 rfl ?_
        exact g_sub (ls' := [aP 1000003, aP 0, aP 97, aP 143, aI (x4 + 6), aU, aU]) ⟨Or.inr rfl, Or.inr rfl, Or.inr rfl, Or.inr rfl, Or.inr rfl, Or.inl rfl, Or.inl rfl, trivial⟩ w
      · refine g_iconst dL_law_827 ?_
        exact g_retz dL_law_828 rfl (Or.inl rfl) w
    by_cases hc16 : (band (h 1000003 x4) 63) = 16
    · have w := w16 hc16
      refine g_tabIn (tgt := 829) dL_law_40 o5 (by omega) (by omega) (by rw [hc16]; rfl) rfl ?_
      refine g_aload_n dL_law_829 rfl ?_
      refine g_aload_n dL_law_830 rfl ?_
      refine g_iload dL_law_831 rfl ?_
      refine g_iconst dL_law_833 ?_
      refine g_iadd dL_law_834 ?_
      obtain ⟨o79, w⟩ := w
      refine g_sld dL_law_835 o79 o4 ?_
      refine g_callVI (n := 1) (As := [aI (h 1000003 (x4 + 1))]) (st := []) dL_law_836 ml_L_101 sh_0 rfl (al_0 hn) rfl rfl (Nat.le_of_ble_eq_true rfl) (RtI.mono w (fun r27 h27 w => ?_))
      refine g_aload_n dL_law_839 rfl ?_
      refine g_aload_n dL_law_840 rfl ?_
      refine g_iload dL_law_841 rfl ?_
      refine g_iconst dL_law_843 ?_
      refine g_iadd dL_law_844 ?_
      obtain ⟨o80, w⟩ := w
      obtain ⟨o81, w⟩ := w
      refine g_sld dL_law_845 o80 o81 ?_
      refine g_callVI (n := 1) (As := [aI (h27 1000003 (x4 + 1))]) (st := [aI r27]) dL_law_846 ml_L_104 sh_97 rfl (al_97 hn) rfl rfl (Nat.le_of_ble_eq_true rfl) (RtI.mono w (fun r28 h28 w => ?_))
      obtain ⟨o82, w⟩ := w
      obtain ⟨o83, w⟩ := w
      refine g_cmp_eq (tgt := 1607) dL_law_849 rfl o82 o83 ?_
      refine ite_imp (fun w => ?_) (fun w => ?_) w
      · refine g_iinc (ls' := [aP 1000003, aP 0, aP 97, aP 143, aI (x4 + 6), aU, aU]) dL_law_1607 rfl (Nat.le_of_ble_eq_true rfl) rfl rfl ?_
        refine g_goto (tgt := 23) dL_law_1610 rfl ?_
        exact g_sub (ls' := [aP 1000003, aP 0, aP 97, aP 143, aI (x4 + 6), aU, aU]) ⟨Or.inr rfl, Or.inr rfl, Or.inr rfl, Or.inr rfl, Or.inr rfl, Or.inl rfl, Or.inl rfl, trivial⟩ w
      · refine g_iconst dL_law_852 ?_
        exact g_retz dL_law_853 rfl (Or.inl rfl) w
    by_cases hc17 : (band (h 1000003 x4) 63) = 17
    · have w := w17 hc17
      refine g_tabIn (tgt := 854) dL_law_40 o5 (by omega) (by omega) (by rw [hc17]; rfl) rfl ?_
      refine g_aload_n dL_law_854 rfl ?_
      refine g_aload_n dL_law_855 rfl ?_
      refine g_iload dL_law_856 rfl ?_
      refine g_iconst dL_law_858 ?_
      refine g_iadd dL_law_859 ?_
      obtain ⟨o84, w⟩ := w
      refine g_sld dL_law_860 o84 o4 ?_
      refine g_callVI (n := 1) (As := [aI (h 1000003 (x4 + 1))]) (st := []) dL_law_861 ml_L_105 sh_0 rfl (al_0 hn) rfl rfl (Nat.le_of_ble_eq_true rfl) (RtI.mono w (fun r29 h29 w => ?_))
      refine g_aload_n dL_law_864 rfl ?_
      refine g_aload_n dL_law_865 rfl ?_
      refine g_iload dL_law_866 rfl ?_
      refine g_iconst dL_law_868 ?_
      refine g_iadd dL_law_869 ?_
      obtain ⟨o85, w⟩ := w
      obtain ⟨o86, w⟩ := w
      refine g_sld dL_law_870 o85 o86 ?_
      refine g_callVI (n := 1) (As := [aI (h29 1000003 (x4 + 1))]) (st := [aI r29]) dL_law_871 ml_L_108 sh_97 rfl (al_97 hn) rfl rfl (Nat.le_of_ble_eq_true rfl) (RtI.mono w (fun r30 h30 w => ?_))
      obtain ⟨o87, w⟩ := w
      obtain ⟨o88, w⟩ := w
      refine g_cmp_eq (tgt := 1607) dL_law_874 rfl o87 o88 ?_
      refine ite_imp (fun w => ?_) (fun w => ?_) w
      · refine g_iinc (ls' := [aP 1000003, aP 0, aP 97, aP 143, aI (x4 + 6), aU, aU]) dL_law_1607 rfl (Nat.le_of_ble_eq_true rfl) rfl rfl ?_
        refine g_goto (tgt := 23) dL_law_1610 rfl ?_
        exact g_sub (ls' := [aP 1000003, aP 0, aP 97, aP 143, aI (x4 + 6), aU, aU]) ⟨Or.inr rfl, Or.inr rfl, Or.inr rfl, Or.inr rfl, Or.inr rfl, Or.inl rfl, Or.inl rfl, trivial⟩ w
      · refine g_iconst dL_law_877 ?_
        exact g_retz dL_law_878 rfl (Or.inl rfl) w
    by_cases hc18 : (band (h 1000003 x4) 63) = 18
    · have w := w18 hc18
      refine g_tabIn (tgt := 879) dL_law_40 o5 (by omega) (by omega) (by rw [hc18]; rfl) rfl ?_
      refine g_aload_n dL_law_879 rfl ?_
      refine g_aload_n dL_law_880 rfl ?_
      refine g_iload dL_law_881 rfl ?_
      refine g_iconst dL_law_883 ?_
      refine g_iadd dL_law_884 ?_
      obtain ⟨o89, w⟩ := w
      refine g_sld dL_law_885 o89 o4 ?_
      refine g_callVI (n := 1) (As := [aI (h 1000003 (x4 + 1))]) (st := []) dL_law_886 ml_L_109 sh_0 rfl (al_0 hn) rfl rfl (Nat.le_of_ble_eq_true rfl) (RtI.mono w (fun r31 h31 w => ?_))
      refine g_aload_n dL_law_889 rfl ?_
      refine g_aload_n dL_law_890 rfl ?_
      refine g_iload dL_law_891 rfl ?_
      refine g_iconst dL_law_893 ?_
      refine g_iadd dL_law_894 ?_
      obtain ⟨o90, w⟩ := w
      obtain ⟨o91, w⟩ := w
      refine g_sld dL_law_895 o90 o91 ?_
      refine g_callVI (n := 1) (As := [aI (h31 1000003 (x4 + 1))]) (st := [aI r31]) dL_law_896 ml_L_112 sh_97 rfl (al_97 hn) rfl rfl (Nat.le_of_ble_eq_true rfl) (RtI.mono w (fun r32 h32 w => ?_))
      obtain ⟨o92, w⟩ := w
      obtain ⟨o93, w⟩ := w
      refine g_cmp_eq (tgt := 1607) dL_law_899 rfl o92 o93 ?_
      refine ite_imp (fun w => ?_) (fun w => ?_) w
      · refine g_iinc (ls' := [aP 1000003, aP 0, aP 97, aP 143, aI (x4 + 6), aU, aU]) dL_law_1607 rfl (Nat.le_of_ble_eq_true rfl) rfl rfl ?_
        refine g_goto (tgt := 23) dL_law_1610 rfl ?_
        exact g_sub (ls' := [aP 1000003, aP 0, aP 97, aP 143, aI (x4 + 6), aU, aU]) ⟨Or.inr rfl, Or.inr rfl, Or.inr rfl, Or.inr rfl, Or.inr rfl, Or.inl rfl, Or.inl rfl, trivial⟩ w
      · refine g_iconst dL_law_902 ?_
        exact g_retz dL_law_903 rfl (Or.inl rfl) w
    by_cases hc19 : (band (h 1000003 x4) 63) = 19
    · have w := w19 hc19
      refine g_tabIn (tgt := 904) dL_law_40 o5 (by omega) (by omega) (by rw [hc19]; rfl) rfl ?_
      refine g_aload_n dL_law_904 rfl ?_
      refine g_aload_n dL_law_905 rfl ?_
      refine g_iload dL_law_906 rfl ?_
      refine g_iconst dL_law_908 ?_
      refine g_iadd dL_law_909 ?_
      obtain ⟨o94, w⟩ := w
      refine g_sld dL_law_910 o94 o4 ?_
      refine g_callVI (n := 1) (As := [aI (h 1000003 (x4 + 1))]) (st := []) dL_law_911 ml_L_113 sh_0 rfl (al_0 hn) rfl rfl (Nat.le_of_ble_eq_true rfl) (RtI.mono w (fun r33 h33 w => ?_))
      refine g_aload_n dL_law_914 rfl ?_
      refine g_aload_n dL_law_915 rfl ?_
      refine g_iload dL_law_916 rfl ?_
      refine g_iconst dL_law_918 ?_
      refine g_iadd dL_law_919 ?_
      obtain ⟨o95, w⟩ := w
      obtain ⟨o96, w⟩ := w
      refine g_sld dL_law_920 o95 o96 ?_
      refine g_callVI (n := 1) (As := [aI (h33 1000003 (x4 + 1))]) (st := [aI r33]) dL_law_921 ml_L_116 sh_97 rfl (al_97 hn) rfl rfl (Nat.le_of_ble_eq_true rfl) (RtI.mono w (fun r34 h34 w => ?_))
      obtain ⟨o97, w⟩ := w
      obtain ⟨o98, w⟩ := w
      refine g_cmp_eq (tgt := 1607) dL_law_924 rfl o97 o98 ?_
      refine ite_imp (fun w => ?_) (fun w => ?_) w
      · refine g_iinc (ls' := [aP 1000003, aP 0, aP 97, aP 143, aI (x4 + 6), aU, aU]) dL_law_1607 rfl (Nat.le_of_ble_eq_true rfl) rfl rfl ?_
        refine g_goto (tgt := 23) dL_law_1610 rfl ?_
        exact g_sub (ls' := [aP 1000003, aP 0, aP 97, aP 143, aI (x4 + 6), aU, aU]) ⟨Or.inr rfl, Or.inr rfl, Or.inr rfl, Or.inr rfl, Or.inr rfl, Or.inl rfl, Or.inl rfl, trivial⟩ w
      · refine g_iconst dL_law_927 ?_
        exact g_retz dL_law_928 rfl (Or.inl rfl) w
    by_cases hc20 : (band (h 1000003 x4) 63) = 20
    · have w := w20 hc20
      refine g_tabIn (tgt := 929) dL_law_40 o5 (by omega) (by omega) (by rw [hc20]; rfl) rfl ?_
      refine g_aload_n dL_law_929 rfl ?_
      refine g_aload_n dL_law_930 rfl ?_
      refine g_iload dL_law_931 rfl ?_
      refine g_iconst dL_law_933 ?_
      refine g_iadd dL_law_934 ?_
      obtain ⟨o99, w⟩ := w
      refine g_sld dL_law_935 o99 o4 ?_
      refine g_callVI (n := 1) (As := [aI (h 1000003 (x4 + 1))]) (st := []) dL_law_936 ml_L_117 sh_0 rfl (al_0 hn) rfl rfl (Nat.le_of_ble_eq_true rfl) (RtI.mono w (fun r35 h35 w => ?_))
      refine g_aload_n dL_law_939 rfl ?_
      refine g_aload_n dL_law_940 rfl ?_
      refine g_iload dL_law_941 rfl ?_
      refine g_iconst dL_law_943 ?_
      refine g_iadd dL_law_944 ?_
      obtain ⟨o100, w⟩ := w
      obtain ⟨o101, w⟩ := w
      refine g_sld dL_law_945 o100 o101 ?_
      refine g_callVI (n := 1) (As := [aI (h35 1000003 (x4 + 1))]) (st := [aI r35]) dL_law_946 ml_L_120 sh_97 rfl (al_97 hn) rfl rfl (Nat.le_of_ble_eq_true rfl) (RtI.mono w (fun r36 h36 w => ?_))
      obtain ⟨o102, w⟩ := w
      obtain ⟨o103, w⟩ := w
      refine g_cmp_eq (tgt := 1607) dL_law_949 rfl o102 o103 ?_
      refine ite_imp (fun w => ?_) (fun w => ?_) w
      · refine g_iinc (ls' := [aP 1000003, aP 0, aP 97, aP 143, aI (x4 + 6), aU, aU]) dL_law_1607 rfl (Nat.le_of_ble_eq_true rfl) rfl rfl ?_
        refine g_goto (tgt := 23) dL_law_1610 rfl ?_
        exact g_sub (ls' := [aP 1000003, aP 0, aP 97, aP 143, aI (x4 + 6), aU, aU]) ⟨Or.inr rfl, Or.inr rfl, Or.inr rfl, Or.inr rfl, Or.inr rfl, Or.inl rfl, Or.inl rfl, trivial⟩ w
      · refine g_iconst dL_law_952 ?_
        exact g_retz dL_law_953 rfl (Or.inl rfl) w
    by_cases hc21 : (band (h 1000003 x4) 63) = 21
    · have w := w21 hc21
      refine g_tabIn (tgt := 954) dL_law_40 o5 (by omega) (by omega) (by rw [hc21]; rfl) rfl ?_
      refine g_aload_n dL_law_954 rfl ?_
      refine g_aload_n dL_law_955 rfl ?_
      refine g_iload dL_law_956 rfl ?_
      refine g_iconst dL_law_958 ?_
      refine g_iadd dL_law_959 ?_
      obtain ⟨o104, w⟩ := w
      refine g_sld dL_law_960 o104 o4 ?_
      refine g_aload_n dL_law_961 rfl ?_
      refine g_iload dL_law_962 rfl ?_
      refine g_iconst dL_law_964 ?_
      refine g_iadd dL_law_965 ?_
      obtain ⟨o105, w⟩ := w
      refine g_sld dL_law_966 o105 o4 ?_
      refine g_aload_n dL_law_967 rfl ?_
      refine g_iload dL_law_968 rfl ?_
      refine g_iconst dL_law_970 ?_
      refine g_iadd dL_law_971 ?_
      obtain ⟨o106, w⟩ := w
      refine g_sld dL_law_972 o106 o4 ?_
      refine g_callVI (n := 3) (As := [aI (h 1000003 (x4 + 1)), aI (h 1000003 (x4 + 2)), aI (h 1000003 (x4 + 3))]) (st := []) dL_law_973 ml_L_121 sh_0 rfl (al_0 hn) rfl rfl (Nat.le_of_ble_eq_true rfl) (RtI.mono w (fun r37 h37 w => ?_))
      refine g_aload_n dL_law_976 rfl ?_
      refine g_aload_n dL_law_977 rfl ?_
      refine g_iload dL_law_978 rfl ?_
      refine g_iconst dL_law_980 ?_
      refine g_iadd dL_law_981 ?_
      obtain ⟨o107, w⟩ := w
      obtain ⟨o108, w⟩ := w
      refine g_sld dL_law_982 o107 o108 ?_
      refine g_aload_n dL_law_983 rfl ?_
      refine g_iload dL_law_984 rfl ?_
      refine g_iconst dL_law_986 ?_
      refine g_iadd dL_law_987 ?_
      obtain ⟨o109, w⟩ := w
      refine g_sld dL_law_988 o109 o108 ?_
      refine g_aload_n dL_law_989 rfl ?_
      refine g_iload dL_law_990 rfl ?_
      refine g_iconst dL_law_992 ?_
      refine g_iadd dL_law_993 ?_
      obtain ⟨o110, w⟩ := w
      refine g_sld dL_law_994 o110 o108 ?_
      refine g_callVI (n := 3) (As := [aI (h37 1000003 (x4 + 1)), aI (h37 1000003 (x4 + 2)), aI (h37 1000003 (x4 + 3))]) (st := [aI r37]) dL_law_995 ml_L_124 sh_97 rfl (al_97 hn) rfl rfl (Nat.le_of_ble_eq_true rfl) (RtI.mono w (fun r38 h38 w => ?_))
      obtain ⟨o111, w⟩ := w
      obtain ⟨o112, w⟩ := w
      refine g_cmp_eq (tgt := 1607) dL_law_998 rfl o111 o112 ?_
      refine ite_imp (fun w => ?_) (fun w => ?_) w
      · refine g_iinc (ls' := [aP 1000003, aP 0, aP 97, aP 143, aI (x4 + 6), aU, aU]) dL_law_1607 rfl (Nat.le_of_ble_eq_true rfl) rfl rfl ?_
        refine g_goto (tgt := 23) dL_law_1610 rfl ?_
        exact g_sub (ls' := [aP 1000003, aP 0, aP 97, aP 143, aI (x4 + 6), aU, aU]) ⟨Or.inr rfl, Or.inr rfl, Or.inr rfl, Or.inr rfl, Or.inr rfl, Or.inl rfl, Or.inl rfl, trivial⟩ w
      · refine g_iconst dL_law_1001 ?_
        exact g_retz dL_law_1002 rfl (Or.inl rfl) w
    by_cases hc22 : (band (h 1000003 x4) 63) = 22
    · have w := w22 hc22
      refine g_tabIn (tgt := 1003) dL_law_40 o5 (by omega) (by omega) (by rw [hc22]; rfl) rfl ?_
      refine g_aload_n dL_law_1003 rfl ?_
      refine g_aload_n dL_law_1004 rfl ?_
      refine g_iload dL_law_1005 rfl ?_
      refine g_iconst dL_law_1007 ?_
      refine g_iadd dL_law_1008 ?_
      obtain ⟨o113, w⟩ := w
      refine g_sld dL_law_1009 o113 o4 ?_
      refine g_callVI (n := 1) (As := [aI (h 1000003 (x4 + 1))]) (st := []) dL_law_1010 ml_L_125 sh_0 rfl (al_0 hn) rfl rfl (Nat.le_of_ble_eq_true rfl) (RtI.mono w (fun r39 h39 w => ?_))
      refine g_aload_n dL_law_1013 rfl ?_
      refine g_aload_n dL_law_1014 rfl ?_
      refine g_iload dL_law_1015 rfl ?_
      refine g_iconst dL_law_1017 ?_
      refine g_iadd dL_law_1018 ?_
      obtain ⟨o114, w⟩ := w
      obtain ⟨o115, w⟩ := w
      refine g_sld dL_law_1019 o114 o115 ?_
      refine g_callVI (n := 1) (As := [aI (h39 1000003 (x4 + 1))]) (st := [aI r39]) dL_law_1020 ml_L_128 sh_97 rfl (al_97 hn) rfl rfl (Nat.le_of_ble_eq_true rfl) (RtI.mono w (fun r40 h40 w => ?_))
      obtain ⟨o116, w⟩ := w
      obtain ⟨o117, w⟩ := w
      refine g_cmp_eq (tgt := 1607) dL_law_1023 rfl o116 o117 ?_
      refine ite_imp (fun w => ?_) (fun w => ?_) w
      · refine g_iinc (ls' := [aP 1000003, aP 0, aP 97, aP 143, aI (x4 + 6), aU, aU]) dL_law_1607 rfl (Nat.le_of_ble_eq_true rfl) rfl rfl ?_
        refine g_goto (tgt := 23) dL_law_1610 rfl ?_
        exact g_sub (ls' := [aP 1000003, aP 0, aP 97, aP 143, aI (x4 + 6), aU, aU]) ⟨Or.inr rfl, Or.inr rfl, Or.inr rfl, Or.inr rfl, Or.inr rfl, Or.inl rfl, Or.inl rfl, trivial⟩ w
      · refine g_iconst dL_law_1026 ?_
        exact g_retz dL_law_1027 rfl (Or.inl rfl) w
    by_cases hc23 : (band (h 1000003 x4) 63) = 23
    · have w := w23 hc23
      refine g_tabIn (tgt := 1028) dL_law_40 o5 (by omega) (by omega) (by rw [hc23]; rfl) rfl ?_
      refine g_aload_n dL_law_1028 rfl ?_
      refine g_aload_n dL_law_1029 rfl ?_
      refine g_iload dL_law_1030 rfl ?_
      refine g_iconst dL_law_1032 ?_
      refine g_iadd dL_law_1033 ?_
      obtain ⟨o118, w⟩ := w
      refine g_sld dL_law_1034 o118 o4 ?_
      refine g_callVI (n := 1) (As := [aI (h 1000003 (x4 + 1))]) (st := []) dL_law_1035 ml_L_129 sh_0 rfl (al_0 hn) rfl rfl (Nat.le_of_ble_eq_true rfl) (RtI.mono w (fun r41 h41 w => ?_))
      refine g_aload_n dL_law_1038 rfl ?_
      refine g_aload_n dL_law_1039 rfl ?_
      refine g_iload dL_law_1040 rfl ?_
      refine g_iconst dL_law_1042 ?_
      refine g_iadd dL_law_1043 ?_
      obtain ⟨o119, w⟩ := w
      obtain ⟨o120, w⟩ := w
      refine g_sld dL_law_1044 o119 o120 ?_
      refine g_callVI (n := 1) (As := [aI (h41 1000003 (x4 + 1))]) (st := [aI r41]) dL_law_1045 ml_L_132 sh_97 rfl (al_97 hn) rfl rfl (Nat.le_of_ble_eq_true rfl) (RtI.mono w (fun r42 h42 w => ?_))
      obtain ⟨o121, w⟩ := w
      obtain ⟨o122, w⟩ := w
      refine g_cmp_eq (tgt := 1607) dL_law_1048 rfl o121 o122 ?_
      refine ite_imp (fun w => ?_) (fun w => ?_) w
      · refine g_iinc (ls' := [aP 1000003, aP 0, aP 97, aP 143, aI (x4 + 6), aU, aU]) dL_law_1607 rfl (Nat.le_of_ble_eq_true rfl) rfl rfl ?_
        refine g_goto (tgt := 23) dL_law_1610 rfl ?_
        exact g_sub (ls' := [aP 1000003, aP 0, aP 97, aP 143, aI (x4 + 6), aU, aU]) ⟨Or.inr rfl, Or.inr rfl, Or.inr rfl, Or.inr rfl, Or.inr rfl, Or.inl rfl, Or.inl rfl, trivial⟩ w
      · refine g_iconst dL_law_1051 ?_
        exact g_retz dL_law_1052 rfl (Or.inl rfl) w
    by_cases hc24 : (band (h 1000003 x4) 63) = 24
    · have w := w24 hc24
      refine g_tabIn (tgt := 1053) dL_law_40 o5 (by omega) (by omega) (by rw [hc24]; rfl) rfl ?_
      refine g_aload_n dL_law_1053 rfl ?_
      refine g_aload_n dL_law_1054 rfl ?_
      refine g_iload dL_law_1055 rfl ?_
      refine g_iconst dL_law_1057 ?_
      refine g_iadd dL_law_1058 ?_
      obtain ⟨o123, w⟩ := w
      refine g_sld dL_law_1059 o123 o4 ?_
      refine g_aload_n dL_law_1060 rfl ?_
      refine g_iload dL_law_1061 rfl ?_
      refine g_iconst dL_law_1063 ?_
      refine g_iadd dL_law_1064 ?_
      obtain ⟨o124, w⟩ := w
      refine g_sld dL_law_1065 o124 o4 ?_
      refine g_callVI (n := 2) (As := [aI (h 1000003 (x4 + 1)), aI (h 1000003 (x4 + 2))]) (st := []) dL_law_1066 ml_L_133 sh_0 rfl (al_0 hn) rfl rfl (Nat.le_of_ble_eq_true rfl) (RtI.mono w (fun r43 h43 w => ?_))
      refine g_aload_n dL_law_1069 rfl ?_
      refine g_aload_n dL_law_1070 rfl ?_
      refine g_iload dL_law_1071 rfl ?_
      refine g_iconst dL_law_1073 ?_
      refine g_iadd dL_law_1074 ?_
      obtain ⟨o125, w⟩ := w
      obtain ⟨o126, w⟩ := w
      refine g_sld dL_law_1075 o125 o126 ?_
      refine g_aload_n dL_law_1076 rfl ?_
      refine g_iload dL_law_1077 rfl ?_
      refine g_iconst dL_law_1079 ?_
      refine g_iadd dL_law_1080 ?_
      obtain ⟨o127, w⟩ := w
      refine g_sld dL_law_1081 o127 o126 ?_
      refine g_callVI (n := 2) (As := [aI (h43 1000003 (x4 + 1)), aI (h43 1000003 (x4 + 2))]) (st := [aI r43]) dL_law_1082 ml_L_136 sh_97 rfl (al_97 hn) rfl rfl (Nat.le_of_ble_eq_true rfl) (RtI.mono w (fun r44 h44 w => ?_))
      obtain ⟨o128, w⟩ := w
      obtain ⟨o129, w⟩ := w
      refine g_cmp_eq (tgt := 1607) dL_law_1085 rfl o128 o129 ?_
      refine ite_imp (fun w => ?_) (fun w => ?_) w
      · refine g_iinc (ls' := [aP 1000003, aP 0, aP 97, aP 143, aI (x4 + 6), aU, aU]) dL_law_1607 rfl (Nat.le_of_ble_eq_true rfl) rfl rfl ?_
        refine g_goto (tgt := 23) dL_law_1610 rfl ?_
        exact g_sub (ls' := [aP 1000003, aP 0, aP 97, aP 143, aI (x4 + 6), aU, aU]) ⟨Or.inr rfl, Or.inr rfl, Or.inr rfl, Or.inr rfl, Or.inr rfl, Or.inl rfl, Or.inl rfl, trivial⟩ w
      · refine g_iconst dL_law_1088 ?_
        exact g_retz dL_law_1089 rfl (Or.inl rfl) w
    by_cases hc25 : (band (h 1000003 x4) 63) = 25
    · have w := w25 hc25
      refine g_tabIn (tgt := 1090) dL_law_40 o5 (by omega) (by omega) (by rw [hc25]; rfl) rfl ?_
      exact g_sub (ls' := [aP 1000003, aP 0, aP 97, aP 143, aI x4, aU, aU]) ⟨Or.inr rfl, Or.inr rfl, Or.inr rfl, Or.inr rfl, Or.inr rfl, Or.inl rfl, Or.inl rfl, trivial⟩ w
    by_cases hc26 : (band (h 1000003 x4) 63) = 26
    · have w := w26 hc26
      refine g_tabIn (tgt := 1170) dL_law_40 o5 (by omega) (by omega) (by rw [hc26]; rfl) rfl ?_
      refine g_aload_n dL_law_1170 rfl ?_
      refine g_aload_n dL_law_1171 rfl ?_
      refine g_iload dL_law_1172 rfl ?_
      refine g_iconst dL_law_1174 ?_
      refine g_iadd dL_law_1175 ?_
      obtain ⟨o130, w⟩ := w
      refine g_sld dL_law_1176 o130 o4 ?_
      refine g_aload_n dL_law_1177 rfl ?_
      refine g_iload dL_law_1178 rfl ?_
      refine g_iconst dL_law_1180 ?_
      refine g_iadd dL_law_1181 ?_
      obtain ⟨o131, w⟩ := w
      refine g_sld dL_law_1182 o131 o4 ?_
      refine g_callVI (n := 2) (As := [aI (h 1000003 (x4 + 1)), aI (h 1000003 (x4 + 2))]) (st := []) dL_law_1183 ml_L_141 sh_0 rfl (al_0 hn) rfl rfl (Nat.le_of_ble_eq_true rfl) (RtI.mono w (fun r45 h45 w => ?_))
      refine g_aload_n dL_law_1186 rfl ?_
      refine g_aload_n dL_law_1187 rfl ?_
      refine g_iload dL_law_1188 rfl ?_
      refine g_iconst dL_law_1190 ?_
      refine g_iadd dL_law_1191 ?_
      obtain ⟨o132, w⟩ := w
      obtain ⟨o133, w⟩ := w
      refine g_sld dL_law_1192 o132 o133 ?_
      refine g_aload_n dL_law_1193 rfl ?_
      refine g_iload dL_law_1194 rfl ?_
      refine g_iconst dL_law_1196 ?_
      refine g_iadd dL_law_1197 ?_
      obtain ⟨o134, w⟩ := w
      refine g_sld dL_law_1198 o134 o133 ?_
      refine g_callVI (n := 2) (As := [aI (h45 1000003 (x4 + 1)), aI (h45 1000003 (x4 + 2))]) (st := [aI r45]) dL_law_1199 ml_L_144 sh_97 rfl (al_97 hn) rfl rfl (Nat.le_of_ble_eq_true rfl) (RtI.mono w (fun r46 h46 w => ?_))
      obtain ⟨o135, w⟩ := w
      obtain ⟨o136, w⟩ := w
      refine g_cmp_eq (tgt := 1607) dL_law_1202 rfl o135 o136 ?_
      refine ite_imp (fun w => ?_) (fun w => ?_) w
      · refine g_iinc (ls' := [aP 1000003, aP 0, aP 97, aP 143, aI (x4 + 6), aU, aU]) dL_law_1607 rfl (Nat.le_of_ble_eq_true rfl) rfl rfl ?_
        refine g_goto (tgt := 23) dL_law_1610 rfl ?_
        exact g_sub (ls' := [aP 1000003, aP 0, aP 97, aP 143, aI (x4 + 6), aU, aU]) ⟨Or.inr rfl, Or.inr rfl, Or.inr rfl, Or.inr rfl, Or.inr rfl, Or.inl rfl, Or.inl rfl, trivial⟩ w
      · refine g_iconst dL_law_1205 ?_
        exact g_retz dL_law_1206 rfl (Or.inl rfl) w
    by_cases hc27 : (band (h 1000003 x4) 63) = 27
    · have w := w27 hc27
      refine g_tabIn (tgt := 1207) dL_law_40 o5 (by omega) (by omega) (by rw [hc27]; rfl) rfl ?_
      refine g_aload_n dL_law_1207 rfl ?_
      refine g_aload_n dL_law_1208 rfl ?_
      refine g_iload dL_law_1209 rfl ?_
      refine g_iconst dL_law_1211 ?_
      refine g_iadd dL_law_1212 ?_
      obtain ⟨o137, w⟩ := w
      refine g_sld dL_law_1213 o137 o4 ?_
      refine g_callVI (n := 1) (As := [aI (h 1000003 (x4 + 1))]) (st := []) dL_law_1214 ml_L_145 sh_0 rfl (al_0 hn) rfl rfl (Nat.le_of_ble_eq_true rfl) (RtI.mono w (fun r47 h47 w => ?_))
      refine g_aload_n dL_law_1217 rfl ?_
      refine g_aload_n dL_law_1218 rfl ?_
      refine g_iload dL_law_1219 rfl ?_
      refine g_iconst dL_law_1221 ?_
      refine g_iadd dL_law_1222 ?_
      obtain ⟨o138, w⟩ := w
      obtain ⟨o139, w⟩ := w
      refine g_sld dL_law_1223 o138 o139 ?_
      refine g_callVI (n := 1) (As := [aI (h47 1000003 (x4 + 1))]) (st := [aI r47]) dL_law_1224 ml_L_148 sh_97 rfl (al_97 hn) rfl rfl (Nat.le_of_ble_eq_true rfl) (RtI.mono w (fun r48 h48 w => ?_))
      obtain ⟨o140, w⟩ := w
      obtain ⟨o141, w⟩ := w
      refine g_cmp_eq (tgt := 1607) dL_law_1227 rfl o140 o141 ?_
      refine ite_imp (fun w => ?_) (fun w => ?_) w
      · refine g_iinc (ls' := [aP 1000003, aP 0, aP 97, aP 143, aI (x4 + 6), aU, aU]) dL_law_1607 rfl (Nat.le_of_ble_eq_true rfl) rfl rfl ?_
        refine g_goto (tgt := 23) dL_law_1610 rfl ?_
        exact g_sub (ls' := [aP 1000003, aP 0, aP 97, aP 143, aI (x4 + 6), aU, aU]) ⟨Or.inr rfl, Or.inr rfl, Or.inr rfl, Or.inr rfl, Or.inr rfl, Or.inl rfl, Or.inl rfl, trivial⟩ w
      · refine g_iconst dL_law_1230 ?_
        exact g_retz dL_law_1231 rfl (Or.inl rfl) w
    by_cases hc28 : (band (h 1000003 x4) 63) = 28
    · have w := w28 hc28
      refine g_tabIn (tgt := 1232) dL_law_40 o5 (by omega) (by omega) (by rw [hc28]; rfl) rfl ?_
      refine g_aload_n dL_law_1232 rfl ?_
      refine g_aload_n dL_law_1233 rfl ?_
      refine g_iload dL_law_1234 rfl ?_
      refine g_iconst dL_law_1236 ?_
      refine g_iadd dL_law_1237 ?_
      obtain ⟨o142, w⟩ := w
      refine g_sld dL_law_1238 o142 o4 ?_
      refine g_callVI (n := 1) (As := [aI (h 1000003 (x4 + 1))]) (st := []) dL_law_1239 ml_L_149 sh_0 rfl (al_0 hn) rfl rfl (Nat.le_of_ble_eq_true rfl) (RtI.mono w (fun r49 h49 w => ?_))
      refine g_aload_n dL_law_1242 rfl ?_
      refine g_aload_n dL_law_1243 rfl ?_
      refine g_iload dL_law_1244 rfl ?_
      refine g_iconst dL_law_1246 ?_
      refine g_iadd dL_law_1247 ?_
      obtain ⟨o143, w⟩ := w
      obtain ⟨o144, w⟩ := w
      refine g_sld dL_law_1248 o143 o144 ?_
      refine g_callVI (n := 1) (As := [aI (h49 1000003 (x4 + 1))]) (st := [aI r49]) dL_law_1249 ml_L_152 sh_97 rfl (al_97 hn) rfl rfl (Nat.le_of_ble_eq_true rfl) (RtI.mono w (fun r50 h50 w => ?_))
      obtain ⟨o145, w⟩ := w
      obtain ⟨o146, w⟩ := w
      refine g_cmp_eq (tgt := 1607) dL_law_1252 rfl o145 o146 ?_
      refine ite_imp (fun w => ?_) (fun w => ?_) w
      · refine g_iinc (ls' := [aP 1000003, aP 0, aP 97, aP 143, aI (x4 + 6), aU, aU]) dL_law_1607 rfl (Nat.le_of_ble_eq_true rfl) rfl rfl ?_
        refine g_goto (tgt := 23) dL_law_1610 rfl ?_
        exact g_sub (ls' := [aP 1000003, aP 0, aP 97, aP 143, aI (x4 + 6), aU, aU]) ⟨Or.inr rfl, Or.inr rfl, Or.inr rfl, Or.inr rfl, Or.inr rfl, Or.inl rfl, Or.inl rfl, trivial⟩ w
      · refine g_iconst dL_law_1255 ?_
        exact g_retz dL_law_1256 rfl (Or.inl rfl) w
    by_cases hc29 : (band (h 1000003 x4) 63) = 29
    · have w := w29 hc29
      refine g_tabIn (tgt := 1257) dL_law_40 o5 (by omega) (by omega) (by rw [hc29]; rfl) rfl ?_
      refine g_aload_n dL_law_1257 rfl ?_
      refine g_aload_n dL_law_1258 rfl ?_
      refine g_iload dL_law_1259 rfl ?_
      refine g_iconst dL_law_1261 ?_
      refine g_iadd dL_law_1262 ?_
      obtain ⟨o147, w⟩ := w
      refine g_sld dL_law_1263 o147 o4 ?_
      refine g_aload_n dL_law_1264 rfl ?_
      refine g_iload dL_law_1265 rfl ?_
      refine g_iconst dL_law_1267 ?_
      refine g_iadd dL_law_1268 ?_
      obtain ⟨o148, w⟩ := w
      refine g_sld dL_law_1269 o148 o4 ?_
      refine g_aload_n dL_law_1270 rfl ?_
      refine g_iload dL_law_1271 rfl ?_
      refine g_iconst dL_law_1273 ?_
      refine g_iadd dL_law_1274 ?_
      obtain ⟨o149, w⟩ := w
      refine g_sld dL_law_1275 o149 o4 ?_
      refine g_aload_n dL_law_1276 rfl ?_
      refine g_iload dL_law_1277 rfl ?_
      refine g_iconst dL_law_1279 ?_
      refine g_iadd dL_law_1280 ?_
      obtain ⟨o150, w⟩ := w
      refine g_sld dL_law_1281 o150 o4 ?_
      refine g_callVI (n := 4) (As := [aI (h 1000003 (x4 + 1)), aI (h 1000003 (x4 + 2)), aI (h 1000003 (x4 + 3)), aI (h 1000003 (x4 + 4))]) (st := []) dL_law_1282 ml_L_153 sh_0 rfl (al_0 hn) rfl rfl (Nat.le_of_ble_eq_true rfl) (RtI.mono w (fun r51 h51 w => ?_))
      refine g_aload_n dL_law_1285 rfl ?_
      refine g_aload_n dL_law_1286 rfl ?_
      refine g_iload dL_law_1287 rfl ?_
      refine g_iconst dL_law_1289 ?_
      refine g_iadd dL_law_1290 ?_
      obtain ⟨o151, w⟩ := w
      obtain ⟨o152, w⟩ := w
      refine g_sld dL_law_1291 o151 o152 ?_
      refine g_aload_n dL_law_1292 rfl ?_
      refine g_iload dL_law_1293 rfl ?_
      refine g_iconst dL_law_1295 ?_
      refine g_iadd dL_law_1296 ?_
      obtain ⟨o153, w⟩ := w
      refine g_sld dL_law_1297 o153 o152 ?_
      refine g_aload_n dL_law_1298 rfl ?_
      refine g_iload dL_law_1299 rfl ?_
      refine g_iconst dL_law_1301 ?_
      refine g_iadd dL_law_1302 ?_
      obtain ⟨o154, w⟩ := w
      refine g_sld dL_law_1303 o154 o152 ?_
      refine g_aload_n dL_law_1304 rfl ?_
      refine g_iload dL_law_1305 rfl ?_
      refine g_iconst dL_law_1307 ?_
      refine g_iadd dL_law_1308 ?_
      obtain ⟨o155, w⟩ := w
      refine g_sld dL_law_1309 o155 o152 ?_
      refine g_callVI (n := 4) (As := [aI (h51 1000003 (x4 + 1)), aI (h51 1000003 (x4 + 2)), aI (h51 1000003 (x4 + 3)), aI (h51 1000003 (x4 + 4))]) (st := [aI r51]) dL_law_1310 ml_L_157 sh_97 rfl (al_97 hn) rfl rfl (Nat.le_of_ble_eq_true rfl) (RtI.mono w (fun r52 h52 w => ?_))
      obtain ⟨o156, w⟩ := w
      obtain ⟨o157, w⟩ := w
      refine g_cmp_eq (tgt := 1607) dL_law_1313 rfl o156 o157 ?_
      refine ite_imp (fun w => ?_) (fun w => ?_) w
      · refine g_iinc (ls' := [aP 1000003, aP 0, aP 97, aP 143, aI (x4 + 6), aU, aU]) dL_law_1607 rfl (Nat.le_of_ble_eq_true rfl) rfl rfl ?_
        refine g_goto (tgt := 23) dL_law_1610 rfl ?_
        exact g_sub (ls' := [aP 1000003, aP 0, aP 97, aP 143, aI (x4 + 6), aU, aU]) ⟨Or.inr rfl, Or.inr rfl, Or.inr rfl, Or.inr rfl, Or.inr rfl, Or.inl rfl, Or.inl rfl, trivial⟩ w
      · refine g_iconst dL_law_1316 ?_
        exact g_retz dL_law_1317 rfl (Or.inl rfl) w
    by_cases hc30 : (band (h 1000003 x4) 63) = 30
    · have w := w30 hc30
      refine g_tabIn (tgt := 1318) dL_law_40 o5 (by omega) (by omega) (by rw [hc30]; rfl) rfl ?_
      refine g_aload_n dL_law_1318 rfl ?_
      refine g_aload_n dL_law_1319 rfl ?_
      refine g_iload dL_law_1320 rfl ?_
      refine g_iconst dL_law_1322 ?_
      refine g_iadd dL_law_1323 ?_
      obtain ⟨o158, w⟩ := w
      refine g_sld dL_law_1324 o158 o4 ?_
      refine g_callVI (n := 1) (As := [aI (h 1000003 (x4 + 1))]) (st := []) dL_law_1325 ml_L_158 sh_0 rfl (al_0 hn) rfl rfl (Nat.le_of_ble_eq_true rfl) (RtI.mono w (fun r53 h53 w => ?_))
      refine g_aload_n dL_law_1328 rfl ?_
      refine g_aload_n dL_law_1329 rfl ?_
      refine g_iload dL_law_1330 rfl ?_
      refine g_iconst dL_law_1332 ?_
      refine g_iadd dL_law_1333 ?_
      obtain ⟨o159, w⟩ := w
      obtain ⟨o160, w⟩ := w
      refine g_sld dL_law_1334 o159 o160 ?_
      refine g_callVI (n := 1) (As := [aI (h53 1000003 (x4 + 1))]) (st := [aI r53]) dL_law_1335 ml_L_161 sh_97 rfl (al_97 hn) rfl rfl (Nat.le_of_ble_eq_true rfl) (RtI.mono w (fun r54 h54 w => ?_))
      obtain ⟨o161, w⟩ := w
      obtain ⟨o162, w⟩ := w
      refine g_cmp_eq (tgt := 1607) dL_law_1338 rfl o161 o162 ?_
      refine ite_imp (fun w => ?_) (fun w => ?_) w
      · refine g_iinc (ls' := [aP 1000003, aP 0, aP 97, aP 143, aI (x4 + 6), aU, aU]) dL_law_1607 rfl (Nat.le_of_ble_eq_true rfl) rfl rfl ?_
        refine g_goto (tgt := 23) dL_law_1610 rfl ?_
        exact g_sub (ls' := [aP 1000003, aP 0, aP 97, aP 143, aI (x4 + 6), aU, aU]) ⟨Or.inr rfl, Or.inr rfl, Or.inr rfl, Or.inr rfl, Or.inr rfl, Or.inl rfl, Or.inl rfl, trivial⟩ w
      · refine g_iconst dL_law_1341 ?_
        exact g_retz dL_law_1342 rfl (Or.inl rfl) w
    by_cases hc31 : (band (h 1000003 x4) 63) = 31
    · have w := w31 hc31
      refine g_tabIn (tgt := 1343) dL_law_40 o5 (by omega) (by omega) (by rw [hc31]; rfl) rfl ?_
      refine g_aload_n dL_law_1343 rfl ?_
      refine g_aload_n dL_law_1344 rfl ?_
      refine g_iload dL_law_1345 rfl ?_
      refine g_iconst dL_law_1347 ?_
      refine g_iadd dL_law_1348 ?_
      obtain ⟨o163, w⟩ := w
      refine g_sld dL_law_1349 o163 o4 ?_
      refine g_callVI (n := 1) (As := [aI (h 1000003 (x4 + 1))]) (st := []) dL_law_1350 ml_L_162 sh_0 rfl (al_0 hn) rfl rfl (Nat.le_of_ble_eq_true rfl) (RtI.mono w (fun r55 h55 w => ?_))
      refine g_aload_n dL_law_1353 rfl ?_
      refine g_aload_n dL_law_1354 rfl ?_
      refine g_iload dL_law_1355 rfl ?_
      refine g_iconst dL_law_1357 ?_
      refine g_iadd dL_law_1358 ?_
      obtain ⟨o164, w⟩ := w
      obtain ⟨o165, w⟩ := w
      refine g_sld dL_law_1359 o164 o165 ?_
      refine g_callVI (n := 1) (As := [aI (h55 1000003 (x4 + 1))]) (st := [aI r55]) dL_law_1360 ml_L_165 sh_97 rfl (al_97 hn) rfl rfl (Nat.le_of_ble_eq_true rfl) (RtI.mono w (fun r56 h56 w => ?_))
      obtain ⟨o166, w⟩ := w
      obtain ⟨o167, w⟩ := w
      refine g_cmp_eq (tgt := 1607) dL_law_1363 rfl o166 o167 ?_
      refine ite_imp (fun w => ?_) (fun w => ?_) w
      · refine g_iinc (ls' := [aP 1000003, aP 0, aP 97, aP 143, aI (x4 + 6), aU, aU]) dL_law_1607 rfl (Nat.le_of_ble_eq_true rfl) rfl rfl ?_
        refine g_goto (tgt := 23) dL_law_1610 rfl ?_
        exact g_sub (ls' := [aP 1000003, aP 0, aP 97, aP 143, aI (x4 + 6), aU, aU]) ⟨Or.inr rfl, Or.inr rfl, Or.inr rfl, Or.inr rfl, Or.inr rfl, Or.inl rfl, Or.inl rfl, trivial⟩ w
      · refine g_iconst dL_law_1366 ?_
        exact g_retz dL_law_1367 rfl (Or.inl rfl) w
    by_cases hc32 : (band (h 1000003 x4) 63) = 32
    · have w := w32 hc32
      refine g_tabIn (tgt := 1368) dL_law_40 o5 (by omega) (by omega) (by rw [hc32]; rfl) rfl ?_
      refine g_aload_n dL_law_1368 rfl ?_
      refine g_aload_n dL_law_1369 rfl ?_
      refine g_iload dL_law_1370 rfl ?_
      refine g_iconst dL_law_1372 ?_
      refine g_iadd dL_law_1373 ?_
      obtain ⟨o168, w⟩ := w
      refine g_sld dL_law_1374 o168 o4 ?_
      refine g_callVI (n := 1) (As := [aI (h 1000003 (x4 + 1))]) (st := []) dL_law_1375 ml_L_166 sh_0 rfl (al_0 hn) rfl rfl (Nat.le_of_ble_eq_true rfl) (RtI.mono w (fun r57 h57 w => ?_))
      refine g_aload_n dL_law_1378 rfl ?_
      refine g_aload_n dL_law_1379 rfl ?_
      refine g_iload dL_law_1380 rfl ?_
      refine g_iconst dL_law_1382 ?_
      refine g_iadd dL_law_1383 ?_
      obtain ⟨o169, w⟩ := w
      obtain ⟨o170, w⟩ := w
      refine g_sld dL_law_1384 o169 o170 ?_
      refine g_callVI (n := 1) (As := [aI (h57 1000003 (x4 + 1))]) (st := [aI r57]) dL_law_1385 ml_L_169 sh_97 rfl (al_97 hn) rfl rfl (Nat.le_of_ble_eq_true rfl) (RtI.mono w (fun r58 h58 w => ?_))
      obtain ⟨o171, w⟩ := w
      obtain ⟨o172, w⟩ := w
      refine g_cmp_eq (tgt := 1607) dL_law_1388 rfl o171 o172 ?_
      refine ite_imp (fun w => ?_) (fun w => ?_) w
      · refine g_iinc (ls' := [aP 1000003, aP 0, aP 97, aP 143, aI (x4 + 6), aU, aU]) dL_law_1607 rfl (Nat.le_of_ble_eq_true rfl) rfl rfl ?_
        refine g_goto (tgt := 23) dL_law_1610 rfl ?_
        exact g_sub (ls' := [aP 1000003, aP 0, aP 97, aP 143, aI (x4 + 6), aU, aU]) ⟨Or.inr rfl, Or.inr rfl, Or.inr rfl, Or.inr rfl, Or.inr rfl, Or.inl rfl, Or.inl rfl, trivial⟩ w
      · refine g_iconst dL_law_1391 ?_
        exact g_retz dL_law_1392 rfl (Or.inl rfl) w
    by_cases hc33 : (band (h 1000003 x4) 63) = 33
    · have w := w33 hc33
      refine g_tabIn (tgt := 1393) dL_law_40 o5 (by omega) (by omega) (by rw [hc33]; rfl) rfl ?_
      refine g_aload_n dL_law_1393 rfl ?_
      refine g_callVI (n := 0) (As := []) (st := []) dL_law_1394 ml_L_170 sh_0 rfl (al_0 hn) rfl rfl (Nat.le_of_ble_eq_true rfl) (RtI.mono w (fun r59 h59 w => ?_))
      refine g_aload_n dL_law_1397 rfl ?_
      refine g_callVI (n := 0) (As := []) (st := [aI r59]) dL_law_1398 ml_L_173 sh_97 rfl (al_97 hn) rfl rfl (Nat.le_of_ble_eq_true rfl) (RtI.mono w (fun r60 h60 w => ?_))
      obtain ⟨o173, w⟩ := w
      obtain ⟨o174, w⟩ := w
      refine g_cmp_eq (tgt := 1607) dL_law_1401 rfl o173 o174 ?_
      refine ite_imp (fun w => ?_) (fun w => ?_) w
      · refine g_iinc (ls' := [aP 1000003, aP 0, aP 97, aP 143, aI (x4 + 6), aU, aU]) dL_law_1607 rfl (Nat.le_of_ble_eq_true rfl) rfl rfl ?_
        refine g_goto (tgt := 23) dL_law_1610 rfl ?_
        exact g_sub (ls' := [aP 1000003, aP 0, aP 97, aP 143, aI (x4 + 6), aU, aU]) ⟨Or.inr rfl, Or.inr rfl, Or.inr rfl, Or.inr rfl, Or.inr rfl, Or.inl rfl, Or.inl rfl, trivial⟩ w
      · refine g_iconst dL_law_1404 ?_
        exact g_retz dL_law_1405 rfl (Or.inl rfl) w
    by_cases hc34 : (band (h 1000003 x4) 63) = 34
    · have w := w34 hc34
      refine g_tabIn (tgt := 1406) dL_law_40 o5 (by omega) (by omega) (by rw [hc34]; rfl) rfl ?_
      refine g_aload_n dL_law_1406 rfl ?_
      refine g_aload_n dL_law_1407 rfl ?_
      refine g_iload dL_law_1408 rfl ?_
      refine g_iconst dL_law_1410 ?_
      refine g_iadd dL_law_1411 ?_
      obtain ⟨o175, w⟩ := w
      refine g_sld dL_law_1412 o175 o4 ?_
      refine g_callVI (n := 1) (As := [aI (h 1000003 (x4 + 1))]) (st := []) dL_law_1413 ml_L_174 sh_0 rfl (al_0 hn) rfl rfl (Nat.le_of_ble_eq_true rfl) (RtI.mono w (fun r61 h61 w => ?_))
      refine g_aload_n dL_law_1416 rfl ?_
      refine g_aload_n dL_law_1417 rfl ?_
      refine g_iload dL_law_1418 rfl ?_
      refine g_iconst dL_law_1420 ?_
      refine g_iadd dL_law_1421 ?_
      obtain ⟨o176, w⟩ := w
      obtain ⟨o177, w⟩ := w
      refine g_sld dL_law_1422 o176 o177 ?_
      refine g_callVI (n := 1) (As := [aI (h61 1000003 (x4 + 1))]) (st := [aI r61]) dL_law_1423 ml_L_177 sh_97 rfl (al_97 hn) rfl rfl (Nat.le_of_ble_eq_true rfl) (RtI.mono w (fun r62 h62 w => ?_))
      obtain ⟨o178, w⟩ := w
      obtain ⟨o179, w⟩ := w
      refine g_cmp_eq (tgt := 1607) dL_law_1426 rfl o178 o179 ?_
      refine ite_imp (fun w => ?_) (fun w => ?_) w
      · refine g_iinc (ls' := [aP 1000003, aP 0, aP 97, aP 143, aI (x4 + 6), aU, aU]) dL_law_1607 rfl (Nat.le_of_ble_eq_true rfl) rfl rfl ?_
        refine g_goto (tgt := 23) dL_law_1610 rfl ?_
        exact g_sub (ls' := [aP 1000003, aP 0, aP 97, aP 143, aI (x4 + 6), aU, aU]) ⟨Or.inr rfl, Or.inr rfl, Or.inr rfl, Or.inr rfl, Or.inr rfl, Or.inl rfl, Or.inl rfl, trivial⟩ w
      · refine g_iconst dL_law_1429 ?_
        exact g_retz dL_law_1430 rfl (Or.inl rfl) w
    by_cases hc35 : (band (h 1000003 x4) 63) = 35
    · have w := w35 hc35
      refine g_tabIn (tgt := 1431) dL_law_40 o5 (by omega) (by omega) (by rw [hc35]; rfl) rfl ?_
      refine g_aload_n dL_law_1431 rfl ?_
      refine g_aload_n dL_law_1432 rfl ?_
      refine g_iload dL_law_1433 rfl ?_
      refine g_iconst dL_law_1435 ?_
      refine g_iadd dL_law_1436 ?_
      obtain ⟨o180, w⟩ := w
      refine g_sld dL_law_1437 o180 o4 ?_
      refine g_aload_n dL_law_1438 rfl ?_
      refine g_iload dL_law_1439 rfl ?_
      refine g_iconst dL_law_1441 ?_
      refine g_iadd dL_law_1442 ?_
      obtain ⟨o181, w⟩ := w
      refine g_sld dL_law_1443 o181 o4 ?_
      refine g_callVI (n := 2) (As := [aI (h 1000003 (x4 + 1)), aI (h 1000003 (x4 + 2))]) (st := []) dL_law_1444 ml_L_178 sh_0 rfl (al_0 hn) rfl rfl (Nat.le_of_ble_eq_true rfl) (RtI.mono w (fun r63 h63 w => ?_))
      refine g_aload_n dL_law_1447 rfl ?_
      refine g_aload_n dL_law_1448 rfl ?_
      refine g_iload dL_law_1449 rfl ?_
      refine g_iconst dL_law_1451 ?_
      refine g_iadd dL_law_1452 ?_
      obtain ⟨o182, w⟩ := w
      obtain ⟨o183, w⟩ := w
      refine g_sld dL_law_1453 o182 o183 ?_
      refine g_aload_n dL_law_1454 rfl ?_
      refine g_iload dL_law_1455 rfl ?_
      refine g_iconst dL_law_1457 ?_
      refine g_iadd dL_law_1458 ?_
      obtain ⟨o184, w⟩ := w
      refine g_sld dL_law_1459 o184 o183 ?_
      refine g_callVI (n := 2) (As := [aI (h63 1000003 (x4 + 1)), aI (h63 1000003 (x4 + 2))]) (st := [aI r63]) dL_law_1460 ml_L_181 sh_97 rfl (al_97 hn) rfl rfl (Nat.le_of_ble_eq_true rfl) (RtI.mono w (fun r64 h64 w => ?_))
      obtain ⟨o185, w⟩ := w
      obtain ⟨o186, w⟩ := w
      refine g_cmp_eq (tgt := 1607) dL_law_1463 rfl o185 o186 ?_
      refine ite_imp (fun w => ?_) (fun w => ?_) w
      · refine g_iinc (ls' := [aP 1000003, aP 0, aP 97, aP 143, aI (x4 + 6), aU, aU]) dL_law_1607 rfl (Nat.le_of_ble_eq_true rfl) rfl rfl ?_
        refine g_goto (tgt := 23) dL_law_1610 rfl ?_
        exact g_sub (ls' := [aP 1000003, aP 0, aP 97, aP 143, aI (x4 + 6), aU, aU]) ⟨Or.inr rfl, Or.inr rfl, Or.inr rfl, Or.inr rfl, Or.inr rfl, Or.inl rfl, Or.inl rfl, trivial⟩ w
      · refine g_iconst dL_law_1466 ?_
        exact g_retz dL_law_1467 rfl (Or.inl rfl) w
    by_cases hc36 : (band (h 1000003 x4) 63) = 36
    · have w := w36 hc36
      refine g_tabIn (tgt := 1468) dL_law_40 o5 (by omega) (by omega) (by rw [hc36]; rfl) rfl ?_
      exact g_sub (ls' := [aP 1000003, aP 0, aP 97, aP 143, aI x4, aU, aU]) ⟨Or.inr rfl, Or.inr rfl, Or.inr rfl, Or.inr rfl, Or.inr rfl, Or.inl rfl, Or.inl rfl, trivial⟩ w
    by_cases hc37 : (band (h 1000003 x4) 63) = 37
    · have w := w37 hc37
      refine g_tabIn (tgt := 1481) dL_law_40 o5 (by omega) (by omega) (by rw [hc37]; rfl) rfl ?_
      refine g_aload_n dL_law_1481 rfl ?_
      refine g_callVI (n := 0) (As := []) (st := []) dL_law_1482 ml_L_186 sh_0 rfl (al_0 hn) rfl rfl (Nat.le_of_ble_eq_true rfl) (RtI.mono w (fun r65 h65 w => ?_))
      refine g_aload_n dL_law_1485 rfl ?_
      refine g_callVI (n := 0) (As := []) (st := [aI r65]) dL_law_1486 ml_L_189 sh_97 rfl (al_97 hn) rfl rfl (Nat.le_of_ble_eq_true rfl) (RtI.mono w (fun r66 h66 w => ?_))
      obtain ⟨o187, w⟩ := w
      obtain ⟨o188, w⟩ := w
      refine g_cmp_eq (tgt := 1607) dL_law_1489 rfl o187 o188 ?_
      refine ite_imp (fun w => ?_) (fun w => ?_) w
      · refine g_iinc (ls' := [aP 1000003, aP 0, aP 97, aP 143, aI (x4 + 6), aU, aU]) dL_law_1607 rfl (Nat.le_of_ble_eq_true rfl) rfl rfl ?_
        refine g_goto (tgt := 23) dL_law_1610 rfl ?_
        exact g_sub (ls' := [aP 1000003, aP 0, aP 97, aP 143, aI (x4 + 6), aU, aU]) ⟨Or.inr rfl, Or.inr rfl, Or.inr rfl, Or.inr rfl, Or.inr rfl, Or.inl rfl, Or.inl rfl, trivial⟩ w
      · refine g_iconst dL_law_1492 ?_
        exact g_retz dL_law_1493 rfl (Or.inl rfl) w
    by_cases hc38 : (band (h 1000003 x4) 63) = 38
    · have w := w38 hc38
      refine g_tabIn (tgt := 1494) dL_law_40 o5 (by omega) (by omega) (by rw [hc38]; rfl) rfl ?_
      refine g_aload_n dL_law_1494 rfl ?_
      refine g_aload_n dL_law_1495 rfl ?_
      refine g_iload dL_law_1496 rfl ?_
      refine g_iconst dL_law_1498 ?_
      refine g_iadd dL_law_1499 ?_
      obtain ⟨o189, w⟩ := w
      refine g_sld dL_law_1500 o189 o4 ?_
      refine g_callVI (n := 1) (As := [aI (h 1000003 (x4 + 1))]) (st := []) dL_law_1501 ml_L_190 sh_0 rfl (al_0 hn) rfl rfl (Nat.le_of_ble_eq_true rfl) (RtI.mono w (fun r67 h67 w => ?_))
      refine g_aload_n dL_law_1504 rfl ?_
      refine g_aload_n dL_law_1505 rfl ?_
      refine g_iload dL_law_1506 rfl ?_
      refine g_iconst dL_law_1508 ?_
      refine g_iadd dL_law_1509 ?_
      obtain ⟨o190, w⟩ := w
      obtain ⟨o191, w⟩ := w
      refine g_sld dL_law_1510 o190 o191 ?_
      refine g_callVI (n := 1) (As := [aI (h67 1000003 (x4 + 1))]) (st := [aI r67]) dL_law_1511 ml_L_193 sh_97 rfl (al_97 hn) rfl rfl (Nat.le_of_ble_eq_true rfl) (RtI.mono w (fun r68 h68 w => ?_))
      obtain ⟨o192, w⟩ := w
      obtain ⟨o193, w⟩ := w
      refine g_cmp_eq (tgt := 1607) dL_law_1514 rfl o192 o193 ?_
      refine ite_imp (fun w => ?_) (fun w => ?_) w
      · refine g_iinc (ls' := [aP 1000003, aP 0, aP 97, aP 143, aI (x4 + 6), aU, aU]) dL_law_1607 rfl (Nat.le_of_ble_eq_true rfl) rfl rfl ?_
        refine g_goto (tgt := 23) dL_law_1610 rfl ?_
        exact g_sub (ls' := [aP 1000003, aP 0, aP 97, aP 143, aI (x4 + 6), aU, aU]) ⟨Or.inr rfl, Or.inr rfl, Or.inr rfl, Or.inr rfl, Or.inr rfl, Or.inl rfl, Or.inl rfl, trivial⟩ w
      · refine g_iconst dL_law_1517 ?_
        exact g_retz dL_law_1518 rfl (Or.inl rfl) w
    by_cases hc39 : (band (h 1000003 x4) 63) = 39
    · have w := w39 hc39
      refine g_tabIn (tgt := 1519) dL_law_40 o5 (by omega) (by omega) (by rw [hc39]; rfl) rfl ?_
      refine g_aload_n dL_law_1519 rfl ?_
      refine g_callVI (n := 0) (As := []) (st := []) dL_law_1520 ml_L_194 sh_0 rfl (al_0 hn) rfl rfl (Nat.le_of_ble_eq_true rfl) (RtI.mono w (fun r69 h69 w => ?_))
      refine g_aload_n dL_law_1523 rfl ?_
      refine g_callVI (n := 0) (As := []) (st := [aI r69]) dL_law_1524 ml_L_197 sh_97 rfl (al_97 hn) rfl rfl (Nat.le_of_ble_eq_true rfl) (RtI.mono w (fun r70 h70 w => ?_))
      obtain ⟨o194, w⟩ := w
      obtain ⟨o195, w⟩ := w
      refine g_cmp_eq (tgt := 1607) dL_law_1527 rfl o194 o195 ?_
      refine ite_imp (fun w => ?_) (fun w => ?_) w
      · refine g_iinc (ls' := [aP 1000003, aP 0, aP 97, aP 143, aI (x4 + 6), aU, aU]) dL_law_1607 rfl (Nat.le_of_ble_eq_true rfl) rfl rfl ?_
        refine g_goto (tgt := 23) dL_law_1610 rfl ?_
        exact g_sub (ls' := [aP 1000003, aP 0, aP 97, aP 143, aI (x4 + 6), aU, aU]) ⟨Or.inr rfl, Or.inr rfl, Or.inr rfl, Or.inr rfl, Or.inr rfl, Or.inl rfl, Or.inl rfl, trivial⟩ w
      · refine g_iconst dL_law_1530 ?_
        exact g_retz dL_law_1531 rfl (Or.inl rfl) w
    by_cases hc40 : (band (h 1000003 x4) 63) = 40
    · have w := w40 hc40
      refine g_tabIn (tgt := 1532) dL_law_40 o5 (by omega) (by omega) (by rw [hc40]; rfl) rfl ?_
      exact g_sub (ls' := [aP 1000003, aP 0, aP 97, aP 143, aI x4, aU, aU]) ⟨Or.inr rfl, Or.inr rfl, Or.inr rfl, Or.inr rfl, Or.inr rfl, Or.inl rfl, Or.inl rfl, trivial⟩ w
    by_cases hc41 : (band (h 1000003 x4) 63) = 41
    · have w := w41 hc41
      refine g_tabIn (tgt := 1557) dL_law_40 o5 (by omega) (by omega) (by rw [hc41]; rfl) rfl ?_
      refine g_aload_n dL_law_1557 rfl ?_
      refine g_aload_n dL_law_1558 rfl ?_
      refine g_iload dL_law_1559 rfl ?_
      refine g_iconst dL_law_1561 ?_
      refine g_iadd dL_law_1562 ?_
      obtain ⟨o196, w⟩ := w
      refine g_sld dL_law_1563 o196 o4 ?_
      refine g_callVI (n := 1) (As := [aI (h 1000003 (x4 + 1))]) (st := []) dL_law_1564 ml_L_202 sh_0 rfl (al_0 hn) rfl rfl (Nat.le_of_ble_eq_true rfl) (RtI.mono w (fun r71 h71 w => ?_))
      refine g_aload_n dL_law_1567 rfl ?_
      refine g_aload_n dL_law_1568 rfl ?_
      refine g_iload dL_law_1569 rfl ?_
      refine g_iconst dL_law_1571 ?_
      refine g_iadd dL_law_1572 ?_
      obtain ⟨o197, w⟩ := w
      obtain ⟨o198, w⟩ := w
      refine g_sld dL_law_1573 o197 o198 ?_
      refine g_callVI (n := 1) (As := [aI (h71 1000003 (x4 + 1))]) (st := [aI r71]) dL_law_1574 ml_L_205 sh_97 rfl (al_97 hn) rfl rfl (Nat.le_of_ble_eq_true rfl) (RtI.mono w (fun r72 h72 w => ?_))
      obtain ⟨o199, w⟩ := w
      obtain ⟨o200, w⟩ := w
      refine g_cmp_eq (tgt := 1607) dL_law_1577 rfl o199 o200 ?_
      refine ite_imp (fun w => ?_) (fun w => ?_) w
      · refine g_iinc (ls' := [aP 1000003, aP 0, aP 97, aP 143, aI (x4 + 6), aU, aU]) dL_law_1607 rfl (Nat.le_of_ble_eq_true rfl) rfl rfl ?_
        refine g_goto (tgt := 23) dL_law_1610 rfl ?_
        exact g_sub (ls' := [aP 1000003, aP 0, aP 97, aP 143, aI (x4 + 6), aU, aU]) ⟨Or.inr rfl, Or.inr rfl, Or.inr rfl, Or.inr rfl, Or.inr rfl, Or.inl rfl, Or.inl rfl, trivial⟩ w
      · refine g_iconst dL_law_1580 ?_
        exact g_retz dL_law_1581 rfl (Or.inl rfl) w
    by_cases hc42 : (band (h 1000003 x4) 63) = 42
    · have w := w42 hc42
      refine g_tabIn (tgt := 1582) dL_law_40 o5 (by omega) (by omega) (by rw [hc42]; rfl) rfl ?_
      refine g_aload_n dL_law_1582 rfl ?_
      refine g_aload_n dL_law_1583 rfl ?_
      refine g_iload dL_law_1584 rfl ?_
      refine g_iconst dL_law_1586 ?_
      refine g_iadd dL_law_1587 ?_
      obtain ⟨o201, w⟩ := w
      refine g_sld dL_law_1588 o201 o4 ?_
      refine g_callVI (n := 1) (As := [aI (h 1000003 (x4 + 1))]) (st := []) dL_law_1589 ml_L_206 sh_0 rfl (al_0 hn) rfl rfl (Nat.le_of_ble_eq_true rfl) (RtI.mono w (fun r73 h73 w => ?_))
      refine g_aload_n dL_law_1592 rfl ?_
      refine g_aload_n dL_law_1593 rfl ?_
      refine g_iload dL_law_1594 rfl ?_
      refine g_iconst dL_law_1596 ?_
      refine g_iadd dL_law_1597 ?_
      obtain ⟨o202, w⟩ := w
      obtain ⟨o203, w⟩ := w
      refine g_sld dL_law_1598 o202 o203 ?_
      refine g_callVI (n := 1) (As := [aI (h73 1000003 (x4 + 1))]) (st := [aI r73]) dL_law_1599 ml_L_209 sh_97 rfl (al_97 hn) rfl rfl (Nat.le_of_ble_eq_true rfl) (RtI.mono w (fun r74 h74 w => ?_))
      obtain ⟨o204, w⟩ := w
      obtain ⟨o205, w⟩ := w
      refine g_cmp_eq (tgt := 1607) dL_law_1602 rfl o204 o205 ?_
      refine ite_imp (fun w => ?_) (fun w => ?_) w
      · refine g_iinc (ls' := [aP 1000003, aP 0, aP 97, aP 143, aI (x4 + 6), aU, aU]) dL_law_1607 rfl (Nat.le_of_ble_eq_true rfl) rfl rfl ?_
        refine g_goto (tgt := 23) dL_law_1610 rfl ?_
        exact g_sub (ls' := [aP 1000003, aP 0, aP 97, aP 143, aI (x4 + 6), aU, aU]) ⟨Or.inr rfl, Or.inr rfl, Or.inr rfl, Or.inr rfl, Or.inr rfl, Or.inl rfl, Or.inl rfl, trivial⟩ w
      · refine g_iconst dL_law_1605 ?_
        exact g_retz dL_law_1606 rfl (Or.inl rfl) w
    omega
