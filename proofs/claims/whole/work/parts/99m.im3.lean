/-! image: the constructor of a stock over the references of the main phase (written by wip/whole/gen_img.py) -/
def EV144 : List (Nat × Nat × Nat × Nat) := [(0, 0, 0, 0), (0, 0, 0, 0), (0, 0, 0, 0), (1, 145, 0, 146), (0, 0, 0, 0), (1, 145, 1, 147), (0, 0, 0, 0), (1, 145, 2, 148), (1, 144, 0, 145), (0, 0, 0, 0), (0, 0, 0, 0), (1, 149, 0, 150), (1, 144, 1, 149), (0, 0, 0, 0), (0, 0, 0, 0), (1, 151, 1, 152), (0, 0, 0, 0), (1, 151, 2, 153), (0, 0, 0, 0), (1, 151, 3, 154), (0, 0, 0, 0), (1, 151, 4, 155), (0, 0, 0, 0), (1, 151, 5, 156), (0, 0, 0, 0), (1, 151, 6, 157), (0, 0, 0, 0), (1, 151, 8, 158), (0, 0, 0, 0), (1, 151, 9, 159), (0, 0, 0, 0), (1, 151, 10, 160), (0, 0, 0, 0), (1, 151, 11, 161), (0, 0, 0, 0), (1, 151, 13, 162), (1, 144, 2, 151), (0, 0, 0, 0), (1, 144, 4, 163), (0, 0, 0, 0), (1, 144, 6, 164), (0, 0, 0, 0), (1, 144, 7, 165), (0, 0, 0, 0), (1, 144, 8, 166), (0, 0, 0, 0), (1, 144, 9, 167), (0, 0, 0, 0), (1, 144, 11, 168), (0, 0, 0, 0), (1, 144, 12, 169), (0, 0, 0, 0), (1, 144, 13, 170), (0, 0, 0, 0), (1, 144, 14, 171), (0, 0, 0, 0), (1, 144, 15, 172), (0, 0, 0, 0), (1, 144, 16, 173)]
def zi144 (ζ : ZP) (t : Nat) : ZR := zev ((zz ζ).1, 144) EV144 t
theorem zb_zi144 {ζ : ZP} (hz : zb ((zz ζ).1, 144)) (t : Nat) : zb (zi144 ζ t) := zb_zev hz (show evok EV144 144 = true by decide +kernel) t
theorem zi144_a {ζ : ZP} (t t2 : Nat) (ht : t2 = t + 1) (h : EV144[t]? = some (0, 0, 0, 0)) : zi144 ζ t2 = (rz (zi144 ζ t).1 (zi144 ζ t).2, (zi144 ζ t).2 + 1) := by
  subst ht
  unfold zi144
  show (match EV144[t]? with | some e => zstep (zev _ EV144 t) e | none => zev _ EV144 t) = _
  rw [h]
  rfl
theorem zi144_p {ζ : ZP} (t t2 a j v : Nat) (ht : t2 = t + 1) (h : EV144[t]? = some (1, a, j, v)) : zi144 ζ t2 = (ru (zi144 ζ t).1 a j (some v), (zi144 ζ t).2) := by
  subst ht
  unfold zi144
  show (match EV144[t]? with | some e => zstep (zev _ EV144 t) e | none => zev _ EV144 t) = _
  rw [h]
  rfl
theorem zn_zi144_0 {ζ : ZP} : (zi144 ζ 0).2 = 144 := rfl
theorem zi144_1 {ζ : ZP} : zi144 ζ 1 = (rz (zi144 ζ 0).1 (zi144 ζ 0).2, (zi144 ζ 0).2 + 1) := zi144_a 0 1 (by decide) (by decide +kernel)
theorem zn_zi144_1 {ζ : ZP} : (zi144 ζ 1).2 = 145 := zn_a zi144_1 zn_zi144_0 (by decide)
theorem zi144_2 {ζ : ZP} : zi144 ζ 2 = (rz (zi144 ζ 1).1 (zi144 ζ 1).2, (zi144 ζ 1).2 + 1) := zi144_a 1 2 (by decide) (by decide +kernel)
theorem zn_zi144_2 {ζ : ZP} : (zi144 ζ 2).2 = 146 := zn_a zi144_2 zn_zi144_1 (by decide)
theorem zi144_3 {ζ : ZP} : zi144 ζ 3 = (rz (zi144 ζ 2).1 (zi144 ζ 2).2, (zi144 ζ 2).2 + 1) := zi144_a 2 3 (by decide) (by decide +kernel)
theorem zn_zi144_3 {ζ : ZP} : (zi144 ζ 3).2 = 147 := zn_a zi144_3 zn_zi144_2 (by decide)
theorem zi144_4 {ζ : ZP} : zi144 ζ 4 = (ru (zi144 ζ 3).1 145 0 (some 146), (zi144 ζ 3).2) := zi144_p 3 4 145 0 146 (by decide) (by decide +kernel)
theorem zn_zi144_4 {ζ : ZP} : (zi144 ζ 4).2 = 147 := zn_p zi144_4 zn_zi144_3
theorem zi144_5 {ζ : ZP} : zi144 ζ 5 = (rz (zi144 ζ 4).1 (zi144 ζ 4).2, (zi144 ζ 4).2 + 1) := zi144_a 4 5 (by decide) (by decide +kernel)
theorem zn_zi144_5 {ζ : ZP} : (zi144 ζ 5).2 = 148 := zn_a zi144_5 zn_zi144_4 (by decide)
theorem zi144_6 {ζ : ZP} : zi144 ζ 6 = (ru (zi144 ζ 5).1 145 1 (some 147), (zi144 ζ 5).2) := zi144_p 5 6 145 1 147 (by decide) (by decide +kernel)
theorem zn_zi144_6 {ζ : ZP} : (zi144 ζ 6).2 = 148 := zn_p zi144_6 zn_zi144_5
theorem zi144_7 {ζ : ZP} : zi144 ζ 7 = (rz (zi144 ζ 6).1 (zi144 ζ 6).2, (zi144 ζ 6).2 + 1) := zi144_a 6 7 (by decide) (by decide +kernel)
theorem zn_zi144_7 {ζ : ZP} : (zi144 ζ 7).2 = 149 := zn_a zi144_7 zn_zi144_6 (by decide)
theorem zi144_8 {ζ : ZP} : zi144 ζ 8 = (ru (zi144 ζ 7).1 145 2 (some 148), (zi144 ζ 7).2) := zi144_p 7 8 145 2 148 (by decide) (by decide +kernel)
theorem zn_zi144_8 {ζ : ZP} : (zi144 ζ 8).2 = 149 := zn_p zi144_8 zn_zi144_7
theorem zi144_9 {ζ : ZP} : zi144 ζ 9 = (ru (zi144 ζ 8).1 144 0 (some 145), (zi144 ζ 8).2) := zi144_p 8 9 144 0 145 (by decide) (by decide +kernel)
theorem zn_zi144_9 {ζ : ZP} : (zi144 ζ 9).2 = 149 := zn_p zi144_9 zn_zi144_8
theorem zi144_10 {ζ : ZP} : zi144 ζ 10 = (rz (zi144 ζ 9).1 (zi144 ζ 9).2, (zi144 ζ 9).2 + 1) := zi144_a 9 10 (by decide) (by decide +kernel)
theorem zn_zi144_10 {ζ : ZP} : (zi144 ζ 10).2 = 150 := zn_a zi144_10 zn_zi144_9 (by decide)
theorem zi144_11 {ζ : ZP} : zi144 ζ 11 = (rz (zi144 ζ 10).1 (zi144 ζ 10).2, (zi144 ζ 10).2 + 1) := zi144_a 10 11 (by decide) (by decide +kernel)
theorem zn_zi144_11 {ζ : ZP} : (zi144 ζ 11).2 = 151 := zn_a zi144_11 zn_zi144_10 (by decide)
theorem zi144_12 {ζ : ZP} : zi144 ζ 12 = (ru (zi144 ζ 11).1 149 0 (some 150), (zi144 ζ 11).2) := zi144_p 11 12 149 0 150 (by decide) (by decide +kernel)
theorem zn_zi144_12 {ζ : ZP} : (zi144 ζ 12).2 = 151 := zn_p zi144_12 zn_zi144_11
theorem zi144_13 {ζ : ZP} : zi144 ζ 13 = (ru (zi144 ζ 12).1 144 1 (some 149), (zi144 ζ 12).2) := zi144_p 12 13 144 1 149 (by decide) (by decide +kernel)
theorem zn_zi144_13 {ζ : ZP} : (zi144 ζ 13).2 = 151 := zn_p zi144_13 zn_zi144_12
theorem zi144_14 {ζ : ZP} : zi144 ζ 14 = (rz (zi144 ζ 13).1 (zi144 ζ 13).2, (zi144 ζ 13).2 + 1) := zi144_a 13 14 (by decide) (by decide +kernel)
theorem zn_zi144_14 {ζ : ZP} : (zi144 ζ 14).2 = 152 := zn_a zi144_14 zn_zi144_13 (by decide)
theorem zi144_15 {ζ : ZP} : zi144 ζ 15 = (rz (zi144 ζ 14).1 (zi144 ζ 14).2, (zi144 ζ 14).2 + 1) := zi144_a 14 15 (by decide) (by decide +kernel)
theorem zn_zi144_15 {ζ : ZP} : (zi144 ζ 15).2 = 153 := zn_a zi144_15 zn_zi144_14 (by decide)
theorem zi144_16 {ζ : ZP} : zi144 ζ 16 = (ru (zi144 ζ 15).1 151 1 (some 152), (zi144 ζ 15).2) := zi144_p 15 16 151 1 152 (by decide) (by decide +kernel)
theorem zn_zi144_16 {ζ : ZP} : (zi144 ζ 16).2 = 153 := zn_p zi144_16 zn_zi144_15
theorem zi144_17 {ζ : ZP} : zi144 ζ 17 = (rz (zi144 ζ 16).1 (zi144 ζ 16).2, (zi144 ζ 16).2 + 1) := zi144_a 16 17 (by decide) (by decide +kernel)
theorem zn_zi144_17 {ζ : ZP} : (zi144 ζ 17).2 = 154 := zn_a zi144_17 zn_zi144_16 (by decide)
theorem zi144_18 {ζ : ZP} : zi144 ζ 18 = (ru (zi144 ζ 17).1 151 2 (some 153), (zi144 ζ 17).2) := zi144_p 17 18 151 2 153 (by decide) (by decide +kernel)
theorem zn_zi144_18 {ζ : ZP} : (zi144 ζ 18).2 = 154 := zn_p zi144_18 zn_zi144_17
theorem zi144_19 {ζ : ZP} : zi144 ζ 19 = (rz (zi144 ζ 18).1 (zi144 ζ 18).2, (zi144 ζ 18).2 + 1) := zi144_a 18 19 (by decide) (by decide +kernel)
theorem zn_zi144_19 {ζ : ZP} : (zi144 ζ 19).2 = 155 := zn_a zi144_19 zn_zi144_18 (by decide)
theorem zi144_20 {ζ : ZP} : zi144 ζ 20 = (ru (zi144 ζ 19).1 151 3 (some 154), (zi144 ζ 19).2) := zi144_p 19 20 151 3 154 (by decide) (by decide +kernel)
theorem zn_zi144_20 {ζ : ZP} : (zi144 ζ 20).2 = 155 := zn_p zi144_20 zn_zi144_19
theorem zi144_21 {ζ : ZP} : zi144 ζ 21 = (rz (zi144 ζ 20).1 (zi144 ζ 20).2, (zi144 ζ 20).2 + 1) := zi144_a 20 21 (by decide) (by decide +kernel)
theorem zn_zi144_21 {ζ : ZP} : (zi144 ζ 21).2 = 156 := zn_a zi144_21 zn_zi144_20 (by decide)
theorem zi144_22 {ζ : ZP} : zi144 ζ 22 = (ru (zi144 ζ 21).1 151 4 (some 155), (zi144 ζ 21).2) := zi144_p 21 22 151 4 155 (by decide) (by decide +kernel)
theorem zn_zi144_22 {ζ : ZP} : (zi144 ζ 22).2 = 156 := zn_p zi144_22 zn_zi144_21
theorem zi144_23 {ζ : ZP} : zi144 ζ 23 = (rz (zi144 ζ 22).1 (zi144 ζ 22).2, (zi144 ζ 22).2 + 1) := zi144_a 22 23 (by decide) (by decide +kernel)
theorem zn_zi144_23 {ζ : ZP} : (zi144 ζ 23).2 = 157 := zn_a zi144_23 zn_zi144_22 (by decide)
theorem zi144_24 {ζ : ZP} : zi144 ζ 24 = (ru (zi144 ζ 23).1 151 5 (some 156), (zi144 ζ 23).2) := zi144_p 23 24 151 5 156 (by decide) (by decide +kernel)
theorem zn_zi144_24 {ζ : ZP} : (zi144 ζ 24).2 = 157 := zn_p zi144_24 zn_zi144_23
theorem zi144_25 {ζ : ZP} : zi144 ζ 25 = (rz (zi144 ζ 24).1 (zi144 ζ 24).2, (zi144 ζ 24).2 + 1) := zi144_a 24 25 (by decide) (by decide +kernel)
theorem zn_zi144_25 {ζ : ZP} : (zi144 ζ 25).2 = 158 := zn_a zi144_25 zn_zi144_24 (by decide)
theorem zi144_26 {ζ : ZP} : zi144 ζ 26 = (ru (zi144 ζ 25).1 151 6 (some 157), (zi144 ζ 25).2) := zi144_p 25 26 151 6 157 (by decide) (by decide +kernel)
theorem zn_zi144_26 {ζ : ZP} : (zi144 ζ 26).2 = 158 := zn_p zi144_26 zn_zi144_25
theorem zi144_27 {ζ : ZP} : zi144 ζ 27 = (rz (zi144 ζ 26).1 (zi144 ζ 26).2, (zi144 ζ 26).2 + 1) := zi144_a 26 27 (by decide) (by decide +kernel)
theorem zn_zi144_27 {ζ : ZP} : (zi144 ζ 27).2 = 159 := zn_a zi144_27 zn_zi144_26 (by decide)
theorem zi144_28 {ζ : ZP} : zi144 ζ 28 = (ru (zi144 ζ 27).1 151 8 (some 158), (zi144 ζ 27).2) := zi144_p 27 28 151 8 158 (by decide) (by decide +kernel)
theorem zn_zi144_28 {ζ : ZP} : (zi144 ζ 28).2 = 159 := zn_p zi144_28 zn_zi144_27
theorem zi144_29 {ζ : ZP} : zi144 ζ 29 = (rz (zi144 ζ 28).1 (zi144 ζ 28).2, (zi144 ζ 28).2 + 1) := zi144_a 28 29 (by decide) (by decide +kernel)
theorem zn_zi144_29 {ζ : ZP} : (zi144 ζ 29).2 = 160 := zn_a zi144_29 zn_zi144_28 (by decide)
theorem zi144_30 {ζ : ZP} : zi144 ζ 30 = (ru (zi144 ζ 29).1 151 9 (some 159), (zi144 ζ 29).2) := zi144_p 29 30 151 9 159 (by decide) (by decide +kernel)
theorem zn_zi144_30 {ζ : ZP} : (zi144 ζ 30).2 = 160 := zn_p zi144_30 zn_zi144_29
theorem zi144_31 {ζ : ZP} : zi144 ζ 31 = (rz (zi144 ζ 30).1 (zi144 ζ 30).2, (zi144 ζ 30).2 + 1) := zi144_a 30 31 (by decide) (by decide +kernel)
theorem zn_zi144_31 {ζ : ZP} : (zi144 ζ 31).2 = 161 := zn_a zi144_31 zn_zi144_30 (by decide)
theorem zi144_32 {ζ : ZP} : zi144 ζ 32 = (ru (zi144 ζ 31).1 151 10 (some 160), (zi144 ζ 31).2) := zi144_p 31 32 151 10 160 (by decide) (by decide +kernel)
theorem zn_zi144_32 {ζ : ZP} : (zi144 ζ 32).2 = 161 := zn_p zi144_32 zn_zi144_31
theorem zi144_33 {ζ : ZP} : zi144 ζ 33 = (rz (zi144 ζ 32).1 (zi144 ζ 32).2, (zi144 ζ 32).2 + 1) := zi144_a 32 33 (by decide) (by decide +kernel)
theorem zn_zi144_33 {ζ : ZP} : (zi144 ζ 33).2 = 162 := zn_a zi144_33 zn_zi144_32 (by decide)
theorem zi144_34 {ζ : ZP} : zi144 ζ 34 = (ru (zi144 ζ 33).1 151 11 (some 161), (zi144 ζ 33).2) := zi144_p 33 34 151 11 161 (by decide) (by decide +kernel)
theorem zn_zi144_34 {ζ : ZP} : (zi144 ζ 34).2 = 162 := zn_p zi144_34 zn_zi144_33
theorem zi144_35 {ζ : ZP} : zi144 ζ 35 = (rz (zi144 ζ 34).1 (zi144 ζ 34).2, (zi144 ζ 34).2 + 1) := zi144_a 34 35 (by decide) (by decide +kernel)
theorem zn_zi144_35 {ζ : ZP} : (zi144 ζ 35).2 = 163 := zn_a zi144_35 zn_zi144_34 (by decide)
theorem zi144_36 {ζ : ZP} : zi144 ζ 36 = (ru (zi144 ζ 35).1 151 13 (some 162), (zi144 ζ 35).2) := zi144_p 35 36 151 13 162 (by decide) (by decide +kernel)
theorem zn_zi144_36 {ζ : ZP} : (zi144 ζ 36).2 = 163 := zn_p zi144_36 zn_zi144_35
theorem zi144_37 {ζ : ZP} : zi144 ζ 37 = (ru (zi144 ζ 36).1 144 2 (some 151), (zi144 ζ 36).2) := zi144_p 36 37 144 2 151 (by decide) (by decide +kernel)
theorem zn_zi144_37 {ζ : ZP} : (zi144 ζ 37).2 = 163 := zn_p zi144_37 zn_zi144_36
theorem zi144_38 {ζ : ZP} : zi144 ζ 38 = (rz (zi144 ζ 37).1 (zi144 ζ 37).2, (zi144 ζ 37).2 + 1) := zi144_a 37 38 (by decide) (by decide +kernel)
theorem zn_zi144_38 {ζ : ZP} : (zi144 ζ 38).2 = 164 := zn_a zi144_38 zn_zi144_37 (by decide)
theorem zi144_39 {ζ : ZP} : zi144 ζ 39 = (ru (zi144 ζ 38).1 144 4 (some 163), (zi144 ζ 38).2) := zi144_p 38 39 144 4 163 (by decide) (by decide +kernel)
theorem zn_zi144_39 {ζ : ZP} : (zi144 ζ 39).2 = 164 := zn_p zi144_39 zn_zi144_38
theorem zi144_40 {ζ : ZP} : zi144 ζ 40 = (rz (zi144 ζ 39).1 (zi144 ζ 39).2, (zi144 ζ 39).2 + 1) := zi144_a 39 40 (by decide) (by decide +kernel)
theorem zn_zi144_40 {ζ : ZP} : (zi144 ζ 40).2 = 165 := zn_a zi144_40 zn_zi144_39 (by decide)
theorem zi144_41 {ζ : ZP} : zi144 ζ 41 = (ru (zi144 ζ 40).1 144 6 (some 164), (zi144 ζ 40).2) := zi144_p 40 41 144 6 164 (by decide) (by decide +kernel)
theorem zn_zi144_41 {ζ : ZP} : (zi144 ζ 41).2 = 165 := zn_p zi144_41 zn_zi144_40
theorem zi144_42 {ζ : ZP} : zi144 ζ 42 = (rz (zi144 ζ 41).1 (zi144 ζ 41).2, (zi144 ζ 41).2 + 1) := zi144_a 41 42 (by decide) (by decide +kernel)
theorem zn_zi144_42 {ζ : ZP} : (zi144 ζ 42).2 = 166 := zn_a zi144_42 zn_zi144_41 (by decide)
theorem zi144_43 {ζ : ZP} : zi144 ζ 43 = (ru (zi144 ζ 42).1 144 7 (some 165), (zi144 ζ 42).2) := zi144_p 42 43 144 7 165 (by decide) (by decide +kernel)
theorem zn_zi144_43 {ζ : ZP} : (zi144 ζ 43).2 = 166 := zn_p zi144_43 zn_zi144_42
theorem zi144_44 {ζ : ZP} : zi144 ζ 44 = (rz (zi144 ζ 43).1 (zi144 ζ 43).2, (zi144 ζ 43).2 + 1) := zi144_a 43 44 (by decide) (by decide +kernel)
theorem zn_zi144_44 {ζ : ZP} : (zi144 ζ 44).2 = 167 := zn_a zi144_44 zn_zi144_43 (by decide)
theorem zi144_45 {ζ : ZP} : zi144 ζ 45 = (ru (zi144 ζ 44).1 144 8 (some 166), (zi144 ζ 44).2) := zi144_p 44 45 144 8 166 (by decide) (by decide +kernel)
theorem zn_zi144_45 {ζ : ZP} : (zi144 ζ 45).2 = 167 := zn_p zi144_45 zn_zi144_44
theorem zi144_46 {ζ : ZP} : zi144 ζ 46 = (rz (zi144 ζ 45).1 (zi144 ζ 45).2, (zi144 ζ 45).2 + 1) := zi144_a 45 46 (by decide) (by decide +kernel)
theorem zn_zi144_46 {ζ : ZP} : (zi144 ζ 46).2 = 168 := zn_a zi144_46 zn_zi144_45 (by decide)
theorem zi144_47 {ζ : ZP} : zi144 ζ 47 = (ru (zi144 ζ 46).1 144 9 (some 167), (zi144 ζ 46).2) := zi144_p 46 47 144 9 167 (by decide) (by decide +kernel)
theorem zn_zi144_47 {ζ : ZP} : (zi144 ζ 47).2 = 168 := zn_p zi144_47 zn_zi144_46
theorem zi144_48 {ζ : ZP} : zi144 ζ 48 = (rz (zi144 ζ 47).1 (zi144 ζ 47).2, (zi144 ζ 47).2 + 1) := zi144_a 47 48 (by decide) (by decide +kernel)
theorem zn_zi144_48 {ζ : ZP} : (zi144 ζ 48).2 = 169 := zn_a zi144_48 zn_zi144_47 (by decide)
theorem zi144_49 {ζ : ZP} : zi144 ζ 49 = (ru (zi144 ζ 48).1 144 11 (some 168), (zi144 ζ 48).2) := zi144_p 48 49 144 11 168 (by decide) (by decide +kernel)
theorem zn_zi144_49 {ζ : ZP} : (zi144 ζ 49).2 = 169 := zn_p zi144_49 zn_zi144_48
theorem zi144_50 {ζ : ZP} : zi144 ζ 50 = (rz (zi144 ζ 49).1 (zi144 ζ 49).2, (zi144 ζ 49).2 + 1) := zi144_a 49 50 (by decide) (by decide +kernel)
theorem zn_zi144_50 {ζ : ZP} : (zi144 ζ 50).2 = 170 := zn_a zi144_50 zn_zi144_49 (by decide)
theorem zi144_51 {ζ : ZP} : zi144 ζ 51 = (ru (zi144 ζ 50).1 144 12 (some 169), (zi144 ζ 50).2) := zi144_p 50 51 144 12 169 (by decide) (by decide +kernel)
theorem zn_zi144_51 {ζ : ZP} : (zi144 ζ 51).2 = 170 := zn_p zi144_51 zn_zi144_50
theorem zi144_52 {ζ : ZP} : zi144 ζ 52 = (rz (zi144 ζ 51).1 (zi144 ζ 51).2, (zi144 ζ 51).2 + 1) := zi144_a 51 52 (by decide) (by decide +kernel)
theorem zn_zi144_52 {ζ : ZP} : (zi144 ζ 52).2 = 171 := zn_a zi144_52 zn_zi144_51 (by decide)
theorem zi144_53 {ζ : ZP} : zi144 ζ 53 = (ru (zi144 ζ 52).1 144 13 (some 170), (zi144 ζ 52).2) := zi144_p 52 53 144 13 170 (by decide) (by decide +kernel)
theorem zn_zi144_53 {ζ : ZP} : (zi144 ζ 53).2 = 171 := zn_p zi144_53 zn_zi144_52
theorem zi144_54 {ζ : ZP} : zi144 ζ 54 = (rz (zi144 ζ 53).1 (zi144 ζ 53).2, (zi144 ζ 53).2 + 1) := zi144_a 53 54 (by decide) (by decide +kernel)
theorem zn_zi144_54 {ζ : ZP} : (zi144 ζ 54).2 = 172 := zn_a zi144_54 zn_zi144_53 (by decide)
theorem zi144_55 {ζ : ZP} : zi144 ζ 55 = (ru (zi144 ζ 54).1 144 14 (some 171), (zi144 ζ 54).2) := zi144_p 54 55 144 14 171 (by decide) (by decide +kernel)
theorem zn_zi144_55 {ζ : ZP} : (zi144 ζ 55).2 = 172 := zn_p zi144_55 zn_zi144_54
theorem zi144_56 {ζ : ZP} : zi144 ζ 56 = (rz (zi144 ζ 55).1 (zi144 ζ 55).2, (zi144 ζ 55).2 + 1) := zi144_a 55 56 (by decide) (by decide +kernel)
theorem zn_zi144_56 {ζ : ZP} : (zi144 ζ 56).2 = 173 := zn_a zi144_56 zn_zi144_55 (by decide)
theorem zi144_57 {ζ : ZP} : zi144 ζ 57 = (ru (zi144 ζ 56).1 144 15 (some 172), (zi144 ζ 56).2) := zi144_p 56 57 144 15 172 (by decide) (by decide +kernel)
theorem zn_zi144_57 {ζ : ZP} : (zi144 ζ 57).2 = 173 := zn_p zi144_57 zn_zi144_56
theorem zi144_58 {ζ : ZP} : zi144 ζ 58 = (rz (zi144 ζ 57).1 (zi144 ζ 57).2, (zi144 ζ 57).2 + 1) := zi144_a 57 58 (by decide) (by decide +kernel)
theorem zn_zi144_58 {ζ : ZP} : (zi144 ζ 58).2 = 174 := zn_a zi144_58 zn_zi144_57 (by decide)
theorem zi144_59 {ζ : ZP} : zi144 ζ 59 = (ru (zi144 ζ 58).1 144 16 (some 173), (zi144 ζ 58).2) := zi144_p 58 59 144 16 173 (by decide) (by decide +kernel)
theorem zn_zi144_59 {ζ : ZP} : (zi144 ζ 59).2 = 174 := zn_p zi144_59 zn_zi144_58
set_option maxRecDepth 4000 in
theorem k_X0_init_i_145 {l : Launch} {D : Nat} {h : HI} {ζ : ZP} (hz : zb ((zz ζ).1, 144)) (h0 : ∀ a q, 146 ≤ a → a < 1000000 → h a q = 0) : Ret l (D + 1) 3 23 mX0_init (zi144 ζ 2) [aP 145] h (fun v h' z' => v = none ∧ h' = (hlu h 148) ∧ z' = (zi144 ζ 8)) := by
  refine Ret.of 0 pn_X0 [aP 145] rfl rfl ?_
  refine g_aload_n dX0_init_0 rfl ?_
  refine g_obj dX0_init_1 ob_X0_3 (Nat.le_of_ble_eq_true rfl) ?_
  refine g_aload_n dX0_init_4 rfl ?_
  refine g_bipush dX0_init_5 rfl ?_
  refine g_newarr0 (N := 6) (n := 146) (z' := (zi144 ζ 3)) (mc' := 2) (ms' := 17) zn_zi144_2 zi144_3 dX0_init_7 ac_0 rfl (by decide) sh_146 (by decide) rfl (zb_zi144 hz 2) (by decide) (fun q => (far_le (N2 := 146) (by decide) h0) 146 q (by decide) (by decide)) rfl rfl rfl rfl ?_
  refine g_putF0 (z' := (zi144 ζ 4)) zi144_4 dX0_init_9 fl_X0_9 sh_145 (by rw [zn_zi144_3]; decide) (fun _ _ _ => rfl) (narR rfl) rfl rfl ?_
  refine g_aload_n dX0_init_12 rfl ?_
  refine g_bipush dX0_init_13 rfl ?_
  refine g_newarr0 (N := 8) (n := 147) (z' := (zi144 ζ 5)) (mc' := 1) (ms' := 9) zn_zi144_4 zi144_5 dX0_init_15 ac_0 rfl (by decide) sh_147 (by decide) rfl (zb_zi144 hz 4) (by decide) (fun q => (far_le (N2 := 147) (by decide) h0) 147 q (by decide) (by decide)) rfl rfl rfl rfl ?_
  refine g_putF0 (z' := (zi144 ζ 6)) zi144_6 dX0_init_17 fl_X0_15 sh_145 (by rw [zn_zi144_5]; decide) (fun _ _ _ => rfl) (narR rfl) rfl rfl ?_
  refine g_aload_n dX0_init_20 rfl ?_
  refine g_law (t := 2) dX0_init_21 lw_X0_18 (by decide) ?_
  refine g_clone0 (n := 148) (z' := (zi144 ζ 7)) (mc' := 0) (ms' := 0) zn_zi144_6 zi144_7 dX0_init_24 cn_X0_21 sh_148 (zb_zi144 hz 6) (by decide) rfl rfl rfl rfl (Nat.le_of_ble_eq_true rfl) ?_
  refine g_castI dX0_init_27 cl_X0_22 sh_148 (by rw [zn_zi144_7]; decide) ?_
  refine g_putF0 (z' := (zi144 ζ 8)) zi144_8 dX0_init_30 fl_X0_26 sh_145 (by rw [zn_zi144_7]; decide) (fun _ _ _ => rfl) (narR rfl) rfl rfl ?_
  exact g_retv dX0_init_33 rfl ⟨rfl, rfl, rfl⟩
set_option maxRecDepth 4000 in
theorem k_X3_init_i_149 {l : Launch} {D : Nat} {h : HI} {ζ : ZP} (hz : zb ((zz ζ).1, 144)) (h0 : ∀ a q, 150 ≤ a → a < 1000000 → h a q = 0) : Ret l (D + 1) 1 40 mX3_init (zi144 ζ 10) [aP 149] h (fun v h' z' => v = none ∧ h' = h ∧ z' = (zi144 ζ 12)) := by
  refine Ret.of 0 pn_X3 [aP 149] rfl rfl ?_
  refine g_aload_n dX3_init_0 rfl ?_
  refine g_obj dX3_init_1 ob_X3_3 (Nat.le_of_ble_eq_true rfl) ?_
  refine g_aload_n dX3_init_4 rfl ?_
  refine g_bipush dX3_init_5 rfl ?_
  refine g_newarr0 (N := 40) (n := 150) (z' := (zi144 ζ 11)) (mc' := 0) (ms' := 0) zn_zi144_10 zi144_11 dX3_init_7 ac_0 rfl (by decide) sh_150 (by decide) rfl (zb_zi144 hz 10) (by decide) (fun q => (far_le (N2 := 150) (by decide) h0) 150 q (by decide) (by decide)) rfl rfl rfl rfl ?_
  refine g_putF0 (z' := (zi144 ζ 12)) zi144_12 dX3_init_9 fl_X3_11 sh_149 (by rw [zn_zi144_11]; decide) (fun _ _ _ => rfl) (narR rfl) rfl rfl ?_
  exact g_retv dX3_init_12 rfl ⟨rfl, rfl, rfl⟩
set_option maxRecDepth 4000 in
theorem k_X1_init_i_151 {l : Launch} {D : Nat} {h : HI} {ζ : ZP} (hz : zb ((zz ζ).1, 144)) (h0 : ∀ a q, 152 ≤ a → a < 1000000 → h a q = 0) : Ret l (D + 1) 11 660 mX1_init (zi144 ζ 14) [aP 151] h (fun v h' z' => v = none ∧ h' = h ∧ z' = (zi144 ζ 36)) := by
  refine Ret.of 0 pn_X1 [aP 151] rfl rfl ?_
  refine g_aload_n dX1_init_0 rfl ?_
  refine g_obj dX1_init_1 ob_X1_3 (Nat.le_of_ble_eq_true rfl) ?_
  refine g_aload_n dX1_init_4 rfl ?_
  refine g_bipush dX1_init_5 rfl ?_
  refine g_newarr0 (N := 60) (n := 152) (z' := (zi144 ζ 15)) (mc' := 10) (ms' := 600) zn_zi144_14 zi144_15 dX1_init_7 ac_0 rfl (by decide) sh_152 (by decide) rfl (zb_zi144 hz 14) (by decide) (fun q => (far_le (N2 := 152) (by decide) h0) 152 q (by decide) (by decide)) rfl rfl rfl rfl ?_
  refine g_putF0 (z' := (zi144 ζ 16)) zi144_16 dX1_init_9 fl_X1_9 sh_151 (by rw [zn_zi144_15]; decide) (fun _ _ _ => rfl) (narR rfl) rfl rfl ?_
  refine g_aload_n dX1_init_12 rfl ?_
  refine g_sipush dX1_init_13 rfl ?_
  refine g_newarr0 (N := 400) (n := 153) (z' := (zi144 ζ 17)) (mc' := 9) (ms' := 200) zn_zi144_16 zi144_17 dX1_init_16 ac_0 rfl (by decide) sh_153 (by decide) rfl (zb_zi144 hz 16) (by decide) (fun q => (far_le (N2 := 153) (by decide) h0) 153 q (by decide) (by decide)) rfl rfl rfl rfl ?_
  refine g_putF0 (z' := (zi144 ζ 18)) zi144_18 dX1_init_18 fl_X1_15 sh_151 (by rw [zn_zi144_17]; decide) (fun _ _ _ => rfl) (narR rfl) rfl rfl ?_
  refine g_aload_n dX1_init_21 rfl ?_
  refine g_bipush dX1_init_22 rfl ?_
  refine g_newarr0 (N := 10) (n := 154) (z' := (zi144 ζ 19)) (mc' := 8) (ms' := 190) zn_zi144_18 zi144_19 dX1_init_24 ac_0 rfl (by decide) sh_154 (by decide) rfl (zb_zi144 hz 18) (by decide) (fun q => (far_le (N2 := 154) (by decide) h0) 154 q (by decide) (by decide)) rfl rfl rfl rfl ?_
  refine g_putF0 (z' := (zi144 ζ 20)) zi144_20 dX1_init_26 fl_X1_18 sh_151 (by rw [zn_zi144_19]; decide) (fun _ _ _ => rfl) (narR rfl) rfl rfl ?_
  refine g_aload_n dX1_init_29 rfl ?_
  refine g_bipush dX1_init_30 rfl ?_
  refine g_newarr0 (N := 10) (n := 155) (z' := (zi144 ζ 21)) (mc' := 7) (ms' := 180) zn_zi144_20 zi144_21 dX1_init_32 ac_0 rfl (by decide) sh_155 (by decide) rfl (zb_zi144 hz 20) (by decide) (fun q => (far_le (N2 := 155) (by decide) h0) 155 q (by decide) (by decide)) rfl rfl rfl rfl ?_
  refine g_putF0 (z' := (zi144 ζ 22)) zi144_22 dX1_init_34 fl_X1_21 sh_151 (by rw [zn_zi144_21]; decide) (fun _ _ _ => rfl) (narR rfl) rfl rfl ?_
  refine g_aload_n dX1_init_37 rfl ?_
  refine g_bipush dX1_init_38 rfl ?_
  refine g_newarr0 (N := 10) (n := 156) (z' := (zi144 ζ 23)) (mc' := 6) (ms' := 170) zn_zi144_22 zi144_23 dX1_init_40 ac_0 rfl (by decide) sh_156 (by decide) rfl (zb_zi144 hz 22) (by decide) (fun q => (far_le (N2 := 156) (by decide) h0) 156 q (by decide) (by decide)) rfl rfl rfl rfl ?_
  refine g_putF0 (z' := (zi144 ζ 24)) zi144_24 dX1_init_42 fl_X1_24 sh_151 (by rw [zn_zi144_23]; decide) (fun _ _ _ => rfl) (narR rfl) rfl rfl ?_
  refine g_aload_n dX1_init_45 rfl ?_
  refine g_bipush dX1_init_46 rfl ?_
  refine g_newarr0 (N := 10) (n := 157) (z' := (zi144 ζ 25)) (mc' := 5) (ms' := 160) zn_zi144_24 zi144_25 dX1_init_48 ac_0 rfl (by decide) sh_157 (by decide) rfl (zb_zi144 hz 24) (by decide) (fun q => (far_le (N2 := 157) (by decide) h0) 157 q (by decide) (by decide)) rfl rfl rfl rfl ?_
  refine g_putF0 (z' := (zi144 ζ 26)) zi144_26 dX1_init_50 fl_X1_27 sh_151 (by rw [zn_zi144_25]; decide) (fun _ _ _ => rfl) (narR rfl) rfl rfl ?_
  refine g_aload_n dX1_init_53 rfl ?_
  refine g_bipush dX1_init_54 rfl ?_
  refine g_newarr0 (N := 30) (n := 158) (z' := (zi144 ζ 27)) (mc' := 4) (ms' := 130) zn_zi144_26 zi144_27 dX1_init_56 ac_0 rfl (by decide) sh_158 (by decide) rfl (zb_zi144 hz 26) (by decide) (fun q => (far_le (N2 := 158) (by decide) h0) 158 q (by decide) (by decide)) rfl rfl rfl rfl ?_
  refine g_putF0 (z' := (zi144 ζ 28)) zi144_28 dX1_init_58 fl_X1_30 sh_151 (by rw [zn_zi144_27]; decide) (fun _ _ _ => rfl) (narR rfl) rfl rfl ?_
  refine g_aload_n dX1_init_61 rfl ?_
  refine g_bipush dX1_init_62 rfl ?_
  refine g_newarr0 (N := 30) (n := 159) (z' := (zi144 ζ 29)) (mc' := 3) (ms' := 100) zn_zi144_28 zi144_29 dX1_init_64 ac_0 rfl (by decide) sh_159 (by decide) rfl (zb_zi144 hz 28) (by decide) (fun q => (far_le (N2 := 159) (by decide) h0) 159 q (by decide) (by decide)) rfl rfl rfl rfl ?_
  refine g_putF0 (z' := (zi144 ζ 30)) zi144_30 dX1_init_66 fl_X1_33 sh_151 (by rw [zn_zi144_29]; decide) (fun _ _ _ => rfl) (narR rfl) rfl rfl ?_
  refine g_aload_n dX1_init_69 rfl ?_
  refine g_bipush dX1_init_70 rfl ?_
  refine g_newarr0 (N := 30) (n := 160) (z' := (zi144 ζ 31)) (mc' := 2) (ms' := 70) zn_zi144_30 zi144_31 dX1_init_72 ac_0 rfl (by decide) sh_160 (by decide) rfl (zb_zi144 hz 30) (by decide) (fun q => (far_le (N2 := 160) (by decide) h0) 160 q (by decide) (by decide)) rfl rfl rfl rfl ?_
  refine g_putF0 (z' := (zi144 ζ 32)) zi144_32 dX1_init_74 fl_X1_36 sh_151 (by rw [zn_zi144_31]; decide) (fun _ _ _ => rfl) (narR rfl) rfl rfl ?_
  refine g_aload_n dX1_init_77 rfl ?_
  refine g_bipush dX1_init_78 rfl ?_
  refine g_newarr0 (N := 30) (n := 161) (z' := (zi144 ζ 33)) (mc' := 1) (ms' := 40) zn_zi144_32 zi144_33 dX1_init_80 ac_0 rfl (by decide) sh_161 (by decide) rfl (zb_zi144 hz 32) (by decide) (fun q => (far_le (N2 := 161) (by decide) h0) 161 q (by decide) (by decide)) rfl rfl rfl rfl ?_
  refine g_putF0 (z' := (zi144 ζ 34)) zi144_34 dX1_init_82 fl_X1_39 sh_151 (by rw [zn_zi144_33]; decide) (fun _ _ _ => rfl) (narR rfl) rfl rfl ?_
  refine g_aload_n dX1_init_85 rfl ?_
  refine g_bipush dX1_init_86 rfl ?_
  refine g_newarr0 (N := 40) (n := 162) (z' := (zi144 ζ 35)) (mc' := 0) (ms' := 0) zn_zi144_34 zi144_35 dX1_init_88 ac_0 rfl (by decide) sh_162 (by decide) rfl (zb_zi144 hz 34) (by decide) (fun q => (far_le (N2 := 162) (by decide) h0) 162 q (by decide) (by decide)) rfl rfl rfl rfl ?_
  refine g_putF0 (z' := (zi144 ζ 36)) zi144_36 dX1_init_90 fl_X1_42 sh_151 (by rw [zn_zi144_35]; decide) (fun _ _ _ => rfl) (narR rfl) rfl rfl ?_
  exact g_retv dX1_init_93 rfl ⟨rfl, rfl, rfl⟩
set_option maxRecDepth 4000 in
theorem k_X5_init_i_144 {l : Launch} {D : Nat} {h : HI} {ζ : ZP} (hz : zb ((zz ζ).1, 144)) (h0 : ∀ a q, 145 ≤ a → a < 1000000 → h a q = 0) : Ret l (D + 2) 29 1967 mX5_init (zi144 ζ 1) [aP 144] h (fun v h' z' => v = none ∧ h' = (hlu h 148) ∧ z' = (zi144 ζ 59)) := by
  refine Ret.of 0 pn_X5 [aP 144] rfl rfl ?_
  refine g_aload_n dX5_init_0 rfl ?_
  refine g_obj dX5_init_1 ob_X5_3 (Nat.le_of_ble_eq_true rfl) ?_
  refine g_aload_n dX5_init_4 rfl ?_
  refine g_new0 (n := 145) (z' := (zi144 ζ 2)) (mc' := 28) (ms' := 1960) zn_zi144_1 zi144_2 dX5_init_5 nw_X5_9 sh_145 (zb_zi144 hz 1) (by decide) (fun q => (far_le (N2 := 145) (by decide) h0) 145 q (by decide) (by decide)) rfl rfl rfl rfl ?_
  refine g_dup dX5_init_8 rfl ?_
  refine g_callIN (n := 0) (As := []) (st := [aP 145, aP 144]) (mc' := 3) (ms' := 23) (mcR := 25) (msR := 1937) dX5_init_9 ml_X5_11 rfl rfl (Nat.le_of_ble_eq_true rfl) rfl rfl rfl rfl (Ret.mono (k_X0_init_i_145 hz (far_le (N2 := 146) (by decide) h0)) (fun v h' z' q => ?_))
  obtain ⟨rfl, rfl, rfl⟩ := q
  refine ⟨rfl, ?_⟩
  refine g_putF0 (z' := (zi144 ζ 9)) zi144_9 dX5_init_12 fl_X5_12 sh_144 (by rw [zn_zi144_8]; decide) (fun _ _ _ => rfl) (narR rfl) rfl rfl ?_
  refine g_aload_n dX5_init_15 rfl ?_
  refine g_new0 (n := 149) (z' := (zi144 ζ 10)) (mc' := 24) (ms' := 1934) zn_zi144_9 zi144_10 dX5_init_16 nw_X5_18 sh_149 (zb_zi144 hz 9) (by decide) (fun q => (hlu_far (by decide) (far_le (N2 := 149) (by decide) h0)) 149 q (by decide) (by decide)) rfl rfl rfl rfl ?_
  refine g_dup dX5_init_19 rfl ?_
  refine g_callIN (n := 0) (As := []) (st := [aP 149, aP 144]) (mc' := 1) (ms' := 40) (mcR := 23) (msR := 1894) dX5_init_20 ml_X5_20 rfl rfl (Nat.le_of_ble_eq_true rfl) rfl rfl rfl rfl (Ret.mono (k_X3_init_i_149 hz (hlu_far (by decide) (far_le (N2 := 150) (by decide) h0))) (fun v h' z' q => ?_))
  obtain ⟨rfl, rfl, rfl⟩ := q
  refine ⟨rfl, ?_⟩
  refine g_putF0 (z' := (zi144 ζ 13)) zi144_13 dX5_init_23 fl_X5_21 sh_144 (by rw [zn_zi144_12]; decide) (fun _ _ _ => rfl) (narR rfl) rfl rfl ?_
  refine g_aload_n dX5_init_26 rfl ?_
  refine g_new0 (n := 151) (z' := (zi144 ζ 14)) (mc' := 22) (ms' := 1880) zn_zi144_13 zi144_14 dX5_init_27 nw_X5_25 sh_151 (zb_zi144 hz 13) (by decide) (fun q => (hlu_far (by decide) (far_le (N2 := 151) (by decide) h0)) 151 q (by decide) (by decide)) rfl rfl rfl rfl ?_
  refine g_dup dX5_init_30 rfl ?_
  refine g_callIN (n := 0) (As := []) (st := [aP 151, aP 144]) (mc' := 11) (ms' := 660) (mcR := 11) (msR := 1220) dX5_init_31 ml_X5_27 rfl rfl (Nat.le_of_ble_eq_true rfl) rfl rfl rfl rfl (Ret.mono (k_X1_init_i_151 hz (hlu_far (by decide) (far_le (N2 := 152) (by decide) h0))) (fun v h' z' q => ?_))
  obtain ⟨rfl, rfl, rfl⟩ := q
  refine ⟨rfl, ?_⟩
  refine g_putF0 (z' := (zi144 ζ 37)) zi144_37 dX5_init_34 fl_X5_28 sh_144 (by rw [zn_zi144_36]; decide) (fun _ _ _ => rfl) (narR rfl) rfl rfl ?_
  refine g_aload_n dX5_init_37 rfl ?_
  refine g_bipush dX5_init_38 rfl ?_
  refine g_newarr0 (N := 60) (n := 163) (z' := (zi144 ζ 38)) (mc' := 10) (ms' := 1160) zn_zi144_37 zi144_38 dX5_init_40 ac_0 rfl (by decide) sh_163 (by decide) rfl (zb_zi144 hz 37) (by decide) (fun q => (hlu_far (by decide) (far_le (N2 := 163) (by decide) h0)) 163 q (by decide) (by decide)) rfl rfl rfl rfl ?_
  refine g_putF0 (z' := (zi144 ζ 39)) zi144_39 dX5_init_42 fl_X5_32 sh_144 (by rw [zn_zi144_38]; decide) (fun _ _ _ => rfl) (narR rfl) rfl rfl ?_
  refine g_aload_n dX5_init_45 rfl ?_
  refine g_sipush dX5_init_46 rfl ?_
  refine g_newarr0 (N := 200) (n := 164) (z' := (zi144 ζ 40)) (mc' := 9) (ms' := 960) zn_zi144_39 zi144_40 dX5_init_49 ac_0 rfl (by decide) sh_164 (by decide) rfl (zb_zi144 hz 39) (by decide) (fun q => (hlu_far (by decide) (far_le (N2 := 164) (by decide) h0)) 164 q (by decide) (by decide)) rfl rfl rfl rfl ?_
  refine g_putF0 (z' := (zi144 ζ 41)) zi144_41 dX5_init_51 fl_X5_36 sh_144 (by rw [zn_zi144_40]; decide) (fun _ _ _ => rfl) (narR rfl) rfl rfl ?_
  refine g_aload_n dX5_init_54 rfl ?_
  refine g_sipush dX5_init_55 rfl ?_
  refine g_newarr0 (N := 200) (n := 165) (z' := (zi144 ζ 42)) (mc' := 8) (ms' := 760) zn_zi144_41 zi144_42 dX5_init_58 ac_0 rfl (by decide) sh_165 (by decide) rfl (zb_zi144 hz 41) (by decide) (fun q => (hlu_far (by decide) (far_le (N2 := 165) (by decide) h0)) 165 q (by decide) (by decide)) rfl rfl rfl rfl ?_
  refine g_putF0 (z' := (zi144 ζ 43)) zi144_43 dX5_init_60 fl_X5_39 sh_144 (by rw [zn_zi144_42]; decide) (fun _ _ _ => rfl) (narR rfl) rfl rfl ?_
  refine g_aload_n dX5_init_63 rfl ?_
  refine g_sipush dX5_init_64 rfl ?_
  refine g_newarr0 (N := 200) (n := 166) (z' := (zi144 ζ 44)) (mc' := 7) (ms' := 560) zn_zi144_43 zi144_44 dX5_init_67 ac_0 rfl (by decide) sh_166 (by decide) rfl (zb_zi144 hz 43) (by decide) (fun q => (hlu_far (by decide) (far_le (N2 := 166) (by decide) h0)) 166 q (by decide) (by decide)) rfl rfl rfl rfl ?_
  refine g_putF0 (z' := (zi144 ζ 45)) zi144_45 dX5_init_69 fl_X5_42 sh_144 (by rw [zn_zi144_44]; decide) (fun _ _ _ => rfl) (narR rfl) rfl rfl ?_
  refine g_aload_n dX5_init_72 rfl ?_
  refine g_sipush dX5_init_73 rfl ?_
  refine g_newarr0 (N := 200) (n := 167) (z' := (zi144 ζ 46)) (mc' := 6) (ms' := 360) zn_zi144_45 zi144_46 dX5_init_76 ac_0 rfl (by decide) sh_167 (by decide) rfl (zb_zi144 hz 45) (by decide) (fun q => (hlu_far (by decide) (far_le (N2 := 167) (by decide) h0)) 167 q (by decide) (by decide)) rfl rfl rfl rfl ?_
  refine g_putF0 (z' := (zi144 ζ 47)) zi144_47 dX5_init_78 fl_X5_45 sh_144 (by rw [zn_zi144_46]; decide) (fun _ _ _ => rfl) (narR rfl) rfl rfl ?_
  refine g_aload_n dX5_init_81 rfl ?_
  refine g_bipush dX5_init_82 rfl ?_
  refine g_newarr0 (N := 60) (n := 168) (z' := (zi144 ζ 48)) (mc' := 5) (ms' := 300) zn_zi144_47 zi144_48 dX5_init_84 ac_0 rfl (by decide) sh_168 (by decide) rfl (zb_zi144 hz 47) (by decide) (fun q => (hlu_far (by decide) (far_le (N2 := 168) (by decide) h0)) 168 q (by decide) (by decide)) rfl rfl rfl rfl ?_
  refine g_putF0 (z' := (zi144 ζ 49)) zi144_49 dX5_init_86 fl_X5_48 sh_144 (by rw [zn_zi144_48]; decide) (fun _ _ _ => rfl) (narR rfl) rfl rfl ?_
  refine g_aload_n dX5_init_89 rfl ?_
  refine g_bipush dX5_init_90 rfl ?_
  refine g_newarr0 (N := 60) (n := 169) (z' := (zi144 ζ 50)) (mc' := 4) (ms' := 240) zn_zi144_49 zi144_50 dX5_init_92 ac_0 rfl (by decide) sh_169 (by decide) rfl (zb_zi144 hz 49) (by decide) (fun q => (hlu_far (by decide) (far_le (N2 := 169) (by decide) h0)) 169 q (by decide) (by decide)) rfl rfl rfl rfl ?_
  refine g_putF0 (z' := (zi144 ζ 51)) zi144_51 dX5_init_94 fl_X5_51 sh_144 (by rw [zn_zi144_50]; decide) (fun _ _ _ => rfl) (narR rfl) rfl rfl ?_
  refine g_aload_n dX5_init_97 rfl ?_
  refine g_bipush dX5_init_98 rfl ?_
  refine g_newarr0 (N := 60) (n := 170) (z' := (zi144 ζ 52)) (mc' := 3) (ms' := 180) zn_zi144_51 zi144_52 dX5_init_100 ac_0 rfl (by decide) sh_170 (by decide) rfl (zb_zi144 hz 51) (by decide) (fun q => (hlu_far (by decide) (far_le (N2 := 170) (by decide) h0)) 170 q (by decide) (by decide)) rfl rfl rfl rfl ?_
  refine g_putF0 (z' := (zi144 ζ 53)) zi144_53 dX5_init_102 fl_X5_54 sh_144 (by rw [zn_zi144_52]; decide) (fun _ _ _ => rfl) (narR rfl) rfl rfl ?_
  refine g_aload_n dX5_init_105 rfl ?_
  refine g_bipush dX5_init_106 rfl ?_
  refine g_newarr0 (N := 60) (n := 171) (z' := (zi144 ζ 54)) (mc' := 2) (ms' := 120) zn_zi144_53 zi144_54 dX5_init_108 ac_0 rfl (by decide) sh_171 (by decide) rfl (zb_zi144 hz 53) (by decide) (fun q => (hlu_far (by decide) (far_le (N2 := 171) (by decide) h0)) 171 q (by decide) (by decide)) rfl rfl rfl rfl ?_
  refine g_putF0 (z' := (zi144 ζ 55)) zi144_55 dX5_init_110 fl_X5_57 sh_144 (by rw [zn_zi144_54]; decide) (fun _ _ _ => rfl) (narR rfl) rfl rfl ?_
  refine g_aload_n dX5_init_113 rfl ?_
  refine g_bipush dX5_init_114 rfl ?_
  refine g_newarr0 (N := 60) (n := 172) (z' := (zi144 ζ 56)) (mc' := 1) (ms' := 60) zn_zi144_55 zi144_56 dX5_init_116 ac_0 rfl (by decide) sh_172 (by decide) rfl (zb_zi144 hz 55) (by decide) (fun q => (hlu_far (by decide) (far_le (N2 := 172) (by decide) h0)) 172 q (by decide) (by decide)) rfl rfl rfl rfl ?_
  refine g_putF0 (z' := (zi144 ζ 57)) zi144_57 dX5_init_118 fl_X5_60 sh_144 (by rw [zn_zi144_56]; decide) (fun _ _ _ => rfl) (narR rfl) rfl rfl ?_
  refine g_aload_n dX5_init_121 rfl ?_
  refine g_bipush dX5_init_122 rfl ?_
  refine g_newarr0 (N := 60) (n := 173) (z' := (zi144 ζ 58)) (mc' := 0) (ms' := 0) zn_zi144_57 zi144_58 dX5_init_124 ac_0 rfl (by decide) sh_173 (by decide) rfl (zb_zi144 hz 57) (by decide) (fun q => (hlu_far (by decide) (far_le (N2 := 173) (by decide) h0)) 173 q (by decide) (by decide)) rfl rfl rfl rfl ?_
  refine g_putF0 (z' := (zi144 ζ 59)) zi144_59 dX5_init_126 fl_X5_63 sh_144 (by rw [zn_zi144_58]; decide) (fun _ _ _ => rfl) (narR rfl) rfl rfl ?_
  exact g_retv dX5_init_129 rfl ⟨rfl, rfl, rfl⟩
def EV174 : List (Nat × Nat × Nat × Nat) := [(0, 0, 0, 0), (0, 0, 0, 0), (0, 0, 0, 0), (1, 175, 0, 176), (0, 0, 0, 0), (1, 175, 1, 177), (0, 0, 0, 0), (1, 175, 2, 178), (1, 174, 0, 175), (0, 0, 0, 0), (0, 0, 0, 0), (1, 179, 0, 180), (1, 174, 1, 179), (0, 0, 0, 0), (0, 0, 0, 0), (1, 181, 1, 182), (0, 0, 0, 0), (1, 181, 2, 183), (0, 0, 0, 0), (1, 181, 3, 184), (0, 0, 0, 0), (1, 181, 4, 185), (0, 0, 0, 0), (1, 181, 5, 186), (0, 0, 0, 0), (1, 181, 6, 187), (0, 0, 0, 0), (1, 181, 8, 188), (0, 0, 0, 0), (1, 181, 9, 189), (0, 0, 0, 0), (1, 181, 10, 190), (0, 0, 0, 0), (1, 181, 11, 191), (0, 0, 0, 0), (1, 181, 13, 192), (1, 174, 2, 181), (0, 0, 0, 0), (1, 174, 4, 193), (0, 0, 0, 0), (1, 174, 6, 194), (0, 0, 0, 0), (1, 174, 7, 195), (0, 0, 0, 0), (1, 174, 8, 196), (0, 0, 0, 0), (1, 174, 9, 197), (0, 0, 0, 0), (1, 174, 11, 198), (0, 0, 0, 0), (1, 174, 12, 199), (0, 0, 0, 0), (1, 174, 13, 200), (0, 0, 0, 0), (1, 174, 14, 201), (0, 0, 0, 0), (1, 174, 15, 202), (0, 0, 0, 0), (1, 174, 16, 203)]
def zi174 (ζ : ZP) (t : Nat) : ZR := zev ((zz ζ).1, 174) EV174 t
theorem zb_zi174 {ζ : ZP} (hz : zb ((zz ζ).1, 174)) (t : Nat) : zb (zi174 ζ t) := zb_zev hz (show evok EV174 174 = true by decide +kernel) t
theorem zi174_a {ζ : ZP} (t t2 : Nat) (ht : t2 = t + 1) (h : EV174[t]? = some (0, 0, 0, 0)) : zi174 ζ t2 = (rz (zi174 ζ t).1 (zi174 ζ t).2, (zi174 ζ t).2 + 1) := by
  subst ht
  unfold zi174
  show (match EV174[t]? with | some e => zstep (zev _ EV174 t) e | none => zev _ EV174 t) = _
  rw [h]
  rfl
theorem zi174_p {ζ : ZP} (t t2 a j v : Nat) (ht : t2 = t + 1) (h : EV174[t]? = some (1, a, j, v)) : zi174 ζ t2 = (ru (zi174 ζ t).1 a j (some v), (zi174 ζ t).2) := by
  subst ht
  unfold zi174
  show (match EV174[t]? with | some e => zstep (zev _ EV174 t) e | none => zev _ EV174 t) = _
  rw [h]
  rfl
theorem zn_zi174_0 {ζ : ZP} : (zi174 ζ 0).2 = 174 := rfl
theorem zi174_1 {ζ : ZP} : zi174 ζ 1 = (rz (zi174 ζ 0).1 (zi174 ζ 0).2, (zi174 ζ 0).2 + 1) := zi174_a 0 1 (by decide) (by decide +kernel)
theorem zn_zi174_1 {ζ : ZP} : (zi174 ζ 1).2 = 175 := zn_a zi174_1 zn_zi174_0 (by decide)
theorem zi174_2 {ζ : ZP} : zi174 ζ 2 = (rz (zi174 ζ 1).1 (zi174 ζ 1).2, (zi174 ζ 1).2 + 1) := zi174_a 1 2 (by decide) (by decide +kernel)
theorem zn_zi174_2 {ζ : ZP} : (zi174 ζ 2).2 = 176 := zn_a zi174_2 zn_zi174_1 (by decide)
theorem zi174_3 {ζ : ZP} : zi174 ζ 3 = (rz (zi174 ζ 2).1 (zi174 ζ 2).2, (zi174 ζ 2).2 + 1) := zi174_a 2 3 (by decide) (by decide +kernel)
theorem zn_zi174_3 {ζ : ZP} : (zi174 ζ 3).2 = 177 := zn_a zi174_3 zn_zi174_2 (by decide)
theorem zi174_4 {ζ : ZP} : zi174 ζ 4 = (ru (zi174 ζ 3).1 175 0 (some 176), (zi174 ζ 3).2) := zi174_p 3 4 175 0 176 (by decide) (by decide +kernel)
theorem zn_zi174_4 {ζ : ZP} : (zi174 ζ 4).2 = 177 := zn_p zi174_4 zn_zi174_3
theorem zi174_5 {ζ : ZP} : zi174 ζ 5 = (rz (zi174 ζ 4).1 (zi174 ζ 4).2, (zi174 ζ 4).2 + 1) := zi174_a 4 5 (by decide) (by decide +kernel)
theorem zn_zi174_5 {ζ : ZP} : (zi174 ζ 5).2 = 178 := zn_a zi174_5 zn_zi174_4 (by decide)
theorem zi174_6 {ζ : ZP} : zi174 ζ 6 = (ru (zi174 ζ 5).1 175 1 (some 177), (zi174 ζ 5).2) := zi174_p 5 6 175 1 177 (by decide) (by decide +kernel)
theorem zn_zi174_6 {ζ : ZP} : (zi174 ζ 6).2 = 178 := zn_p zi174_6 zn_zi174_5
theorem zi174_7 {ζ : ZP} : zi174 ζ 7 = (rz (zi174 ζ 6).1 (zi174 ζ 6).2, (zi174 ζ 6).2 + 1) := zi174_a 6 7 (by decide) (by decide +kernel)
theorem zn_zi174_7 {ζ : ZP} : (zi174 ζ 7).2 = 179 := zn_a zi174_7 zn_zi174_6 (by decide)
theorem zi174_8 {ζ : ZP} : zi174 ζ 8 = (ru (zi174 ζ 7).1 175 2 (some 178), (zi174 ζ 7).2) := zi174_p 7 8 175 2 178 (by decide) (by decide +kernel)
theorem zn_zi174_8 {ζ : ZP} : (zi174 ζ 8).2 = 179 := zn_p zi174_8 zn_zi174_7
theorem zi174_9 {ζ : ZP} : zi174 ζ 9 = (ru (zi174 ζ 8).1 174 0 (some 175), (zi174 ζ 8).2) := zi174_p 8 9 174 0 175 (by decide) (by decide +kernel)
theorem zn_zi174_9 {ζ : ZP} : (zi174 ζ 9).2 = 179 := zn_p zi174_9 zn_zi174_8
theorem zi174_10 {ζ : ZP} : zi174 ζ 10 = (rz (zi174 ζ 9).1 (zi174 ζ 9).2, (zi174 ζ 9).2 + 1) := zi174_a 9 10 (by decide) (by decide +kernel)
theorem zn_zi174_10 {ζ : ZP} : (zi174 ζ 10).2 = 180 := zn_a zi174_10 zn_zi174_9 (by decide)
theorem zi174_11 {ζ : ZP} : zi174 ζ 11 = (rz (zi174 ζ 10).1 (zi174 ζ 10).2, (zi174 ζ 10).2 + 1) := zi174_a 10 11 (by decide) (by decide +kernel)
theorem zn_zi174_11 {ζ : ZP} : (zi174 ζ 11).2 = 181 := zn_a zi174_11 zn_zi174_10 (by decide)
theorem zi174_12 {ζ : ZP} : zi174 ζ 12 = (ru (zi174 ζ 11).1 179 0 (some 180), (zi174 ζ 11).2) := zi174_p 11 12 179 0 180 (by decide) (by decide +kernel)
theorem zn_zi174_12 {ζ : ZP} : (zi174 ζ 12).2 = 181 := zn_p zi174_12 zn_zi174_11
theorem zi174_13 {ζ : ZP} : zi174 ζ 13 = (ru (zi174 ζ 12).1 174 1 (some 179), (zi174 ζ 12).2) := zi174_p 12 13 174 1 179 (by decide) (by decide +kernel)
theorem zn_zi174_13 {ζ : ZP} : (zi174 ζ 13).2 = 181 := zn_p zi174_13 zn_zi174_12
theorem zi174_14 {ζ : ZP} : zi174 ζ 14 = (rz (zi174 ζ 13).1 (zi174 ζ 13).2, (zi174 ζ 13).2 + 1) := zi174_a 13 14 (by decide) (by decide +kernel)
theorem zn_zi174_14 {ζ : ZP} : (zi174 ζ 14).2 = 182 := zn_a zi174_14 zn_zi174_13 (by decide)
theorem zi174_15 {ζ : ZP} : zi174 ζ 15 = (rz (zi174 ζ 14).1 (zi174 ζ 14).2, (zi174 ζ 14).2 + 1) := zi174_a 14 15 (by decide) (by decide +kernel)
theorem zn_zi174_15 {ζ : ZP} : (zi174 ζ 15).2 = 183 := zn_a zi174_15 zn_zi174_14 (by decide)
theorem zi174_16 {ζ : ZP} : zi174 ζ 16 = (ru (zi174 ζ 15).1 181 1 (some 182), (zi174 ζ 15).2) := zi174_p 15 16 181 1 182 (by decide) (by decide +kernel)
theorem zn_zi174_16 {ζ : ZP} : (zi174 ζ 16).2 = 183 := zn_p zi174_16 zn_zi174_15
theorem zi174_17 {ζ : ZP} : zi174 ζ 17 = (rz (zi174 ζ 16).1 (zi174 ζ 16).2, (zi174 ζ 16).2 + 1) := zi174_a 16 17 (by decide) (by decide +kernel)
theorem zn_zi174_17 {ζ : ZP} : (zi174 ζ 17).2 = 184 := zn_a zi174_17 zn_zi174_16 (by decide)
theorem zi174_18 {ζ : ZP} : zi174 ζ 18 = (ru (zi174 ζ 17).1 181 2 (some 183), (zi174 ζ 17).2) := zi174_p 17 18 181 2 183 (by decide) (by decide +kernel)
theorem zn_zi174_18 {ζ : ZP} : (zi174 ζ 18).2 = 184 := zn_p zi174_18 zn_zi174_17
theorem zi174_19 {ζ : ZP} : zi174 ζ 19 = (rz (zi174 ζ 18).1 (zi174 ζ 18).2, (zi174 ζ 18).2 + 1) := zi174_a 18 19 (by decide) (by decide +kernel)
theorem zn_zi174_19 {ζ : ZP} : (zi174 ζ 19).2 = 185 := zn_a zi174_19 zn_zi174_18 (by decide)
theorem zi174_20 {ζ : ZP} : zi174 ζ 20 = (ru (zi174 ζ 19).1 181 3 (some 184), (zi174 ζ 19).2) := zi174_p 19 20 181 3 184 (by decide) (by decide +kernel)
theorem zn_zi174_20 {ζ : ZP} : (zi174 ζ 20).2 = 185 := zn_p zi174_20 zn_zi174_19
theorem zi174_21 {ζ : ZP} : zi174 ζ 21 = (rz (zi174 ζ 20).1 (zi174 ζ 20).2, (zi174 ζ 20).2 + 1) := zi174_a 20 21 (by decide) (by decide +kernel)
theorem zn_zi174_21 {ζ : ZP} : (zi174 ζ 21).2 = 186 := zn_a zi174_21 zn_zi174_20 (by decide)
theorem zi174_22 {ζ : ZP} : zi174 ζ 22 = (ru (zi174 ζ 21).1 181 4 (some 185), (zi174 ζ 21).2) := zi174_p 21 22 181 4 185 (by decide) (by decide +kernel)
theorem zn_zi174_22 {ζ : ZP} : (zi174 ζ 22).2 = 186 := zn_p zi174_22 zn_zi174_21
theorem zi174_23 {ζ : ZP} : zi174 ζ 23 = (rz (zi174 ζ 22).1 (zi174 ζ 22).2, (zi174 ζ 22).2 + 1) := zi174_a 22 23 (by decide) (by decide +kernel)
theorem zn_zi174_23 {ζ : ZP} : (zi174 ζ 23).2 = 187 := zn_a zi174_23 zn_zi174_22 (by decide)
theorem zi174_24 {ζ : ZP} : zi174 ζ 24 = (ru (zi174 ζ 23).1 181 5 (some 186), (zi174 ζ 23).2) := zi174_p 23 24 181 5 186 (by decide) (by decide +kernel)
theorem zn_zi174_24 {ζ : ZP} : (zi174 ζ 24).2 = 187 := zn_p zi174_24 zn_zi174_23
theorem zi174_25 {ζ : ZP} : zi174 ζ 25 = (rz (zi174 ζ 24).1 (zi174 ζ 24).2, (zi174 ζ 24).2 + 1) := zi174_a 24 25 (by decide) (by decide +kernel)
theorem zn_zi174_25 {ζ : ZP} : (zi174 ζ 25).2 = 188 := zn_a zi174_25 zn_zi174_24 (by decide)
theorem zi174_26 {ζ : ZP} : zi174 ζ 26 = (ru (zi174 ζ 25).1 181 6 (some 187), (zi174 ζ 25).2) := zi174_p 25 26 181 6 187 (by decide) (by decide +kernel)
theorem zn_zi174_26 {ζ : ZP} : (zi174 ζ 26).2 = 188 := zn_p zi174_26 zn_zi174_25
theorem zi174_27 {ζ : ZP} : zi174 ζ 27 = (rz (zi174 ζ 26).1 (zi174 ζ 26).2, (zi174 ζ 26).2 + 1) := zi174_a 26 27 (by decide) (by decide +kernel)
theorem zn_zi174_27 {ζ : ZP} : (zi174 ζ 27).2 = 189 := zn_a zi174_27 zn_zi174_26 (by decide)
theorem zi174_28 {ζ : ZP} : zi174 ζ 28 = (ru (zi174 ζ 27).1 181 8 (some 188), (zi174 ζ 27).2) := zi174_p 27 28 181 8 188 (by decide) (by decide +kernel)
theorem zn_zi174_28 {ζ : ZP} : (zi174 ζ 28).2 = 189 := zn_p zi174_28 zn_zi174_27
theorem zi174_29 {ζ : ZP} : zi174 ζ 29 = (rz (zi174 ζ 28).1 (zi174 ζ 28).2, (zi174 ζ 28).2 + 1) := zi174_a 28 29 (by decide) (by decide +kernel)
theorem zn_zi174_29 {ζ : ZP} : (zi174 ζ 29).2 = 190 := zn_a zi174_29 zn_zi174_28 (by decide)
theorem zi174_30 {ζ : ZP} : zi174 ζ 30 = (ru (zi174 ζ 29).1 181 9 (some 189), (zi174 ζ 29).2) := zi174_p 29 30 181 9 189 (by decide) (by decide +kernel)
theorem zn_zi174_30 {ζ : ZP} : (zi174 ζ 30).2 = 190 := zn_p zi174_30 zn_zi174_29
theorem zi174_31 {ζ : ZP} : zi174 ζ 31 = (rz (zi174 ζ 30).1 (zi174 ζ 30).2, (zi174 ζ 30).2 + 1) := zi174_a 30 31 (by decide) (by decide +kernel)
theorem zn_zi174_31 {ζ : ZP} : (zi174 ζ 31).2 = 191 := zn_a zi174_31 zn_zi174_30 (by decide)
theorem zi174_32 {ζ : ZP} : zi174 ζ 32 = (ru (zi174 ζ 31).1 181 10 (some 190), (zi174 ζ 31).2) := zi174_p 31 32 181 10 190 (by decide) (by decide +kernel)
theorem zn_zi174_32 {ζ : ZP} : (zi174 ζ 32).2 = 191 := zn_p zi174_32 zn_zi174_31
theorem zi174_33 {ζ : ZP} : zi174 ζ 33 = (rz (zi174 ζ 32).1 (zi174 ζ 32).2, (zi174 ζ 32).2 + 1) := zi174_a 32 33 (by decide) (by decide +kernel)
theorem zn_zi174_33 {ζ : ZP} : (zi174 ζ 33).2 = 192 := zn_a zi174_33 zn_zi174_32 (by decide)
theorem zi174_34 {ζ : ZP} : zi174 ζ 34 = (ru (zi174 ζ 33).1 181 11 (some 191), (zi174 ζ 33).2) := zi174_p 33 34 181 11 191 (by decide) (by decide +kernel)
theorem zn_zi174_34 {ζ : ZP} : (zi174 ζ 34).2 = 192 := zn_p zi174_34 zn_zi174_33
theorem zi174_35 {ζ : ZP} : zi174 ζ 35 = (rz (zi174 ζ 34).1 (zi174 ζ 34).2, (zi174 ζ 34).2 + 1) := zi174_a 34 35 (by decide) (by decide +kernel)
theorem zn_zi174_35 {ζ : ZP} : (zi174 ζ 35).2 = 193 := zn_a zi174_35 zn_zi174_34 (by decide)
theorem zi174_36 {ζ : ZP} : zi174 ζ 36 = (ru (zi174 ζ 35).1 181 13 (some 192), (zi174 ζ 35).2) := zi174_p 35 36 181 13 192 (by decide) (by decide +kernel)
theorem zn_zi174_36 {ζ : ZP} : (zi174 ζ 36).2 = 193 := zn_p zi174_36 zn_zi174_35
theorem zi174_37 {ζ : ZP} : zi174 ζ 37 = (ru (zi174 ζ 36).1 174 2 (some 181), (zi174 ζ 36).2) := zi174_p 36 37 174 2 181 (by decide) (by decide +kernel)
theorem zn_zi174_37 {ζ : ZP} : (zi174 ζ 37).2 = 193 := zn_p zi174_37 zn_zi174_36
theorem zi174_38 {ζ : ZP} : zi174 ζ 38 = (rz (zi174 ζ 37).1 (zi174 ζ 37).2, (zi174 ζ 37).2 + 1) := zi174_a 37 38 (by decide) (by decide +kernel)
theorem zn_zi174_38 {ζ : ZP} : (zi174 ζ 38).2 = 194 := zn_a zi174_38 zn_zi174_37 (by decide)
theorem zi174_39 {ζ : ZP} : zi174 ζ 39 = (ru (zi174 ζ 38).1 174 4 (some 193), (zi174 ζ 38).2) := zi174_p 38 39 174 4 193 (by decide) (by decide +kernel)
theorem zn_zi174_39 {ζ : ZP} : (zi174 ζ 39).2 = 194 := zn_p zi174_39 zn_zi174_38
theorem zi174_40 {ζ : ZP} : zi174 ζ 40 = (rz (zi174 ζ 39).1 (zi174 ζ 39).2, (zi174 ζ 39).2 + 1) := zi174_a 39 40 (by decide) (by decide +kernel)
theorem zn_zi174_40 {ζ : ZP} : (zi174 ζ 40).2 = 195 := zn_a zi174_40 zn_zi174_39 (by decide)
theorem zi174_41 {ζ : ZP} : zi174 ζ 41 = (ru (zi174 ζ 40).1 174 6 (some 194), (zi174 ζ 40).2) := zi174_p 40 41 174 6 194 (by decide) (by decide +kernel)
theorem zn_zi174_41 {ζ : ZP} : (zi174 ζ 41).2 = 195 := zn_p zi174_41 zn_zi174_40
theorem zi174_42 {ζ : ZP} : zi174 ζ 42 = (rz (zi174 ζ 41).1 (zi174 ζ 41).2, (zi174 ζ 41).2 + 1) := zi174_a 41 42 (by decide) (by decide +kernel)
theorem zn_zi174_42 {ζ : ZP} : (zi174 ζ 42).2 = 196 := zn_a zi174_42 zn_zi174_41 (by decide)
theorem zi174_43 {ζ : ZP} : zi174 ζ 43 = (ru (zi174 ζ 42).1 174 7 (some 195), (zi174 ζ 42).2) := zi174_p 42 43 174 7 195 (by decide) (by decide +kernel)
theorem zn_zi174_43 {ζ : ZP} : (zi174 ζ 43).2 = 196 := zn_p zi174_43 zn_zi174_42
theorem zi174_44 {ζ : ZP} : zi174 ζ 44 = (rz (zi174 ζ 43).1 (zi174 ζ 43).2, (zi174 ζ 43).2 + 1) := zi174_a 43 44 (by decide) (by decide +kernel)
theorem zn_zi174_44 {ζ : ZP} : (zi174 ζ 44).2 = 197 := zn_a zi174_44 zn_zi174_43 (by decide)
theorem zi174_45 {ζ : ZP} : zi174 ζ 45 = (ru (zi174 ζ 44).1 174 8 (some 196), (zi174 ζ 44).2) := zi174_p 44 45 174 8 196 (by decide) (by decide +kernel)
theorem zn_zi174_45 {ζ : ZP} : (zi174 ζ 45).2 = 197 := zn_p zi174_45 zn_zi174_44
theorem zi174_46 {ζ : ZP} : zi174 ζ 46 = (rz (zi174 ζ 45).1 (zi174 ζ 45).2, (zi174 ζ 45).2 + 1) := zi174_a 45 46 (by decide) (by decide +kernel)
theorem zn_zi174_46 {ζ : ZP} : (zi174 ζ 46).2 = 198 := zn_a zi174_46 zn_zi174_45 (by decide)
theorem zi174_47 {ζ : ZP} : zi174 ζ 47 = (ru (zi174 ζ 46).1 174 9 (some 197), (zi174 ζ 46).2) := zi174_p 46 47 174 9 197 (by decide) (by decide +kernel)
theorem zn_zi174_47 {ζ : ZP} : (zi174 ζ 47).2 = 198 := zn_p zi174_47 zn_zi174_46
theorem zi174_48 {ζ : ZP} : zi174 ζ 48 = (rz (zi174 ζ 47).1 (zi174 ζ 47).2, (zi174 ζ 47).2 + 1) := zi174_a 47 48 (by decide) (by decide +kernel)
theorem zn_zi174_48 {ζ : ZP} : (zi174 ζ 48).2 = 199 := zn_a zi174_48 zn_zi174_47 (by decide)
theorem zi174_49 {ζ : ZP} : zi174 ζ 49 = (ru (zi174 ζ 48).1 174 11 (some 198), (zi174 ζ 48).2) := zi174_p 48 49 174 11 198 (by decide) (by decide +kernel)
theorem zn_zi174_49 {ζ : ZP} : (zi174 ζ 49).2 = 199 := zn_p zi174_49 zn_zi174_48
theorem zi174_50 {ζ : ZP} : zi174 ζ 50 = (rz (zi174 ζ 49).1 (zi174 ζ 49).2, (zi174 ζ 49).2 + 1) := zi174_a 49 50 (by decide) (by decide +kernel)
theorem zn_zi174_50 {ζ : ZP} : (zi174 ζ 50).2 = 200 := zn_a zi174_50 zn_zi174_49 (by decide)
theorem zi174_51 {ζ : ZP} : zi174 ζ 51 = (ru (zi174 ζ 50).1 174 12 (some 199), (zi174 ζ 50).2) := zi174_p 50 51 174 12 199 (by decide) (by decide +kernel)
theorem zn_zi174_51 {ζ : ZP} : (zi174 ζ 51).2 = 200 := zn_p zi174_51 zn_zi174_50
theorem zi174_52 {ζ : ZP} : zi174 ζ 52 = (rz (zi174 ζ 51).1 (zi174 ζ 51).2, (zi174 ζ 51).2 + 1) := zi174_a 51 52 (by decide) (by decide +kernel)
theorem zn_zi174_52 {ζ : ZP} : (zi174 ζ 52).2 = 201 := zn_a zi174_52 zn_zi174_51 (by decide)
theorem zi174_53 {ζ : ZP} : zi174 ζ 53 = (ru (zi174 ζ 52).1 174 13 (some 200), (zi174 ζ 52).2) := zi174_p 52 53 174 13 200 (by decide) (by decide +kernel)
theorem zn_zi174_53 {ζ : ZP} : (zi174 ζ 53).2 = 201 := zn_p zi174_53 zn_zi174_52
theorem zi174_54 {ζ : ZP} : zi174 ζ 54 = (rz (zi174 ζ 53).1 (zi174 ζ 53).2, (zi174 ζ 53).2 + 1) := zi174_a 53 54 (by decide) (by decide +kernel)
theorem zn_zi174_54 {ζ : ZP} : (zi174 ζ 54).2 = 202 := zn_a zi174_54 zn_zi174_53 (by decide)
theorem zi174_55 {ζ : ZP} : zi174 ζ 55 = (ru (zi174 ζ 54).1 174 14 (some 201), (zi174 ζ 54).2) := zi174_p 54 55 174 14 201 (by decide) (by decide +kernel)
theorem zn_zi174_55 {ζ : ZP} : (zi174 ζ 55).2 = 202 := zn_p zi174_55 zn_zi174_54
theorem zi174_56 {ζ : ZP} : zi174 ζ 56 = (rz (zi174 ζ 55).1 (zi174 ζ 55).2, (zi174 ζ 55).2 + 1) := zi174_a 55 56 (by decide) (by decide +kernel)
theorem zn_zi174_56 {ζ : ZP} : (zi174 ζ 56).2 = 203 := zn_a zi174_56 zn_zi174_55 (by decide)
theorem zi174_57 {ζ : ZP} : zi174 ζ 57 = (ru (zi174 ζ 56).1 174 15 (some 202), (zi174 ζ 56).2) := zi174_p 56 57 174 15 202 (by decide) (by decide +kernel)
theorem zn_zi174_57 {ζ : ZP} : (zi174 ζ 57).2 = 203 := zn_p zi174_57 zn_zi174_56
theorem zi174_58 {ζ : ZP} : zi174 ζ 58 = (rz (zi174 ζ 57).1 (zi174 ζ 57).2, (zi174 ζ 57).2 + 1) := zi174_a 57 58 (by decide) (by decide +kernel)
theorem zn_zi174_58 {ζ : ZP} : (zi174 ζ 58).2 = 204 := zn_a zi174_58 zn_zi174_57 (by decide)
theorem zi174_59 {ζ : ZP} : zi174 ζ 59 = (ru (zi174 ζ 58).1 174 16 (some 203), (zi174 ζ 58).2) := zi174_p 58 59 174 16 203 (by decide) (by decide +kernel)
theorem zn_zi174_59 {ζ : ZP} : (zi174 ζ 59).2 = 204 := zn_p zi174_59 zn_zi174_58
set_option maxRecDepth 4000 in
theorem k_X0_init_i_175 {l : Launch} {D : Nat} {h : HI} {ζ : ZP} (hz : zb ((zz ζ).1, 174)) (h0 : ∀ a q, 176 ≤ a → a < 1000000 → h a q = 0) : Ret l (D + 1) 3 23 mX0_init (zi174 ζ 2) [aP 175] h (fun v h' z' => v = none ∧ h' = (hlu h 178) ∧ z' = (zi174 ζ 8)) := by
  refine Ret.of 0 pn_X0 [aP 175] rfl rfl ?_
  refine g_aload_n dX0_init_0 rfl ?_
  refine g_obj dX0_init_1 ob_X0_3 (Nat.le_of_ble_eq_true rfl) ?_
  refine g_aload_n dX0_init_4 rfl ?_
  refine g_bipush dX0_init_5 rfl ?_
  refine g_newarr0 (N := 6) (n := 176) (z' := (zi174 ζ 3)) (mc' := 2) (ms' := 17) zn_zi174_2 zi174_3 dX0_init_7 ac_0 rfl (by decide) sh_176 (by decide) rfl (zb_zi174 hz 2) (by decide) (fun q => (far_le (N2 := 176) (by decide) h0) 176 q (by decide) (by decide)) rfl rfl rfl rfl ?_
  refine g_putF0 (z' := (zi174 ζ 4)) zi174_4 dX0_init_9 fl_X0_9 sh_175 (by rw [zn_zi174_3]; decide) (fun _ _ _ => rfl) (narR rfl) rfl rfl ?_
  refine g_aload_n dX0_init_12 rfl ?_
  refine g_bipush dX0_init_13 rfl ?_
  refine g_newarr0 (N := 8) (n := 177) (z' := (zi174 ζ 5)) (mc' := 1) (ms' := 9) zn_zi174_4 zi174_5 dX0_init_15 ac_0 rfl (by decide) sh_177 (by decide) rfl (zb_zi174 hz 4) (by decide) (fun q => (far_le (N2 := 177) (by decide) h0) 177 q (by decide) (by decide)) rfl rfl rfl rfl ?_
  refine g_putF0 (z' := (zi174 ζ 6)) zi174_6 dX0_init_17 fl_X0_15 sh_175 (by rw [zn_zi174_5]; decide) (fun _ _ _ => rfl) (narR rfl) rfl rfl ?_
  refine g_aload_n dX0_init_20 rfl ?_
  refine g_law (t := 2) dX0_init_21 lw_X0_18 (by decide) ?_
  refine g_clone0 (n := 178) (z' := (zi174 ζ 7)) (mc' := 0) (ms' := 0) zn_zi174_6 zi174_7 dX0_init_24 cn_X0_21 sh_178 (zb_zi174 hz 6) (by decide) rfl rfl rfl rfl (Nat.le_of_ble_eq_true rfl) ?_
  refine g_castI dX0_init_27 cl_X0_22 sh_178 (by rw [zn_zi174_7]; decide) ?_
  refine g_putF0 (z' := (zi174 ζ 8)) zi174_8 dX0_init_30 fl_X0_26 sh_175 (by rw [zn_zi174_7]; decide) (fun _ _ _ => rfl) (narR rfl) rfl rfl ?_
  exact g_retv dX0_init_33 rfl ⟨rfl, rfl, rfl⟩
set_option maxRecDepth 4000 in
theorem k_X3_init_i_179 {l : Launch} {D : Nat} {h : HI} {ζ : ZP} (hz : zb ((zz ζ).1, 174)) (h0 : ∀ a q, 180 ≤ a → a < 1000000 → h a q = 0) : Ret l (D + 1) 1 40 mX3_init (zi174 ζ 10) [aP 179] h (fun v h' z' => v = none ∧ h' = h ∧ z' = (zi174 ζ 12)) := by
  refine Ret.of 0 pn_X3 [aP 179] rfl rfl ?_
  refine g_aload_n dX3_init_0 rfl ?_
  refine g_obj dX3_init_1 ob_X3_3 (Nat.le_of_ble_eq_true rfl) ?_
  refine g_aload_n dX3_init_4 rfl ?_
  refine g_bipush dX3_init_5 rfl ?_
  refine g_newarr0 (N := 40) (n := 180) (z' := (zi174 ζ 11)) (mc' := 0) (ms' := 0) zn_zi174_10 zi174_11 dX3_init_7 ac_0 rfl (by decide) sh_180 (by decide) rfl (zb_zi174 hz 10) (by decide) (fun q => (far_le (N2 := 180) (by decide) h0) 180 q (by decide) (by decide)) rfl rfl rfl rfl ?_
  refine g_putF0 (z' := (zi174 ζ 12)) zi174_12 dX3_init_9 fl_X3_11 sh_179 (by rw [zn_zi174_11]; decide) (fun _ _ _ => rfl) (narR rfl) rfl rfl ?_
  exact g_retv dX3_init_12 rfl ⟨rfl, rfl, rfl⟩
set_option maxRecDepth 4000 in
theorem k_X1_init_i_181 {l : Launch} {D : Nat} {h : HI} {ζ : ZP} (hz : zb ((zz ζ).1, 174)) (h0 : ∀ a q, 182 ≤ a → a < 1000000 → h a q = 0) : Ret l (D + 1) 11 660 mX1_init (zi174 ζ 14) [aP 181] h (fun v h' z' => v = none ∧ h' = h ∧ z' = (zi174 ζ 36)) := by
  refine Ret.of 0 pn_X1 [aP 181] rfl rfl ?_
  refine g_aload_n dX1_init_0 rfl ?_
  refine g_obj dX1_init_1 ob_X1_3 (Nat.le_of_ble_eq_true rfl) ?_
  refine g_aload_n dX1_init_4 rfl ?_
  refine g_bipush dX1_init_5 rfl ?_
  refine g_newarr0 (N := 60) (n := 182) (z' := (zi174 ζ 15)) (mc' := 10) (ms' := 600) zn_zi174_14 zi174_15 dX1_init_7 ac_0 rfl (by decide) sh_182 (by decide) rfl (zb_zi174 hz 14) (by decide) (fun q => (far_le (N2 := 182) (by decide) h0) 182 q (by decide) (by decide)) rfl rfl rfl rfl ?_
  refine g_putF0 (z' := (zi174 ζ 16)) zi174_16 dX1_init_9 fl_X1_9 sh_181 (by rw [zn_zi174_15]; decide) (fun _ _ _ => rfl) (narR rfl) rfl rfl ?_
  refine g_aload_n dX1_init_12 rfl ?_
  refine g_sipush dX1_init_13 rfl ?_
  refine g_newarr0 (N := 400) (n := 183) (z' := (zi174 ζ 17)) (mc' := 9) (ms' := 200) zn_zi174_16 zi174_17 dX1_init_16 ac_0 rfl (by decide) sh_183 (by decide) rfl (zb_zi174 hz 16) (by decide) (fun q => (far_le (N2 := 183) (by decide) h0) 183 q (by decide) (by decide)) rfl rfl rfl rfl ?_
  refine g_putF0 (z' := (zi174 ζ 18)) zi174_18 dX1_init_18 fl_X1_15 sh_181 (by rw [zn_zi174_17]; decide) (fun _ _ _ => rfl) (narR rfl) rfl rfl ?_
  refine g_aload_n dX1_init_21 rfl ?_
  refine g_bipush dX1_init_22 rfl ?_
  refine g_newarr0 (N := 10) (n := 184) (z' := (zi174 ζ 19)) (mc' := 8) (ms' := 190) zn_zi174_18 zi174_19 dX1_init_24 ac_0 rfl (by decide) sh_184 (by decide) rfl (zb_zi174 hz 18) (by decide) (fun q => (far_le (N2 := 184) (by decide) h0) 184 q (by decide) (by decide)) rfl rfl rfl rfl ?_
  refine g_putF0 (z' := (zi174 ζ 20)) zi174_20 dX1_init_26 fl_X1_18 sh_181 (by rw [zn_zi174_19]; decide) (fun _ _ _ => rfl) (narR rfl) rfl rfl ?_
  refine g_aload_n dX1_init_29 rfl ?_
  refine g_bipush dX1_init_30 rfl ?_
  refine g_newarr0 (N := 10) (n := 185) (z' := (zi174 ζ 21)) (mc' := 7) (ms' := 180) zn_zi174_20 zi174_21 dX1_init_32 ac_0 rfl (by decide) sh_185 (by decide) rfl (zb_zi174 hz 20) (by decide) (fun q => (far_le (N2 := 185) (by decide) h0) 185 q (by decide) (by decide)) rfl rfl rfl rfl ?_
  refine g_putF0 (z' := (zi174 ζ 22)) zi174_22 dX1_init_34 fl_X1_21 sh_181 (by rw [zn_zi174_21]; decide) (fun _ _ _ => rfl) (narR rfl) rfl rfl ?_
  refine g_aload_n dX1_init_37 rfl ?_
  refine g_bipush dX1_init_38 rfl ?_
  refine g_newarr0 (N := 10) (n := 186) (z' := (zi174 ζ 23)) (mc' := 6) (ms' := 170) zn_zi174_22 zi174_23 dX1_init_40 ac_0 rfl (by decide) sh_186 (by decide) rfl (zb_zi174 hz 22) (by decide) (fun q => (far_le (N2 := 186) (by decide) h0) 186 q (by decide) (by decide)) rfl rfl rfl rfl ?_
  refine g_putF0 (z' := (zi174 ζ 24)) zi174_24 dX1_init_42 fl_X1_24 sh_181 (by rw [zn_zi174_23]; decide) (fun _ _ _ => rfl) (narR rfl) rfl rfl ?_
  refine g_aload_n dX1_init_45 rfl ?_
  refine g_bipush dX1_init_46 rfl ?_
  refine g_newarr0 (N := 10) (n := 187) (z' := (zi174 ζ 25)) (mc' := 5) (ms' := 160) zn_zi174_24 zi174_25 dX1_init_48 ac_0 rfl (by decide) sh_187 (by decide) rfl (zb_zi174 hz 24) (by decide) (fun q => (far_le (N2 := 187) (by decide) h0) 187 q (by decide) (by decide)) rfl rfl rfl rfl ?_
  refine g_putF0 (z' := (zi174 ζ 26)) zi174_26 dX1_init_50 fl_X1_27 sh_181 (by rw [zn_zi174_25]; decide) (fun _ _ _ => rfl) (narR rfl) rfl rfl ?_
  refine g_aload_n dX1_init_53 rfl ?_
  refine g_bipush dX1_init_54 rfl ?_
  refine g_newarr0 (N := 30) (n := 188) (z' := (zi174 ζ 27)) (mc' := 4) (ms' := 130) zn_zi174_26 zi174_27 dX1_init_56 ac_0 rfl (by decide) sh_188 (by decide) rfl (zb_zi174 hz 26) (by decide) (fun q => (far_le (N2 := 188) (by decide) h0) 188 q (by decide) (by decide)) rfl rfl rfl rfl ?_
  refine g_putF0 (z' := (zi174 ζ 28)) zi174_28 dX1_init_58 fl_X1_30 sh_181 (by rw [zn_zi174_27]; decide) (fun _ _ _ => rfl) (narR rfl) rfl rfl ?_
  refine g_aload_n dX1_init_61 rfl ?_
  refine g_bipush dX1_init_62 rfl ?_
  refine g_newarr0 (N := 30) (n := 189) (z' := (zi174 ζ 29)) (mc' := 3) (ms' := 100) zn_zi174_28 zi174_29 dX1_init_64 ac_0 rfl (by decide) sh_189 (by decide) rfl (zb_zi174 hz 28) (by decide) (fun q => (far_le (N2 := 189) (by decide) h0) 189 q (by decide) (by decide)) rfl rfl rfl rfl ?_
  refine g_putF0 (z' := (zi174 ζ 30)) zi174_30 dX1_init_66 fl_X1_33 sh_181 (by rw [zn_zi174_29]; decide) (fun _ _ _ => rfl) (narR rfl) rfl rfl ?_
  refine g_aload_n dX1_init_69 rfl ?_
  refine g_bipush dX1_init_70 rfl ?_
  refine g_newarr0 (N := 30) (n := 190) (z' := (zi174 ζ 31)) (mc' := 2) (ms' := 70) zn_zi174_30 zi174_31 dX1_init_72 ac_0 rfl (by decide) sh_190 (by decide) rfl (zb_zi174 hz 30) (by decide) (fun q => (far_le (N2 := 190) (by decide) h0) 190 q (by decide) (by decide)) rfl rfl rfl rfl ?_
  refine g_putF0 (z' := (zi174 ζ 32)) zi174_32 dX1_init_74 fl_X1_36 sh_181 (by rw [zn_zi174_31]; decide) (fun _ _ _ => rfl) (narR rfl) rfl rfl ?_
  refine g_aload_n dX1_init_77 rfl ?_
  refine g_bipush dX1_init_78 rfl ?_
  refine g_newarr0 (N := 30) (n := 191) (z' := (zi174 ζ 33)) (mc' := 1) (ms' := 40) zn_zi174_32 zi174_33 dX1_init_80 ac_0 rfl (by decide) sh_191 (by decide) rfl (zb_zi174 hz 32) (by decide) (fun q => (far_le (N2 := 191) (by decide) h0) 191 q (by decide) (by decide)) rfl rfl rfl rfl ?_
  refine g_putF0 (z' := (zi174 ζ 34)) zi174_34 dX1_init_82 fl_X1_39 sh_181 (by rw [zn_zi174_33]; decide) (fun _ _ _ => rfl) (narR rfl) rfl rfl ?_
  refine g_aload_n dX1_init_85 rfl ?_
  refine g_bipush dX1_init_86 rfl ?_
  refine g_newarr0 (N := 40) (n := 192) (z' := (zi174 ζ 35)) (mc' := 0) (ms' := 0) zn_zi174_34 zi174_35 dX1_init_88 ac_0 rfl (by decide) sh_192 (by decide) rfl (zb_zi174 hz 34) (by decide) (fun q => (far_le (N2 := 192) (by decide) h0) 192 q (by decide) (by decide)) rfl rfl rfl rfl ?_
  refine g_putF0 (z' := (zi174 ζ 36)) zi174_36 dX1_init_90 fl_X1_42 sh_181 (by rw [zn_zi174_35]; decide) (fun _ _ _ => rfl) (narR rfl) rfl rfl ?_
  exact g_retv dX1_init_93 rfl ⟨rfl, rfl, rfl⟩
set_option maxRecDepth 4000 in
theorem k_X5_init_i_174 {l : Launch} {D : Nat} {h : HI} {ζ : ZP} (hz : zb ((zz ζ).1, 174)) (h0 : ∀ a q, 175 ≤ a → a < 1000000 → h a q = 0) : Ret l (D + 2) 29 1967 mX5_init (zi174 ζ 1) [aP 174] h (fun v h' z' => v = none ∧ h' = (hlu h 178) ∧ z' = (zi174 ζ 59)) := by
  refine Ret.of 0 pn_X5 [aP 174] rfl rfl ?_
  refine g_aload_n dX5_init_0 rfl ?_
  refine g_obj dX5_init_1 ob_X5_3 (Nat.le_of_ble_eq_true rfl) ?_
  refine g_aload_n dX5_init_4 rfl ?_
  refine g_new0 (n := 175) (z' := (zi174 ζ 2)) (mc' := 28) (ms' := 1960) zn_zi174_1 zi174_2 dX5_init_5 nw_X5_9 sh_175 (zb_zi174 hz 1) (by decide) (fun q => (far_le (N2 := 175) (by decide) h0) 175 q (by decide) (by decide)) rfl rfl rfl rfl ?_
  refine g_dup dX5_init_8 rfl ?_
  refine g_callIN (n := 0) (As := []) (st := [aP 175, aP 174]) (mc' := 3) (ms' := 23) (mcR := 25) (msR := 1937) dX5_init_9 ml_X5_11 rfl rfl (Nat.le_of_ble_eq_true rfl) rfl rfl rfl rfl (Ret.mono (k_X0_init_i_175 hz (far_le (N2 := 176) (by decide) h0)) (fun v h' z' q => ?_))
  obtain ⟨rfl, rfl, rfl⟩ := q
  refine ⟨rfl, ?_⟩
  refine g_putF0 (z' := (zi174 ζ 9)) zi174_9 dX5_init_12 fl_X5_12 sh_174 (by rw [zn_zi174_8]; decide) (fun _ _ _ => rfl) (narR rfl) rfl rfl ?_
  refine g_aload_n dX5_init_15 rfl ?_
  refine g_new0 (n := 179) (z' := (zi174 ζ 10)) (mc' := 24) (ms' := 1934) zn_zi174_9 zi174_10 dX5_init_16 nw_X5_18 sh_179 (zb_zi174 hz 9) (by decide) (fun q => (hlu_far (by decide) (far_le (N2 := 179) (by decide) h0)) 179 q (by decide) (by decide)) rfl rfl rfl rfl ?_
  refine g_dup dX5_init_19 rfl ?_
  refine g_callIN (n := 0) (As := []) (st := [aP 179, aP 174]) (mc' := 1) (ms' := 40) (mcR := 23) (msR := 1894) dX5_init_20 ml_X5_20 rfl rfl (Nat.le_of_ble_eq_true rfl) rfl rfl rfl rfl (Ret.mono (k_X3_init_i_179 hz (hlu_far (by decide) (far_le (N2 := 180) (by decide) h0))) (fun v h' z' q => ?_))
  obtain ⟨rfl, rfl, rfl⟩ := q
  refine ⟨rfl, ?_⟩
  refine g_putF0 (z' := (zi174 ζ 13)) zi174_13 dX5_init_23 fl_X5_21 sh_174 (by rw [zn_zi174_12]; decide) (fun _ _ _ => rfl) (narR rfl) rfl rfl ?_
  refine g_aload_n dX5_init_26 rfl ?_
  refine g_new0 (n := 181) (z' := (zi174 ζ 14)) (mc' := 22) (ms' := 1880) zn_zi174_13 zi174_14 dX5_init_27 nw_X5_25 sh_181 (zb_zi174 hz 13) (by decide) (fun q => (hlu_far (by decide) (far_le (N2 := 181) (by decide) h0)) 181 q (by decide) (by decide)) rfl rfl rfl rfl ?_
  refine g_dup dX5_init_30 rfl ?_
  refine g_callIN (n := 0) (As := []) (st := [aP 181, aP 174]) (mc' := 11) (ms' := 660) (mcR := 11) (msR := 1220) dX5_init_31 ml_X5_27 rfl rfl (Nat.le_of_ble_eq_true rfl) rfl rfl rfl rfl (Ret.mono (k_X1_init_i_181 hz (hlu_far (by decide) (far_le (N2 := 182) (by decide) h0))) (fun v h' z' q => ?_))
  obtain ⟨rfl, rfl, rfl⟩ := q
  refine ⟨rfl, ?_⟩
  refine g_putF0 (z' := (zi174 ζ 37)) zi174_37 dX5_init_34 fl_X5_28 sh_174 (by rw [zn_zi174_36]; decide) (fun _ _ _ => rfl) (narR rfl) rfl rfl ?_
  refine g_aload_n dX5_init_37 rfl ?_
  refine g_bipush dX5_init_38 rfl ?_
  refine g_newarr0 (N := 60) (n := 193) (z' := (zi174 ζ 38)) (mc' := 10) (ms' := 1160) zn_zi174_37 zi174_38 dX5_init_40 ac_0 rfl (by decide) sh_193 (by decide) rfl (zb_zi174 hz 37) (by decide) (fun q => (hlu_far (by decide) (far_le (N2 := 193) (by decide) h0)) 193 q (by decide) (by decide)) rfl rfl rfl rfl ?_
  refine g_putF0 (z' := (zi174 ζ 39)) zi174_39 dX5_init_42 fl_X5_32 sh_174 (by rw [zn_zi174_38]; decide) (fun _ _ _ => rfl) (narR rfl) rfl rfl ?_
  refine g_aload_n dX5_init_45 rfl ?_
  refine g_sipush dX5_init_46 rfl ?_
  refine g_newarr0 (N := 200) (n := 194) (z' := (zi174 ζ 40)) (mc' := 9) (ms' := 960) zn_zi174_39 zi174_40 dX5_init_49 ac_0 rfl (by decide) sh_194 (by decide) rfl (zb_zi174 hz 39) (by decide) (fun q => (hlu_far (by decide) (far_le (N2 := 194) (by decide) h0)) 194 q (by decide) (by decide)) rfl rfl rfl rfl ?_
  refine g_putF0 (z' := (zi174 ζ 41)) zi174_41 dX5_init_51 fl_X5_36 sh_174 (by rw [zn_zi174_40]; decide) (fun _ _ _ => rfl) (narR rfl) rfl rfl ?_
  refine g_aload_n dX5_init_54 rfl ?_
  refine g_sipush dX5_init_55 rfl ?_
  refine g_newarr0 (N := 200) (n := 195) (z' := (zi174 ζ 42)) (mc' := 8) (ms' := 760) zn_zi174_41 zi174_42 dX5_init_58 ac_0 rfl (by decide) sh_195 (by decide) rfl (zb_zi174 hz 41) (by decide) (fun q => (hlu_far (by decide) (far_le (N2 := 195) (by decide) h0)) 195 q (by decide) (by decide)) rfl rfl rfl rfl ?_
  refine g_putF0 (z' := (zi174 ζ 43)) zi174_43 dX5_init_60 fl_X5_39 sh_174 (by rw [zn_zi174_42]; decide) (fun _ _ _ => rfl) (narR rfl) rfl rfl ?_
  refine g_aload_n dX5_init_63 rfl ?_
  refine g_sipush dX5_init_64 rfl ?_
  refine g_newarr0 (N := 200) (n := 196) (z' := (zi174 ζ 44)) (mc' := 7) (ms' := 560) zn_zi174_43 zi174_44 dX5_init_67 ac_0 rfl (by decide) sh_196 (by decide) rfl (zb_zi174 hz 43) (by decide) (fun q => (hlu_far (by decide) (far_le (N2 := 196) (by decide) h0)) 196 q (by decide) (by decide)) rfl rfl rfl rfl ?_
  refine g_putF0 (z' := (zi174 ζ 45)) zi174_45 dX5_init_69 fl_X5_42 sh_174 (by rw [zn_zi174_44]; decide) (fun _ _ _ => rfl) (narR rfl) rfl rfl ?_
  refine g_aload_n dX5_init_72 rfl ?_
  refine g_sipush dX5_init_73 rfl ?_
  refine g_newarr0 (N := 200) (n := 197) (z' := (zi174 ζ 46)) (mc' := 6) (ms' := 360) zn_zi174_45 zi174_46 dX5_init_76 ac_0 rfl (by decide) sh_197 (by decide) rfl (zb_zi174 hz 45) (by decide) (fun q => (hlu_far (by decide) (far_le (N2 := 197) (by decide) h0)) 197 q (by decide) (by decide)) rfl rfl rfl rfl ?_
  refine g_putF0 (z' := (zi174 ζ 47)) zi174_47 dX5_init_78 fl_X5_45 sh_174 (by rw [zn_zi174_46]; decide) (fun _ _ _ => rfl) (narR rfl) rfl rfl ?_
  refine g_aload_n dX5_init_81 rfl ?_
  refine g_bipush dX5_init_82 rfl ?_
  refine g_newarr0 (N := 60) (n := 198) (z' := (zi174 ζ 48)) (mc' := 5) (ms' := 300) zn_zi174_47 zi174_48 dX5_init_84 ac_0 rfl (by decide) sh_198 (by decide) rfl (zb_zi174 hz 47) (by decide) (fun q => (hlu_far (by decide) (far_le (N2 := 198) (by decide) h0)) 198 q (by decide) (by decide)) rfl rfl rfl rfl ?_
  refine g_putF0 (z' := (zi174 ζ 49)) zi174_49 dX5_init_86 fl_X5_48 sh_174 (by rw [zn_zi174_48]; decide) (fun _ _ _ => rfl) (narR rfl) rfl rfl ?_
  refine g_aload_n dX5_init_89 rfl ?_
  refine g_bipush dX5_init_90 rfl ?_
  refine g_newarr0 (N := 60) (n := 199) (z' := (zi174 ζ 50)) (mc' := 4) (ms' := 240) zn_zi174_49 zi174_50 dX5_init_92 ac_0 rfl (by decide) sh_199 (by decide) rfl (zb_zi174 hz 49) (by decide) (fun q => (hlu_far (by decide) (far_le (N2 := 199) (by decide) h0)) 199 q (by decide) (by decide)) rfl rfl rfl rfl ?_
  refine g_putF0 (z' := (zi174 ζ 51)) zi174_51 dX5_init_94 fl_X5_51 sh_174 (by rw [zn_zi174_50]; decide) (fun _ _ _ => rfl) (narR rfl) rfl rfl ?_
  refine g_aload_n dX5_init_97 rfl ?_
  refine g_bipush dX5_init_98 rfl ?_
  refine g_newarr0 (N := 60) (n := 200) (z' := (zi174 ζ 52)) (mc' := 3) (ms' := 180) zn_zi174_51 zi174_52 dX5_init_100 ac_0 rfl (by decide) sh_200 (by decide) rfl (zb_zi174 hz 51) (by decide) (fun q => (hlu_far (by decide) (far_le (N2 := 200) (by decide) h0)) 200 q (by decide) (by decide)) rfl rfl rfl rfl ?_
  refine g_putF0 (z' := (zi174 ζ 53)) zi174_53 dX5_init_102 fl_X5_54 sh_174 (by rw [zn_zi174_52]; decide) (fun _ _ _ => rfl) (narR rfl) rfl rfl ?_
  refine g_aload_n dX5_init_105 rfl ?_
  refine g_bipush dX5_init_106 rfl ?_
  refine g_newarr0 (N := 60) (n := 201) (z' := (zi174 ζ 54)) (mc' := 2) (ms' := 120) zn_zi174_53 zi174_54 dX5_init_108 ac_0 rfl (by decide) sh_201 (by decide) rfl (zb_zi174 hz 53) (by decide) (fun q => (hlu_far (by decide) (far_le (N2 := 201) (by decide) h0)) 201 q (by decide) (by decide)) rfl rfl rfl rfl ?_
  refine g_putF0 (z' := (zi174 ζ 55)) zi174_55 dX5_init_110 fl_X5_57 sh_174 (by rw [zn_zi174_54]; decide) (fun _ _ _ => rfl) (narR rfl) rfl rfl ?_
  refine g_aload_n dX5_init_113 rfl ?_
  refine g_bipush dX5_init_114 rfl ?_
  refine g_newarr0 (N := 60) (n := 202) (z' := (zi174 ζ 56)) (mc' := 1) (ms' := 60) zn_zi174_55 zi174_56 dX5_init_116 ac_0 rfl (by decide) sh_202 (by decide) rfl (zb_zi174 hz 55) (by decide) (fun q => (hlu_far (by decide) (far_le (N2 := 202) (by decide) h0)) 202 q (by decide) (by decide)) rfl rfl rfl rfl ?_
  refine g_putF0 (z' := (zi174 ζ 57)) zi174_57 dX5_init_118 fl_X5_60 sh_174 (by rw [zn_zi174_56]; decide) (fun _ _ _ => rfl) (narR rfl) rfl rfl ?_
  refine g_aload_n dX5_init_121 rfl ?_
  refine g_bipush dX5_init_122 rfl ?_
  refine g_newarr0 (N := 60) (n := 203) (z' := (zi174 ζ 58)) (mc' := 0) (ms' := 0) zn_zi174_57 zi174_58 dX5_init_124 ac_0 rfl (by decide) sh_203 (by decide) rfl (zb_zi174 hz 57) (by decide) (fun q => (hlu_far (by decide) (far_le (N2 := 203) (by decide) h0)) 203 q (by decide) (by decide)) rfl rfl rfl rfl ?_
  refine g_putF0 (z' := (zi174 ζ 59)) zi174_59 dX5_init_126 fl_X5_63 sh_174 (by rw [zn_zi174_58]; decide) (fun _ _ _ => rfl) (narR rfl) rfl rfl ?_
  exact g_retv dX5_init_129 rfl ⟨rfl, rfl, rfl⟩
