/-! the law's network is drawn: the rest of it -/
def grT (gx gy co ro st te sh lo tn tf vo sl de : Int) : List Int := [] ++ strL 2010 ++ dg gx ++ strL 2011 ++ dg gy ++ strL 2011 ++ dg co ++ strL 2011 ++ dg ro ++ strL 2011 ++ dg st ++ strL 2012 ++ dg te ++ strL 2013 ++ dg sh ++ strL 2011 ++ dg lo ++ strL 2014 ++ dg tn ++ strL 2011 ++ dg tf ++ strL 2015 ++ dg vo ++ strL 2016 ++ dg sl ++ strL 2017 ++ dg de ++ strL 2018
theorem len_app {D E : List Int} {a b : Nat} (h : D.length ≤ a) (h2 : E.length ≤ b) : (D ++ E).length ≤ a + b := by rw [List.length_append]; omega
def NF (v0 v : uS) (F : Int → Int) : Prop := v 264 = F ∧ ∀ c, c ≠ 264 → c ≠ 357 → v c = v0 c
section NN1
variable {u v v0 w : uS} {m : Int} {Q : Int × uS → Prop}
theorem nfd {F g : Int → Int} {i k : Int} {go : uS → Option (Int × uS)} (h : NF v0 v F) (hm : 0 < k ∧ k ≤ 1000000) (kk : ∀ x w, 0 ≤ x → x < k → NF v0 w (fun b => if b = i then g x else F b) → wp (go w) Q) : wp (xbd (f_L_draw k v) fun x u' => xlet (up u' 264 i (g x)) go) Q := by
  refine wp_b (wdraw hm) (fun x w hw => ?_)
  obtain ⟨hx, hk⟩ := hw
  have hk : ∀ d, d ≠ 357 → w d = v d := hk
  refine wp_l (fun z hz => ?_)
  refine kk x z hx.1 hx.2 ⟨?_, fun c c0 c1 => by rw [hz, up_c c0, hk c c1]; exact h.2 c c0 c1⟩
  rw [hz, up_row, hk 264 (by decide), h.1]
/-- what is drawn for the grid and the rest, within its bounds -/
def GB (gx gy co ro st te sh lo tn tf vo sl de : Int) : Prop := (0 ≤ gx ∧ gx < 100) ∧ (0 ≤ gy ∧ gy < 100) ∧ (1 ≤ co ∧ co ≤ 4) ∧ (1 ≤ ro ∧ ro ≤ 4) ∧ (1 ≤ st ∧ st ≤ 60) ∧ (1 ≤ te ∧ te ≤ 400) ∧ (1 ≤ sh ∧ sh ≤ 4) ∧ (sh ≤ lo ∧ lo ≤ sh + 7) ∧ (50 ≤ tn ∧ tn < 300) ∧ (0 ≤ tf ∧ tf ≤ tn) ∧ (1 ≤ vo ∧ vo ≤ 4) ∧ (0 ≤ sl ∧ sl ≤ 5) ∧ (0 ≤ de ∧ de ≤ 3)
theorem grT_l {gx gy co ro st te sh lo tn tf vo sl de : Int} (h : GB gx gy co ro st te sh lo tn tf vo sl de) : (grT gx gy co ro st te sh lo tn tf vo sl de).length ≤ 81 ∧ AD (grT gx gy co ro st te sh lo tn tf vo sl de) := by
  obtain ⟨h11, h12, h13, h14, h15, h16, h17, h18, h19, h20, h21, h22, h23⟩ := h
  unfold grT
  refine ⟨?_, ?_⟩
  · exact (len_app (len_app (len_app (len_app (len_app (len_app (len_app (len_app (len_app (len_app (len_app (len_app (len_app (len_app (len_app (len_app (len_app (len_app (len_app (len_app (len_app (len_app (len_app (len_app (len_app (len_app (len_app (Nat.le_refl 0) (show (strL 2010).length ≤ 5 by decide +kernel)) (dgl2 (x := gx) (by omega))) (show (strL 2011).length ≤ 1 by decide +kernel)) (dgl2 (x := gy) (by omega))) (show (strL 2011).length ≤ 1 by decide +kernel)) (dgl1 (x := co) (by omega))) (show (strL 2011).length ≤ 1 by decide +kernel)) (dgl1 (x := ro) (by omega))) (show (strL 2011).length ≤ 1 by decide +kernel)) (dgl2 (x := st) (by omega))) (show (strL 2012).length ≤ 7 by decide +kernel)) (dgl3 (x := te) (by omega))) (show (strL 2013).length ≤ 9 by decide +kernel)) (dgl1 (x := sh) (by omega))) (show (strL 2011).length ≤ 1 by decide +kernel)) (dgl2 (x := lo) (by omega))) (show (strL 2014).length ≤ 9 by decide +kernel)) (dgl3 (x := tn) (by omega))) (show (strL 2011).length ≤ 1 by decide +kernel)) (dgl3 (x := tf) (by omega))) (show (strL 2015).length ≤ 7 by decide +kernel)) (dgl1 (x := vo) (by omega))) (show (strL 2016).length ≤ 7 by decide +kernel)) (dgl1 (x := sl) (by omega))) (show (strL 2017).length ≤ 7 by decide +kernel)) (dgl1 (x := de) (by omega))) (show (strL 2018).length ≤ 1 by decide +kernel))
  · exact (AD.app (AD.app (AD.app (AD.app (AD.app (AD.app (AD.app (AD.app (AD.app (AD.app (AD.app (AD.app (AD.app (AD.app (AD.app (AD.app (AD.app (AD.app (AD.app (AD.app (AD.app (AD.app (AD.app (AD.app (AD.app (AD.app (AD.app AD.n (AD.s (k := 2010) (by decide))) (AD.d (x := gx) (by omega))) (AD.s (k := 2011) (by decide))) (AD.d (x := gy) (by omega))) (AD.s (k := 2011) (by decide))) (AD.d (x := co) (by omega))) (AD.s (k := 2011) (by decide))) (AD.d (x := ro) (by omega))) (AD.s (k := 2011) (by decide))) (AD.d (x := st) (by omega))) (AD.s (k := 2012) (by decide))) (AD.d (x := te) (by omega))) (AD.s (k := 2013) (by decide))) (AD.d (x := sh) (by omega))) (AD.s (k := 2011) (by decide))) (AD.d (x := lo) (by omega))) (AD.s (k := 2014) (by decide))) (AD.d (x := tn) (by omega))) (AD.s (k := 2011) (by decide))) (AD.d (x := tf) (by omega))) (AD.s (k := 2015) (by decide))) (AD.d (x := vo) (by omega))) (AD.s (k := 2016) (by decide))) (AD.d (x := sl) (by omega))) (AD.s (k := 2017) (by decide))) (AD.d (x := de) (by omega))) (AD.s (k := 2018) (by decide)))
/-- the grid's text, from an empty StringBuilder -/
theorem wgrid {gx gy co ro st te sh lo tn tf vo sl de : Int} {z : uS} {go : uS → Option (Int × uS)} (hb : GB gx gy co ro st te sh lo tn tf vo sl de) (ht : TXl z [])
    (r11 : z 264 11 = gx) (r12 : z 264 12 = gy) (r13 : z 264 13 = co) (r14 : z 264 14 = ro) (r15 : z 264 15 = st) (r16 : z 264 16 = te) (r17 : z 264 17 = sh) (r18 : z 264 18 = lo) (r19 : z 264 19 = tn) (r20 : z 264 20 = tf) (r21 : z 264 21 = vo) (r22 : z 264 22 = sl) (r23 : z 264 23 = de)
    (kk : ∀ w, FrC z w → TXl w (grT gx gy co ro st te sh lo tn tf vo sl de) → wp (go w) Q) :
    wp (xbd (f_J4_append_15ec4 2010 z) fun v1 w1 => xgd (v1 = 37) <| xbd (f_J4_append_bf812 (w1 264 11) w1) fun v2 w2 => xgd (v2 = 37) <| xbd (f_J4_append_15ec4 2011 w2) fun v3 w3 => xgd (v3 = 37) <| xbd (f_J4_append_bf812 (w3 264 12) w3) fun v4 w4 => xgd (v4 = 37) <| xbd (f_J4_append_15ec4 2011 w4) fun v5 w5 => xgd (v5 = 37) <| xbd (f_J4_append_bf812 (w5 264 13) w5) fun v6 w6 => xgd (v6 = 37) <| xbd (f_J4_append_15ec4 2011 w6) fun v7 w7 => xgd (v7 = 37) <| xbd (f_J4_append_bf812 (w7 264 14) w7) fun v8 w8 => xgd (v8 = 37) <| xbd (f_J4_append_15ec4 2011 w8) fun v9 w9 => xgd (v9 = 37) <| xbd (f_J4_append_bf812 (w9 264 15) w9) fun v10 w10 => xgd (v10 = 37) <| xbd (f_J4_append_15ec4 2012 w10) fun v11 w11 => xgd (v11 = 37) <| xbd (f_J4_append_bf812 (w11 264 16) w11) fun v12 w12 => xgd (v12 = 37) <| xbd (f_J4_append_15ec4 2013 w12) fun v13 w13 => xgd (v13 = 37) <| xbd (f_J4_append_bf812 (w13 264 17) w13) fun v14 w14 => xgd (v14 = 37) <| xbd (f_J4_append_15ec4 2011 w14) fun v15 w15 => xgd (v15 = 37) <| xbd (f_J4_append_bf812 (w15 264 18) w15) fun v16 w16 => xgd (v16 = 37) <| xbd (f_J4_append_15ec4 2014 w16) fun v17 w17 => xgd (v17 = 37) <| xbd (f_J4_append_bf812 (w17 264 19) w17) fun v18 w18 => xgd (v18 = 37) <| xbd (f_J4_append_15ec4 2011 w18) fun v19 w19 => xgd (v19 = 37) <| xbd (f_J4_append_bf812 (w19 264 20) w19) fun v20 w20 => xgd (v20 = 37) <| xbd (f_J4_append_15ec4 2015 w20) fun v21 w21 => xgd (v21 = 37) <| xbd (f_J4_append_bf812 (w21 264 21) w21) fun v22 w22 => xgd (v22 = 37) <| xbd (f_J4_append_15ec4 2016 w22) fun v23 w23 => xgd (v23 = 37) <| xbd (f_J4_append_bf812 (w23 264 22) w23) fun v24 w24 => xgd (v24 = 37) <| xbd (f_J4_append_15ec4 2017 w24) fun v25 w25 => xgd (v25 = 37) <| xbd (f_J4_append_bf812 (w25 264 23) w25) fun v26 w26 => xgd (v26 = 37) <| xbd (f_J4_append_15ec4 2018 w26) fun v27 w27 => xgd (v27 = 37) <| go w27) Q := by
  obtain ⟨h11, h12, h13, h14, h15, h16, h17, h18, h19, h20, h21, h22, h23⟩ := hb
  have l0 : ([] : List Int).length ≤ 0 := Nat.le_refl 0
  have g0 : FrC z z := FrC.rf
  have t0 := ht
  have k1 : (strL 2010).length ≤ 5 := by decide +kernel
  refine sS (by decide) t0 (Nat.le_trans (Nat.add_le_add l0 k1) (by decide)) (fun w1 f1 t1 => ?_)
  have l1 := len_app l0 k1
  have g1 := g0.tr f1
  have k2 : (dg gx).length ≤ 2 := dgl2 (by omega)
  rw [show w1 264 11 = gx from (congrFun (g1.1 264 (by decide) (by decide) (by decide)) 11).trans r11]
  refine sI (by omega) t1 (Nat.le_trans (Nat.add_le_add_right l1 4) (by decide)) (fun w2 f2 t2 => ?_)
  have l2 := len_app l1 k2
  have g2 := g1.tr f2
  have k3 : (strL 2011).length ≤ 1 := by decide +kernel
  refine sS (by decide) t2 (Nat.le_trans (Nat.add_le_add l2 k3) (by decide)) (fun w3 f3 t3 => ?_)
  have l3 := len_app l2 k3
  have g3 := g2.tr f3
  have k4 : (dg gy).length ≤ 2 := dgl2 (by omega)
  rw [show w3 264 12 = gy from (congrFun (g3.1 264 (by decide) (by decide) (by decide)) 12).trans r12]
  refine sI (by omega) t3 (Nat.le_trans (Nat.add_le_add_right l3 4) (by decide)) (fun w4 f4 t4 => ?_)
  have l4 := len_app l3 k4
  have g4 := g3.tr f4
  have k5 : (strL 2011).length ≤ 1 := by decide +kernel
  refine sS (by decide) t4 (Nat.le_trans (Nat.add_le_add l4 k5) (by decide)) (fun w5 f5 t5 => ?_)
  have l5 := len_app l4 k5
  have g5 := g4.tr f5
  have k6 : (dg co).length ≤ 1 := dgl1 (by omega)
  rw [show w5 264 13 = co from (congrFun (g5.1 264 (by decide) (by decide) (by decide)) 13).trans r13]
  refine sI (by omega) t5 (Nat.le_trans (Nat.add_le_add_right l5 4) (by decide)) (fun w6 f6 t6 => ?_)
  have l6 := len_app l5 k6
  have g6 := g5.tr f6
  have k7 : (strL 2011).length ≤ 1 := by decide +kernel
  refine sS (by decide) t6 (Nat.le_trans (Nat.add_le_add l6 k7) (by decide)) (fun w7 f7 t7 => ?_)
  have l7 := len_app l6 k7
  have g7 := g6.tr f7
  have k8 : (dg ro).length ≤ 1 := dgl1 (by omega)
  rw [show w7 264 14 = ro from (congrFun (g7.1 264 (by decide) (by decide) (by decide)) 14).trans r14]
  refine sI (by omega) t7 (Nat.le_trans (Nat.add_le_add_right l7 4) (by decide)) (fun w8 f8 t8 => ?_)
  have l8 := len_app l7 k8
  have g8 := g7.tr f8
  have k9 : (strL 2011).length ≤ 1 := by decide +kernel
  refine sS (by decide) t8 (Nat.le_trans (Nat.add_le_add l8 k9) (by decide)) (fun w9 f9 t9 => ?_)
  have l9 := len_app l8 k9
  have g9 := g8.tr f9
  have k10 : (dg st).length ≤ 2 := dgl2 (by omega)
  rw [show w9 264 15 = st from (congrFun (g9.1 264 (by decide) (by decide) (by decide)) 15).trans r15]
  refine sI (by omega) t9 (Nat.le_trans (Nat.add_le_add_right l9 4) (by decide)) (fun w10 f10 t10 => ?_)
  have l10 := len_app l9 k10
  have g10 := g9.tr f10
  have k11 : (strL 2012).length ≤ 7 := by decide +kernel
  refine sS (by decide) t10 (Nat.le_trans (Nat.add_le_add l10 k11) (by decide)) (fun w11 f11 t11 => ?_)
  have l11 := len_app l10 k11
  have g11 := g10.tr f11
  have k12 : (dg te).length ≤ 3 := dgl3 (by omega)
  rw [show w11 264 16 = te from (congrFun (g11.1 264 (by decide) (by decide) (by decide)) 16).trans r16]
  refine sI (by omega) t11 (Nat.le_trans (Nat.add_le_add_right l11 4) (by decide)) (fun w12 f12 t12 => ?_)
  have l12 := len_app l11 k12
  have g12 := g11.tr f12
  have k13 : (strL 2013).length ≤ 9 := by decide +kernel
  refine sS (by decide) t12 (Nat.le_trans (Nat.add_le_add l12 k13) (by decide)) (fun w13 f13 t13 => ?_)
  have l13 := len_app l12 k13
  have g13 := g12.tr f13
  have k14 : (dg sh).length ≤ 1 := dgl1 (by omega)
  rw [show w13 264 17 = sh from (congrFun (g13.1 264 (by decide) (by decide) (by decide)) 17).trans r17]
  refine sI (by omega) t13 (Nat.le_trans (Nat.add_le_add_right l13 4) (by decide)) (fun w14 f14 t14 => ?_)
  have l14 := len_app l13 k14
  have g14 := g13.tr f14
  have k15 : (strL 2011).length ≤ 1 := by decide +kernel
  refine sS (by decide) t14 (Nat.le_trans (Nat.add_le_add l14 k15) (by decide)) (fun w15 f15 t15 => ?_)
  have l15 := len_app l14 k15
  have g15 := g14.tr f15
  have k16 : (dg lo).length ≤ 2 := dgl2 (by omega)
  rw [show w15 264 18 = lo from (congrFun (g15.1 264 (by decide) (by decide) (by decide)) 18).trans r18]
  refine sI (by omega) t15 (Nat.le_trans (Nat.add_le_add_right l15 4) (by decide)) (fun w16 f16 t16 => ?_)
  have l16 := len_app l15 k16
  have g16 := g15.tr f16
  have k17 : (strL 2014).length ≤ 9 := by decide +kernel
  refine sS (by decide) t16 (Nat.le_trans (Nat.add_le_add l16 k17) (by decide)) (fun w17 f17 t17 => ?_)
  have l17 := len_app l16 k17
  have g17 := g16.tr f17
  have k18 : (dg tn).length ≤ 3 := dgl3 (by omega)
  rw [show w17 264 19 = tn from (congrFun (g17.1 264 (by decide) (by decide) (by decide)) 19).trans r19]
  refine sI (by omega) t17 (Nat.le_trans (Nat.add_le_add_right l17 4) (by decide)) (fun w18 f18 t18 => ?_)
  have l18 := len_app l17 k18
  have g18 := g17.tr f18
  have k19 : (strL 2011).length ≤ 1 := by decide +kernel
  refine sS (by decide) t18 (Nat.le_trans (Nat.add_le_add l18 k19) (by decide)) (fun w19 f19 t19 => ?_)
  have l19 := len_app l18 k19
  have g19 := g18.tr f19
  have k20 : (dg tf).length ≤ 3 := dgl3 (by omega)
  rw [show w19 264 20 = tf from (congrFun (g19.1 264 (by decide) (by decide) (by decide)) 20).trans r20]
  refine sI (by omega) t19 (Nat.le_trans (Nat.add_le_add_right l19 4) (by decide)) (fun w20 f20 t20 => ?_)
  have l20 := len_app l19 k20
  have g20 := g19.tr f20
  have k21 : (strL 2015).length ≤ 7 := by decide +kernel
  refine sS (by decide) t20 (Nat.le_trans (Nat.add_le_add l20 k21) (by decide)) (fun w21 f21 t21 => ?_)
  have l21 := len_app l20 k21
  have g21 := g20.tr f21
  have k22 : (dg vo).length ≤ 1 := dgl1 (by omega)
  rw [show w21 264 21 = vo from (congrFun (g21.1 264 (by decide) (by decide) (by decide)) 21).trans r21]
  refine sI (by omega) t21 (Nat.le_trans (Nat.add_le_add_right l21 4) (by decide)) (fun w22 f22 t22 => ?_)
  have l22 := len_app l21 k22
  have g22 := g21.tr f22
  have k23 : (strL 2016).length ≤ 7 := by decide +kernel
  refine sS (by decide) t22 (Nat.le_trans (Nat.add_le_add l22 k23) (by decide)) (fun w23 f23 t23 => ?_)
  have l23 := len_app l22 k23
  have g23 := g22.tr f23
  have k24 : (dg sl).length ≤ 1 := dgl1 (by omega)
  rw [show w23 264 22 = sl from (congrFun (g23.1 264 (by decide) (by decide) (by decide)) 22).trans r22]
  refine sI (by omega) t23 (Nat.le_trans (Nat.add_le_add_right l23 4) (by decide)) (fun w24 f24 t24 => ?_)
  have l24 := len_app l23 k24
  have g24 := g23.tr f24
  have k25 : (strL 2017).length ≤ 7 := by decide +kernel
  refine sS (by decide) t24 (Nat.le_trans (Nat.add_le_add l24 k25) (by decide)) (fun w25 f25 t25 => ?_)
  have l25 := len_app l24 k25
  have g25 := g24.tr f25
  have k26 : (dg de).length ≤ 1 := dgl1 (by omega)
  rw [show w25 264 23 = de from (congrFun (g25.1 264 (by decide) (by decide) (by decide)) 23).trans r23]
  refine sI (by omega) t25 (Nat.le_trans (Nat.add_le_add_right l25 4) (by decide)) (fun w26 f26 t26 => ?_)
  have l26 := len_app l25 k26
  have g26 := g25.tr f26
  have k27 : (strL 2018).length ≤ 1 := by decide +kernel
  refine sS (by decide) t26 (Nat.le_trans (Nat.add_le_add l26 k27) (by decide)) (fun w27 f27 t27 => ?_)
  have l27 := len_app l26 k27
  have g27 := g26.tr f27
  exact kk w27 g27 t27
/-- the draws -/
theorem wdraws {F : Int → Int} {go : uS → Option (Int × uS)} (h : NF v0 v F)
    (kk : ∀ gx gy co ro st te sh lo tn tf vo sl de w, GB gx gy co ro st te sh lo tn tf vo sl de → NF v0 w (fun b => if b = 23 then de else if b = 22 then sl else if b = 21 then vo else if b = 20 then tf else if b = 19 then tn else if b = 18 then lo else if b = 17 then sh else if b = 16 then te else if b = 15 then st else if b = 14 then ro else if b = 13 then co else if b = 12 then gy else if b = 11 then gx else F b) → wp (go w) Q) :
    wp (xbd (f_L_draw 100 v) fun x11 a11 => xlet (up a11 264 11 (x11)) fun u11 => xbd (f_L_draw 100 u11) fun x12 a12 => xlet (up a12 264 12 (x12)) fun u12 => xbd (f_L_draw 4 u12) fun x13 a13 => xlet (up a13 264 13 (1 + x13)) fun u13 => xbd (f_L_draw 4 u13) fun x14 a14 => xlet (up a14 264 14 (1 + x14)) fun u14 => xbd (f_L_draw 60 u14) fun x15 a15 => xlet (up a15 264 15 (1 + x15)) fun u15 => xbd (f_L_draw 400 u15) fun x16 a16 => xlet (up a16 264 16 (1 + x16)) fun u16 => xbd (f_L_draw 4 u16) fun x17 a17 => xlet (up a17 264 17 (1 + x17)) fun u17 => xbd (f_L_draw 8 u17) fun x18 a18 => xlet (up a18 264 18 (u17 264 17 + x18)) fun u18 => xbd (f_L_draw 250 u18) fun x19 a19 => xlet (up a19 264 19 (50 + x19)) fun u19 => xbd (f_L_draw (u19 264 19 + 1) u19) fun x20 a20 => xlet (up a20 264 20 (x20)) fun u20 => xbd (f_L_draw 4 u20) fun x21 a21 => xlet (up a21 264 21 (1 + x21)) fun u21 => xbd (f_L_draw 6 u21) fun x22 a22 => xlet (up a22 264 22 (x22)) fun u22 => xbd (f_L_draw 4 u22) fun x23 a23 => xlet (up a23 264 23 (x23)) fun u23 => go u23) Q := by
  refine nfd h (by omega) (fun x11 u11 p11 q11 n11 => ?_)
  refine nfd n11 (by omega) (fun x12 u12 p12 q12 n12 => ?_)
  refine nfd n12 (by omega) (fun x13 u13 p13 q13 n13 => ?_)
  refine nfd n13 (by omega) (fun x14 u14 p14 q14 n14 => ?_)
  refine nfd n14 (by omega) (fun x15 u15 p15 q15 n15 => ?_)
  refine nfd n15 (by omega) (fun x16 u16 p16 q16 n16 => ?_)
  refine nfd n16 (by omega) (fun x17 u17 p17 q17 n17 => ?_)
  rw [show u17 264 17 = 1 + x17 from by rw [n17.1]; rfl]
  refine nfd n17 (by omega) (fun x18 u18 p18 q18 n18 => ?_)
  refine nfd n18 (by omega) (fun x19 u19 p19 q19 n19 => ?_)
  rw [show u19 264 19 = 50 + x19 from by rw [n19.1]; rfl]
  refine nfd n19 (by omega) (fun x20 u20 p20 q20 n20 => ?_)
  refine nfd n20 (by omega) (fun x21 u21 p21 q21 n21 => ?_)
  refine nfd n21 (by omega) (fun x22 u22 p22 q22 n22 => ?_)
  refine nfd n22 (by omega) (fun x23 u23 p23 q23 n23 => ?_)
  exact kk x11 x12 (1 + x13) (1 + x14) (1 + x15) (1 + x16) (1 + x17) (1 + x17 + x18) (50 + x19) x20 (1 + x21) x22 x23 u23 ⟨⟨by omega, by omega⟩, ⟨by omega, by omega⟩, ⟨by omega, by omega⟩, ⟨by omega, by omega⟩, ⟨by omega, by omega⟩, ⟨by omega, by omega⟩, ⟨by omega, by omega⟩, ⟨by omega, by omega⟩, ⟨by omega, by omega⟩, ⟨by omega, by omega⟩, ⟨by omega, by omega⟩, ⟨by omega, by omega⟩, ⟨by omega, by omega⟩⟩ n23
end NN1
