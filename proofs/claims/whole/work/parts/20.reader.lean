abbrev zr_P_write : Room := { frames := 14, cells := 0, slots := 0, locals := 384 }
set_option maxRecDepth 100000 in
set_option maxHeartbeats 4000000 in
theorem kc_P_write {g : zx_G} {σ : zx_M} {sz : Nat} {p : Nat} {S : Nat → Int32} {len0 : Nat} {a n b : Nat} {R N : Nat → Nat → Int32} (hP : zob g σ p 3 [.ref (p + 1), .int (nI len0)] [(0, 5000)] (fun _ => S)) (h : zl g σ a n R) (hN : zn g σ b N) (hap : a + 12 ≤ p ∨ p + 2 ≤ a) (hbp : b + 7 ≤ p ∨ p + 2 ≤ b) (hn : n ≤ 100) (hT : zl_T n R) (hD : zl_D n R) : zM g cy_P_write cb_P_write 3 (Option.none : Option Jvm.ClassFile.FieldType) zr_P_write 0 0 [.ref p, .ref a, .ref b] σ sz (zPv (fun σ' sz' => sz' = sz ∧ zfr σ σ' p 2 ∧ ∃ S', zpo g σ' p S' (zputs [] (zp_from n R (N 5) 9 (nI 0))) ∧ zpl S' (zputs [] (zp_from n R (N 5) 9 (nI 0))))) := by
  have hF : zfr σ σ p 2 := zfr.rf
  refine zM_of (lv := [(0, .ref p), (1, .ref a), (2, .ref b)]) (ini := false) (by decide) rfl (by decide) (Nat.le_of_ble_eq_true rfl) rfl ?_
  refine ze_aload_n 0 cd_P_write_0 rfl rfl ?_
  refine ze_iconst (v := nI 0) cd_P_write_1 (by decide) ?_
  refine ze_put zin_P zy_P zt_P zn_P (ci := 3) rfl 1 (by decide) zm_263 rfl (Or.inl rfl) cd_P_write_2 hP.1 rfl rfl (Nat.le_of_ble_eq_true rfl) (fs' := [.ref (p + 1), .int (nI 0)]) rfl ?_
  have hP := hP.put (fs' := [.ref (p + 1), .int (nI 0)])
  have h := h.upn (b := p) (e := .inr (3, [.ref (p + 1), .int (nI 0)])) 11 rfl (by omega)
  have hN := hN.upn (b := p) (e := .inr (3, [.ref (p + 1), .int (nI 0)])) 6 rfl (by omega)
  have hF := hF.up (a := p) (e := .inr (3, [.ref (p + 1), .int (nI 0)])) (by omega) (by omega)
  have hL : zpl S [] := ⟨fun j hj => absurd hj (Nat.not_lt_zero j), Nat.zero_le _⟩
  refine ze_aload_n 0 cd_P_write_5 rfl rfl ?_
  refine ze_aload_n 1 cd_P_write_6 rfl rfl ?_
  refine ze_aload_n 2 cd_P_write_7 rfl rfl ?_
  refine ze_iconst (v := nI 0) cd_P_write_8 (by decide) ?_
  refine ze_iconst (v := nI 0) cd_P_write_9 (by decide) ?_
  refine ze_callSv (rm' := zrW 9) (As := [.ref p, .ref a, .ref b, .int (nI 0), .int (nI 0)]) (rest := []) (kc_P_writeFrom (by omega) (by omega) hn hT hD 9 0 (nI 0) _ _ S [] rfl hP hL h hN) ⟨rfl, rfl⟩ zy_P_writeFrom_ok zm_481 zm_482 (by decide) (by decide) cd_P_write_10 rfl rfl (Nat.le_of_ble_eq_true rfl) (fun σ9 sz9 hq9 => ?_)
  obtain ⟨rfl, hF9, S9, hP9, hL9⟩ := hq9
  have h := h.frn hF9 11 rfl (by omega)
  have hN := hN.frn hF9 6 rfl (by omega)
  have hP := hP9
  have hL := hL9
  have hF := hF.trans (hF9.wide (by omega) (by omega))
  refine ze_vret cd_P_write_13 rfl (by decide) (by decide) ⟨rfl, rfl, hF, ?_⟩
  exact ⟨_, hP, hL⟩
/-! TEXTREADER -/
def za (W : Nat → Int32) (len i : Nat) : Int32 := if i < len then W i else -1
abbrev zt (g : zx_G) (σ : zx_M) (t len nx : Nat) (wr : Int32) (lv : Nat) (W : Nat → Int32) : Prop := zob g σ t 5 [.ref (t + 1), .int (nI len), .int (nI nx), .int wr, .ref lv] [(0, 3000)] (fun _ => W)
def zfr2 (σ σ' : zx_M) (a la b lb : Nat) : Prop := ∀ q, (q < a ∨ a + la ≤ q) → (q < b ∨ b + lb ≤ q) → σ' q = σ q
theorem zfr2.rf {σ : zx_M} {a la b lb : Nat} : zfr2 σ σ a la b lb := fun _ _ _ => rfl
theorem zfr2.up {σ σ' : zx_M} {a' la b lb a : Nat} {e : va_E} (h : zfr2 σ σ' a' la b lb) (h1 : (a' ≤ a ∧ a < a' + la) ∨ (b ≤ a ∧ a < b + lb)) : zfr2 σ (zx_up σ' a e) a' la b lb := fun q h2 h3 => by rw [zx_up_ne (by omega)]; exact h q h2 h3
theorem zfr2.trans {σ σ' σ'' : zx_M} {a la b lb : Nat} (h : zfr2 σ σ' a la b lb) (h2 : zfr2 σ' σ'' a la b lb) : zfr2 σ σ'' a la b lb := fun q q1 q2 => (h2 q q1 q2).trans (h q q1 q2)
theorem zfr2.tr1 {σ σ' σ'' : zx_M} {a la b lb lo len : Nat} (h : zfr2 σ σ' a la b lb) (h2 : zfr σ' σ'' lo len) (h3 : (a ≤ lo ∧ lo + len ≤ a + la) ∨ (b ≤ lo ∧ lo + len ≤ b + lb)) : zfr2 σ σ'' a la b lb := fun q q1 q2 => (h2 q (by omega)).trans (h q q1 q2)
theorem zob.fr2 {g : zx_G} {σ σ' : zx_M} {a ci : Nat} {fs : List Value} {ks : List (Nat × Nat)} {R : Nat → Nat → Int32} (h : zob g σ a ci fs ks R) {x lx y ly : Nat} (hf : zfr2 σ σ' x lx y ly) (m : Nat) (hm : ks.length = m) (hd : (a + m < x ∨ x + lx ≤ a) ∧ (a + m < y ∨ y + ly ≤ a)) : zob g σ' a ci fs ks R := by
  subst hm
  refine ⟨(hf a (by omega) (by omega)).trans h.1, fun k q hk => ?_⟩
  have hl : k < ks.length := (List.getElem?_eq_some_iff.mp hk).1
  exact (hf _ (by omega) (by omega)).trans (h.2 k q hk)
def zt_d (x : Int32) : Bool := if x < nI 48 then false else if nI 57 < x then false else true
def zt_l (x : Int32) : Bool := if x < nI 97 then false else if nI 122 < x then false else true
abbrev zr_T_isDigit : Room := { frames := 0, cells := 0, slots := 0, locals := 0 }
set_option maxRecDepth 100000 in
set_option maxHeartbeats 4000000 in
theorem kc_T_isDigit {g : zx_G} {σ : zx_M} {sz : Nat} {x : Int32}  : zM g cy_T_isDigit cb_T_isDigit 1 (Option.some Jvm.ClassFile.FieldType.boolean) zr_T_isDigit 0 0 [.int x] σ sz (zPp (zb (zt_d x)) σ sz) := by
  refine zM_of (lv := [(0, .int x)]) (ini := false) (by decide) rfl (by decide) (Nat.le_of_ble_eq_true rfl) rfl ?_
  refine ze_iload_n 0 cd_T_isDigit_0 rfl rfl ?_
  refine ze_bipush (v := nI 48) cd_T_isDigit_1 (by decide) ?_
  refine ze_icmp_lt (tgt := 16) cd_T_isDigit_3 (by decide) (fun c1 => ?_) (fun c1 => ?_)
  · skip
    refine ze_iconst (v := nI 0) cd_T_isDigit_16 (by decide) ?_
    refine ze_zret cd_T_isDigit_17 rfl (by decide) (by decide) (by decide) (zPp_mk ?_)
    simp [zt_d, zb, nI_0, zn_1, c1]
  · skip
    refine ze_iload_n 0 cd_T_isDigit_6 rfl rfl ?_
    refine ze_bipush (v := nI 57) cd_T_isDigit_7 (by decide) ?_
    refine ze_icmp_gt (tgt := 16) cd_T_isDigit_9 (by decide) (fun c2 => ?_) (fun c2 => ?_)
    · skip
      refine ze_iconst (v := nI 0) cd_T_isDigit_16 (by decide) ?_
      refine ze_zret cd_T_isDigit_17 rfl (by decide) (by decide) (by decide) (zPp_mk ?_)
      simp [zt_d, zb, nI_0, zn_1, c1, c2]
    · skip
      refine ze_iconst (v := nI 1) cd_T_isDigit_12 (by decide) ?_
      refine ze_goto (tgt := 17) cd_T_isDigit_13 (by decide) ?_
      refine ze_zret cd_T_isDigit_17 rfl (by decide) (by decide) (by decide) (zPp_mk ?_)
      simp [zt_d, zb, nI_0, zn_1, c1, c2]
abbrev zr_T_isLetter : Room := { frames := 0, cells := 0, slots := 0, locals := 0 }
set_option maxRecDepth 100000 in
set_option maxHeartbeats 4000000 in
theorem kc_T_isLetter {g : zx_G} {σ : zx_M} {sz : Nat} {x : Int32}  : zM g cy_T_isLetter cb_T_isLetter 1 (Option.some Jvm.ClassFile.FieldType.boolean) zr_T_isLetter 0 0 [.int x] σ sz (zPp (zb (zt_l x)) σ sz) := by
  refine zM_of (lv := [(0, .int x)]) (ini := false) (by decide) rfl (by decide) (Nat.le_of_ble_eq_true rfl) rfl ?_
  refine ze_iload_n 0 cd_T_isLetter_0 rfl rfl ?_
  refine ze_bipush (v := nI 97) cd_T_isLetter_1 (by decide) ?_
  refine ze_icmp_lt (tgt := 16) cd_T_isLetter_3 (by decide) (fun c1 => ?_) (fun c1 => ?_)
  · skip
    refine ze_iconst (v := nI 0) cd_T_isLetter_16 (by decide) ?_
    refine ze_zret cd_T_isLetter_17 rfl (by decide) (by decide) (by decide) (zPp_mk ?_)
    simp [zt_l, zb, nI_0, zn_1, c1]
  · skip
    refine ze_iload_n 0 cd_T_isLetter_6 rfl rfl ?_
    refine ze_bipush (v := nI 122) cd_T_isLetter_7 (by decide) ?_
    refine ze_icmp_gt (tgt := 16) cd_T_isLetter_9 (by decide) (fun c2 => ?_) (fun c2 => ?_)
    · skip
      refine ze_iconst (v := nI 0) cd_T_isLetter_16 (by decide) ?_
      refine ze_zret cd_T_isLetter_17 rfl (by decide) (by decide) (by decide) (zPp_mk ?_)
      simp [zt_l, zb, nI_0, zn_1, c1, c2]
    · skip
      refine ze_iconst (v := nI 1) cd_T_isLetter_12 (by decide) ?_
      refine ze_goto (tgt := 17) cd_T_isLetter_13 (by decide) ?_
      refine ze_zret cd_T_isLetter_17 rfl (by decide) (by decide) (by decide) (zPp_mk ?_)
      simp [zt_l, zb, nI_0, zn_1, c1, c2]
abbrev zr_T_ahead : Room := { frames := 0, cells := 0, slots := 0, locals := 0 }
set_option maxRecDepth 100000 in
set_option maxHeartbeats 4000000 in
theorem kc_T_ahead {g : zx_G} {σ : zx_M} {sz : Nat} {t len nx lv : Nat} {wr : Int32} {W : Nat → Int32} {k : Nat} (hO : zt g σ t len nx wr lv W) (hlen : len ≤ 3000) (hnx : nx ≤ 20000) (hk : k ≤ 100) : zM g cy_T_ahead cb_T_ahead 3 (Option.some Jvm.ClassFile.FieldType.int) zr_T_ahead 0 0 [.ref t, .int (nI k)] σ sz (zPp (za W len (nx + k)) σ sz) := by
  refine zM_of (lv := [(0, .ref t), (1, .int (nI k))]) (ini := false) (by decide) rfl (by decide) (Nat.le_of_ble_eq_true rfl) rfl ?_
  refine ze_aload_n 0 cd_T_ahead_0 rfl rfl ?_
  refine ze_get zin_T (v := .int (nI nx)) (ci := 5) rfl 2 (by decide) zm_166 rfl cd_T_ahead_1 hO.1 rfl ?_
  refine ze_iload_n 1 cd_T_ahead_4 rfl rfl ?_
  refine ze_iadd cd_T_ahead_5 ?_
  refine ze_top (y := nI (nx + k)) (nI_add _ _) ?_
  refine ze_istore_n (lv' := [(2, .int (nI (nx + k))), (0, .ref t), (1, .int (nI k))]) cd_T_ahead_6 rfl (by decide) rfl ?_
  refine ze_iload_n 0 cd_T_ahead_7 rfl rfl ?_
  refine ze_if_lt (tgt := 19) cd_T_ahead_8 (by decide) (fun c1 => ?_) (fun c1 => ?_)
  · skip
    have c1 := c1; rw [← nI_0] at c1
    have c1 : (nx + k) < 0 := (nI_ltI (by omega) (by omega)).mp c1
    refine ze_iconst (v := (-1 : Int32)) cd_T_ahead_19 (by decide) ?_
    refine ze_iret cd_T_ahead_20 rfl (by decide) (by decide) (zPp_mk ?_)
    first | (rw [za, if_pos (by omega)]; done) | (rw [za, if_neg (by omega)]; done) | (exfalso; omega)
  · skip
    have c1 := c1; rw [← nI_0] at c1
    have c1 : ¬ (nx + k) < 0 := fun h9 => c1 ((nI_ltI (by omega) (by omega)).mpr h9)
    refine ze_iload_n 0 cd_T_ahead_11 rfl rfl ?_
    refine ze_aload_n 1 cd_T_ahead_12 rfl rfl ?_
    refine ze_get zin_T (v := .int (nI len)) (ci := 5) rfl 1 (by decide) zm_165 rfl cd_T_ahead_13 hO.1 rfl ?_
    refine ze_icmp_lt (tgt := 21) cd_T_ahead_16 (by decide) (fun c2 => ?_) (fun c2 => ?_)
    · skip
      have c2 : (nx + k) < len := (nI_ltI (by omega) (by omega)).mp c2
      refine ze_aload_n 1 cd_T_ahead_21 rfl rfl ?_
      refine ze_get zin_T (v := .ref (t + 1)) (ci := 5) rfl 0 (by decide) zm_164 rfl cd_T_ahead_22 hO.1 rfl ?_
      refine ze_iload_n 0 cd_T_ahead_25 rfl rfl ?_
      refine ze_iald (j := nx + k) cd_T_ahead_26 (hO.2 0 _ rfl) rfl (by omega) (by decide) ?_
      refine ze_iret cd_T_ahead_27 rfl (by decide) (by decide) (zPp_mk ?_)
      first | (rw [za, if_pos (by omega)]; done) | (rw [za, if_neg (by omega)]; done) | (exfalso; omega)
    · skip
      have c2 : ¬ (nx + k) < len := fun h9 => c2 ((nI_ltI (by omega) (by omega)).mpr h9)
      refine ze_iconst (v := (-1 : Int32)) cd_T_ahead_19 (by decide) ?_
      refine ze_iret cd_T_ahead_20 rfl (by decide) (by decide) (zPp_mk ?_)
      first | (rw [za, if_pos (by omega)]; done) | (rw [za, if_neg (by omega)]; done) | (exfalso; omega)
def zt_ix (f : Nat → Int32) (len : Nat) (x : Int32) : Option Nat := zfindo (fun k => decide (f k = x)) 0 len
abbrev zr_F_indexIn : Room := { frames := 0, cells := 0, slots := 0, locals := 0 }
set_option maxRecDepth 100000 in
set_option maxHeartbeats 4000000 in
theorem kc_F_indexIn {g : zx_G} {σ : zx_M} {sz : Nat} {q len : Nat} {nm : String} {f : Nat → Int32} {x : Int32} (hq : zc_st[q]? = some ("FindingAid", nm, len, f)) (hlen : len < 2 ^ 31) : zM g cy_F_indexIn cb_F_indexIn 3 (Option.some Jvm.ClassFile.FieldType.int) zr_F_indexIn 0 0 [.ref (g.2.2.2.2 q), .int x] σ sz (zPp (zo (zt_ix f len x)) σ sz) := by
  generalize hX0 : zt_ix f len x = X0
  have loop : ∀ (kk : Nat) (lo : Nat), lo + kk = len → zfindo (fun k => decide (f k = x)) lo kk = X0 → zE g "FindingAid" cb_F_indexIn 3 (Option.some Jvm.ClassFile.FieldType.int) false zr_F_indexIn 0 0 (zPp (zo (X0)) σ sz) 2 [(2, .int (nI lo)), (0, .ref (g.2.2.2.2 q)), (1, .int x)] [] σ sz 0 0 := by
    intro kk
    induction kk with
    | zero =>
      intro lo hk hE
      refine ze_iload_n 0 cd_F_indexIn_2 rfl rfl ?_
      refine ze_aload_n 1 cd_F_indexIn_3 rfl rfl ?_
      refine ze_tlen q hq cd_F_indexIn_4 ?_
      refine ze_icmp_ge (tgt := 23) cd_F_indexIn_5 (by decide) (fun c2 => ?_) (fun c2 => ?_)
      · skip
        have c2 : len ≤ lo := (nI_leI (by omega) (by omega)).mp c2
        refine ze_iconst (v := (-1 : Int32)) cd_F_indexIn_23 (by decide) ?_
        refine ze_iret cd_F_indexIn_24 rfl (by decide) (by decide) (zPp_mk ?_)
        rw [← hE]; simp [zfindo, zo, c2]
      · skip
        have c2 : ¬ len ≤ lo := fun h9 => c2 ((nI_leI (by omega) (by omega)).mpr h9)
        exfalso; omega
    | succ kk ih =>
      intro lo hk hE
      refine ze_iload_n 0 cd_F_indexIn_2 rfl rfl ?_
      refine ze_aload_n 1 cd_F_indexIn_3 rfl rfl ?_
      refine ze_tlen q hq cd_F_indexIn_4 ?_
      refine ze_icmp_ge (tgt := 23) cd_F_indexIn_5 (by decide) (fun c4 => ?_) (fun c4 => ?_)
      · skip
        have c4 : len ≤ lo := (nI_leI (by omega) (by omega)).mp c4
        exfalso; omega
      · skip
        have c4 : ¬ len ≤ lo := fun h9 => c4 ((nI_leI (by omega) (by omega)).mpr h9)
        refine ze_aload_n 1 cd_F_indexIn_8 rfl rfl ?_
        refine ze_iload_n 0 cd_F_indexIn_9 rfl rfl ?_
        refine ze_tc q hq (j := lo) cd_F_indexIn_10 rfl (by omega) hlen ?_
        refine ze_iload_n 2 cd_F_indexIn_11 rfl rfl ?_
        refine ze_icmp_ne (tgt := 17) cd_F_indexIn_12 (by decide) (fun c5 => ?_) (fun c5 => ?_)
        · skip
          refine ze_iinc (v := nI (lo + 1)) (lv' := [(2, .int (nI (lo + 1))), (0, .ref (g.2.2.2.2 q)), (1, .int x)]) 0 cd_F_indexIn_17 rfl (nI_add _ 1) (by decide) rfl ?_
          refine ze_goto (tgt := 2) cd_F_indexIn_20 (by decide) ?_
          exact ih (lo + 1) (by omega) (by rw [← hE]; simp [zfindo, c4, c5])
        · skip
          refine ze_iload_n 0 cd_F_indexIn_15 rfl rfl ?_
          refine ze_iret cd_F_indexIn_16 rfl (by decide) (by decide) (zPp_mk ?_)
          rw [← hE]; simp [zfindo, zo, c4, c5]
  refine zM_of (lv := [(0, .ref (g.2.2.2.2 q)), (1, .int x)]) (ini := false) (by decide) rfl (by decide) (Nat.le_of_ble_eq_true rfl) rfl ?_
  refine ze_iconst (v := nI 0) cd_F_indexIn_0 (by decide) ?_
  refine ze_istore_n (lv' := [(2, .int (nI 0)), (0, .ref (g.2.2.2.2 q)), (1, .int x)]) cd_F_indexIn_1 rfl (by decide) rfl ?_
  exact loop len 0 (by omega) hX0
def zt_wr (i : Nat) (nx : Nat) : Bool × Nat × Int32 := (false, nx, nI i)
def zt_exp (c : Nat → Int32) (x : Int32) (nx : Nat) (wr : Int32) : Bool × Nat × Int32 := if c nx = x then (true, nx + 1, wr) else (false, nx, nI nx)
def zt_dg (c : Nat → Int32) : Nat → Nat → Nat → Int32 → Nat × Int32
  | 0, _, nx, v => (nx, v)
  | kk + 1, k, nx, v => if zt_d (c nx) then (if k = 0 then (if c nx - nI 48 = 0 then (nx, v) else zt_dg c kk (k + 1) (nx + 1) (v * nI 10 + (c nx - nI 48))) else zt_dg c kk (k + 1) (nx + 1) (v * nI 10 + (c nx - nI 48))) else (nx, v)
def zt_dig1 (q : Nat × Int32) (wr : Int32) : Int32 × Nat × Int32 := if q.2 = 0 then (-1, q.1, nI q.1) else (q.2, q.1, wr)
def zt_dig (c : Nat → Int32) (nx : Nat) (wr : Int32) : Int32 × Nat × Int32 := zt_dig1 (zt_dg c 4 0 nx (nI 0)) wr
def zt_yv (c : Nat → Int32) (nx : Nat) : Nat → Nat → Int32 → Option Nat × Int32
  | 0, _, v => (none, v)
  | kk + 1, k, v => if zt_d (c (nx + k)) then zt_yv c nx kk (k + 1) (v * nI 10 + (c (nx + k) - nI 48)) else (some k, v)
def zt_yr1 (q : Option Nat × Int32) (least : Int32) (nx : Nat) (wr : Int32) : Int32 × Nat × Int32 := match q.1 with
  | some k => (-1, nx, nI (nx + k))
  | none => if q.2 < least then (-1, nx, nI nx) else if nI 2999 < q.2 then (-1, nx, nI nx) else (q.2, nx + 4, wr)
def zt_yr (c : Nat → Int32) (least : Int32) (nx : Nat) (wr : Int32) : Int32 × Nat × Int32 := zt_yr1 (zt_yv c nx 4 0 (nI 0)) least nx wr
abbrev zr_T_wrongAt : Room := { frames := 0, cells := 0, slots := 0, locals := 0 }
set_option maxRecDepth 100000 in
set_option maxHeartbeats 4000000 in
theorem kc_T_wrongAt {g : zx_G} {σ : zx_M} {sz : Nat} {t len nx lv : Nat} {wr : Int32} {W : Nat → Int32} {i : Nat} (hO : zt g σ t len nx wr lv W) (hlen : len ≤ 3000) (hnx : nx ≤ 15000) : zM g cy_T_wrongAt cb_T_wrongAt 2 (Option.some Jvm.ClassFile.FieldType.boolean) zr_T_wrongAt 0 0 [.ref t, .int (nI i)] σ sz (zPi (fun v σ' sz' => sz' = sz ∧ zfr σ σ' t 2 ∧ ∃ ok nx' wr', zt_wr i nx = (ok, nx', wr') ∧ v = zb ok ∧ nx' ≤ nx + 0 ∧ zt g σ' t len nx' wr' lv W)) := by
  have hF : zfr σ σ t 2 := zfr.rf
  refine zM_of (lv := [(0, .ref t), (1, .int (nI i))]) (ini := false) (by decide) rfl (by decide) (Nat.le_of_ble_eq_true rfl) rfl ?_
  refine ze_aload_n 0 cd_T_wrongAt_0 rfl rfl ?_
  refine ze_iload_n 1 cd_T_wrongAt_1 rfl rfl ?_
  refine ze_put zin_T zy_T zt_T zn_T (ci := 5) rfl 3 (by decide) zm_167 rfl (Or.inl rfl) cd_T_wrongAt_2 hO.1 rfl rfl (Nat.le_of_ble_eq_true rfl) (fs' := [.ref (t + 1), .int (nI len), .int (nI nx), .int (nI i), .ref lv]) rfl ?_
  have hO := hO.put (fs' := [.ref (t + 1), .int (nI len), .int (nI nx), .int (nI i), .ref lv])
  have hF := hF.up (a := t) (e := .inr (5, [.ref (t + 1), .int (nI len), .int (nI nx), .int (nI i), .ref lv])) (by omega) (by omega)
  refine ze_iconst (v := nI 0) cd_T_wrongAt_5 (by decide) ?_
  refine ze_zret cd_T_wrongAt_6 rfl (by decide) (by decide) (by decide) ⟨_, rfl, rfl, hF, false, nx, nI i, ?_, (by decide), by omega, hO⟩
  rfl
abbrev zr_T_expect : Room := { frames := 1, cells := 0, slots := 0, locals := 22 }
set_option maxRecDepth 100000 in
set_option maxHeartbeats 4000000 in
theorem kc_T_expect {g : zx_G} {σ : zx_M} {sz : Nat} {t len nx lv : Nat} {wr : Int32} {W : Nat → Int32} {x : Int32} (hO : zt g σ t len nx wr lv W) (hlen : len ≤ 3000) (hnx : nx ≤ 15000) : zM g cy_T_expect cb_T_expect 2 (Option.some Jvm.ClassFile.FieldType.boolean) zr_T_expect 0 0 [.ref t, .int x] σ sz (zPi (fun v σ' sz' => sz' = sz ∧ zfr σ σ' t 2 ∧ ∃ ok nx' wr', zt_exp (za W len) x nx wr = (ok, nx', wr') ∧ v = zb ok ∧ nx' ≤ nx + 1 ∧ zt g σ' t len nx' wr' lv W)) := by
  have hF : zfr σ σ t 2 := zfr.rf
  refine zM_of (lv := [(0, .ref t), (1, .int x)]) (ini := false) (by decide) rfl (by decide) (Nat.le_of_ble_eq_true rfl) rfl ?_
  refine ze_aload_n 0 cd_T_expect_0 rfl rfl ?_
  refine ze_iconst (v := nI 0) cd_T_expect_1 (by decide) ?_
  refine ze_callVp (rm' := zr_T_ahead) (b := t) (As := [.int (nI 0)]) (rest := []) (kc_T_ahead (W := W) hO hlen (by omega) (by omega)) ⟨rfl, rfl⟩ zy_T_ahead_ok zm_549 zm_551 zm_13 (ci := 5) rfl rfl (by decide) (by decide) cd_T_expect_2 hO.1 rfl rfl (Nat.le_of_ble_eq_true rfl) ?_
  refine ze_iload_n 1 cd_T_expect_5 rfl rfl ?_
  refine ze_icmp_eq (tgt := 18) cd_T_expect_6 (by decide) (fun c1 => ?_) (fun c1 => ?_)
  · skip
    refine ze_aload_n 0 cd_T_expect_18 rfl rfl ?_
    refine ze_dup cd_T_expect_19 rfl ?_
    refine ze_get zin_T (v := .int (nI nx)) (ci := 5) rfl 2 (by decide) zm_166 rfl cd_T_expect_20 hO.1 rfl ?_
    refine ze_iconst (v := nI 1) cd_T_expect_23 (by decide) ?_
    refine ze_iadd cd_T_expect_24 ?_
    refine ze_top (y := nI (nx + 1)) (nI_add _ _) ?_
    refine ze_put zin_T zy_T zt_T zn_T (ci := 5) rfl 2 (by decide) zm_166 rfl (Or.inl rfl) cd_T_expect_25 hO.1 rfl rfl (Nat.le_of_ble_eq_true rfl) (fs' := [.ref (t + 1), .int (nI len), .int (nI (nx + 1)), .int wr, .ref lv]) rfl ?_
    have hO := hO.put (fs' := [.ref (t + 1), .int (nI len), .int (nI (nx + 1)), .int wr, .ref lv])
    have hF := hF.up (a := t) (e := .inr (5, [.ref (t + 1), .int (nI len), .int (nI (nx + 1)), .int wr, .ref lv])) (by omega) (by omega)
    refine ze_iconst (v := nI 1) cd_T_expect_28 (by decide) ?_
    refine ze_zret cd_T_expect_29 rfl (by decide) (by decide) (by decide) ⟨_, rfl, rfl, hF, true, nx + 1, wr, ?_, (by decide), by omega, hO⟩
    first | (simp [zt_exp, c1]; done) | (simp_all [zt_exp, zt_wr]; done)
  · skip
    refine ze_aload_n 0 cd_T_expect_9 rfl rfl ?_
    refine ze_aload_n 0 cd_T_expect_10 rfl rfl ?_
    refine ze_get zin_T (v := .int (nI nx)) (ci := 5) rfl 2 (by decide) zm_166 rfl cd_T_expect_11 hO.1 rfl ?_
    refine ze_callVi (rm' := zr_T_wrongAt) (b := t) (As := [.int (nI nx)]) (rest := []) (kc_T_wrongAt hO hlen (by omega)) ⟨rfl, rfl⟩ zy_T_wrongAt_ok zm_553 zm_555 zm_14 (ci := 5) rfl rfl (by decide) (by decide) cd_T_expect_14 hO.1 rfl rfl (Nat.le_of_ble_eq_true rfl) (fun v9 σ9 sz9 hq9 => ?_)
    obtain ⟨rfl, hF9, ok9, nx9, wr9, hX9, rfl, -, hO9⟩ := hq9
    obtain ⟨rfl, rfl, rfl⟩ : false = ok9 ∧ nx = nx9 ∧ nI nx = wr9 := by simpa [zt_wr] using hX9
    have hO := hO9
    have hF := hF.trans hF9
    refine ze_zret cd_T_expect_17 rfl (zb_or _) (by decide) (by decide) ⟨_, rfl, rfl, hF, false, nx, nI nx, ?_, rfl, by omega, hO⟩
    first | (simp [zt_exp, c1]; done) | (simp_all [zt_exp, zt_wr]; done)
abbrev zr_T_readDigits : Room := { frames := 1, cells := 0, slots := 0, locals := 22 }
set_option maxRecDepth 100000 in
set_option maxHeartbeats 4000000 in
theorem kc_T_readDigits {g : zx_G} {σ : zx_M} {sz : Nat} {t len nx lv : Nat} {wr : Int32} {W : Nat → Int32} (hO : zt g σ t len nx wr lv W) (hlen : len ≤ 3000) (hnx : nx ≤ 15000) : zM g cy_T_readDigits cb_T_readDigits 4 (Option.some Jvm.ClassFile.FieldType.int) zr_T_readDigits 0 0 [.ref t] σ sz (zPi (fun v σ' sz' => sz' = sz ∧ zfr σ σ' t 2 ∧ ∃ r nx' wr', zt_dig1 (zt_dg (za W len) 4 0 nx (nI 0)) wr = (r, nx', wr') ∧ r = v ∧ nx' ≤ nx + 4 ∧ zt g σ' t len nx' wr' lv W)) := by
  generalize hX0 : zt_dg (za W len) 4 0 nx (nI 0) = X0
  have hF : zfr σ σ t 2 := zfr.rf
  have loop : ∀ (kk lo nx1 : Nat) (v : Int32) (σ1 : zx_M), lo + kk = 4 → nx1 ≤ nx + lo → zt_dg (za W len) kk lo nx1 v = X0 → zt g σ1 t len nx1 wr lv W → zfr σ σ1 t 2 → zE g "FindingAid$TextReader" cb_T_readDigits 4 (Option.some Jvm.ClassFile.FieldType.int) false zr_T_readDigits 0 0 (zPi (fun v σ' sz' => sz' = sz ∧ zfr σ σ' t 2 ∧ ∃ r nx' wr', zt_dig1 (X0) wr = (r, nx', wr') ∧ r = v ∧ nx' ≤ nx + 4 ∧ zt g σ' t len nx' wr' lv W)) 4 [(2, .int (nI lo)), (1, .int v), (0, .ref t)] [] σ1 sz 0 0 := by
    intro kk
    induction kk with
    | zero =>
      intro lo nx1 v σ1 hk hnb hE hO hF
      refine ze_iload_n 0 cd_T_readDigits_4 rfl rfl ?_
      refine ze_iconst (v := nI 4) cd_T_readDigits_5 (by decide) ?_
      refine ze_icmp_ge (tgt := 63) cd_T_readDigits_6 (by decide) (fun c2 => ?_) (fun c2 => ?_)
      · skip
        have c2 : 4 ≤ lo := (nI_leI (by omega) (by omega)).mp c2
        refine ze_iload_n 1 cd_T_readDigits_63 rfl rfl ?_
        refine ze_if_ne (tgt := 77) cd_T_readDigits_64 (by decide) (fun c3 => ?_) (fun c3 => ?_)
        · skip
          refine ze_iload_n 1 cd_T_readDigits_77 rfl rfl ?_
          refine ze_iret cd_T_readDigits_78 rfl (by decide) (by decide) ⟨_, rfl, rfl, hF, v, nx1, wr, ?_, rfl, by omega, hO⟩
          rw [← hE]; first | (simp [zt_dg, zt_dig1, c2, c3]; done) | (simp_all [zt_dg, zt_dig1]; done)
        · skip
          refine ze_aload_n 2 cd_T_readDigits_67 rfl rfl ?_
          refine ze_aload_n 2 cd_T_readDigits_68 rfl rfl ?_
          refine ze_get zin_T (v := .int (nI nx1)) (ci := 5) rfl 2 (by decide) zm_166 rfl cd_T_readDigits_69 hO.1 rfl ?_
          refine ze_put zin_T zy_T zt_T zn_T (ci := 5) rfl 3 (by decide) zm_167 rfl (Or.inl rfl) cd_T_readDigits_72 hO.1 rfl rfl (Nat.le_of_ble_eq_true rfl) (fs' := [.ref (t + 1), .int (nI len), .int (nI nx1), .int (nI nx1), .ref lv]) rfl ?_
          have hO := hO.put (fs' := [.ref (t + 1), .int (nI len), .int (nI nx1), .int (nI nx1), .ref lv])
          have hF := hF.up (a := t) (e := .inr (5, [.ref (t + 1), .int (nI len), .int (nI nx1), .int (nI nx1), .ref lv])) (by omega) (by omega)
          refine ze_iconst (v := (-1 : Int32)) cd_T_readDigits_75 (by decide) ?_
          refine ze_iret cd_T_readDigits_76 rfl (by decide) (by decide) ⟨_, rfl, rfl, hF, (-1 : Int32), nx1, nI nx1, ?_, rfl, by omega, hO⟩
          rw [← hE]; first | (simp [zt_dg, zt_dig1, c2, c3]; done) | (simp_all [zt_dg, zt_dig1]; done)
      · skip
        have c2 : ¬ 4 ≤ lo := fun h9 => c2 ((nI_leI (by omega) (by omega)).mpr h9)
        exfalso; omega
    | succ kk ih =>
      intro lo nx1 v σ1 hk hnb hE hO hF
      refine ze_iload_n 0 cd_T_readDigits_4 rfl rfl ?_
      refine ze_iconst (v := nI 4) cd_T_readDigits_5 (by decide) ?_
      refine ze_icmp_ge (tgt := 63) cd_T_readDigits_6 (by decide) (fun c5 => ?_) (fun c5 => ?_)
      · skip
        have c5 : 4 ≤ lo := (nI_leI (by omega) (by omega)).mp c5
        exfalso; omega
      · skip
        have c5 : ¬ 4 ≤ lo := fun h9 => c5 ((nI_leI (by omega) (by omega)).mpr h9)
        refine ze_aload_n 2 cd_T_readDigits_9 rfl rfl ?_
        refine ze_iconst (v := nI 0) cd_T_readDigits_10 (by decide) ?_
        refine ze_callVp (rm' := zr_T_ahead) (b := t) (As := [.int (nI 0)]) (rest := []) (kc_T_ahead (W := W) hO hlen (by omega) (by omega)) ⟨rfl, rfl⟩ zy_T_ahead_ok zm_549 zm_551 zm_13 (ci := 5) rfl rfl (by decide) (by decide) cd_T_readDigits_11 hO.1 rfl rfl (Nat.le_of_ble_eq_true rfl) ?_
        refine ze_callSp (rm' := zr_T_isDigit) (As := [.int (za W len nx1)]) (rest := []) kc_T_isDigit ⟨rfl, rfl⟩ zy_T_isDigit_ok zm_582 zm_583 (by decide) (by decide) cd_T_readDigits_14 rfl rfl (Nat.le_of_ble_eq_true rfl) ?_
        refine ze_if_eq (tgt := 63) cd_T_readDigits_17 (by decide) (fun c6 => ?_) (fun c6 => ?_)
        · skip
          have c6 : (zt_d (za W len nx1)) = false := zb_f c6
          refine ze_iload_n 1 cd_T_readDigits_63 rfl rfl ?_
          refine ze_if_ne (tgt := 77) cd_T_readDigits_64 (by decide) (fun c7 => ?_) (fun c7 => ?_)
          · skip
            refine ze_iload_n 1 cd_T_readDigits_77 rfl rfl ?_
            refine ze_iret cd_T_readDigits_78 rfl (by decide) (by decide) ⟨_, rfl, rfl, hF, v, nx1, wr, ?_, rfl, by omega, hO⟩
            rw [← hE]; first | (simp [zt_dg, zt_dig1, c5, c6, c7]; done) | (simp_all [zt_dg, zt_dig1]; done)
          · skip
            refine ze_aload_n 2 cd_T_readDigits_67 rfl rfl ?_
            refine ze_aload_n 2 cd_T_readDigits_68 rfl rfl ?_
            refine ze_get zin_T (v := .int (nI nx1)) (ci := 5) rfl 2 (by decide) zm_166 rfl cd_T_readDigits_69 hO.1 rfl ?_
            refine ze_put zin_T zy_T zt_T zn_T (ci := 5) rfl 3 (by decide) zm_167 rfl (Or.inl rfl) cd_T_readDigits_72 hO.1 rfl rfl (Nat.le_of_ble_eq_true rfl) (fs' := [.ref (t + 1), .int (nI len), .int (nI nx1), .int (nI nx1), .ref lv]) rfl ?_
            have hO := hO.put (fs' := [.ref (t + 1), .int (nI len), .int (nI nx1), .int (nI nx1), .ref lv])
            have hF := hF.up (a := t) (e := .inr (5, [.ref (t + 1), .int (nI len), .int (nI nx1), .int (nI nx1), .ref lv])) (by omega) (by omega)
            refine ze_iconst (v := (-1 : Int32)) cd_T_readDigits_75 (by decide) ?_
            refine ze_iret cd_T_readDigits_76 rfl (by decide) (by decide) ⟨_, rfl, rfl, hF, (-1 : Int32), nx1, nI nx1, ?_, rfl, by omega, hO⟩
            rw [← hE]; first | (simp [zt_dg, zt_dig1, c5, c6, c7]; done) | (simp_all [zt_dg, zt_dig1]; done)
        · skip
          have c6 : (zt_d (za W len nx1)) = true := zb_t c6
          refine ze_aload_n 2 cd_T_readDigits_20 rfl rfl ?_
          refine ze_iconst (v := nI 0) cd_T_readDigits_21 (by decide) ?_
          refine ze_callVp (rm' := zr_T_ahead) (b := t) (As := [.int (nI 0)]) (rest := []) (kc_T_ahead (W := W) hO hlen (by omega) (by omega)) ⟨rfl, rfl⟩ zy_T_ahead_ok zm_549 zm_551 zm_13 (ci := 5) rfl rfl (by decide) (by decide) cd_T_readDigits_22 hO.1 rfl rfl (Nat.le_of_ble_eq_true rfl) ?_
          refine ze_bipush (v := nI 48) cd_T_readDigits_25 (by decide) ?_
          refine ze_isub cd_T_readDigits_27 ?_
          refine ze_istore_n (lv' := [(3, .int ((za W len nx1) - (nI 48))), (2, .int (nI lo)), (1, .int v), (0, .ref t)]) cd_T_readDigits_28 rfl (by decide) rfl ?_
          refine ze_iload_n 1 cd_T_readDigits_29 rfl rfl ?_
          refine ze_if_ne (tgt := 40) cd_T_readDigits_30 (by decide) (fun c8 => ?_) (fun c8 => ?_)
          · skip
            have c8 := c8; rw [← nI_0] at c8
            have c8 : ¬ lo = 0 := fun h9 => c8 (by rw [h9])
            refine ze_iload_n 2 cd_T_readDigits_40 rfl rfl ?_
            refine ze_bipush (v := nI 10) cd_T_readDigits_41 (by decide) ?_
            refine ze_imul cd_T_readDigits_43 ?_
            refine ze_iload_n 0 cd_T_readDigits_44 rfl rfl ?_
            refine ze_iadd cd_T_readDigits_45 ?_
            refine ze_istore_n (lv' := [(1, .int ((v * (nI 10)) + ((za W len nx1) - (nI 48)))), (3, .int ((za W len nx1) - (nI 48))), (2, .int (nI lo)), (0, .ref t)]) cd_T_readDigits_46 rfl (by decide) rfl ?_
            refine ze_aload_n 3 cd_T_readDigits_47 rfl rfl ?_
            refine ze_dup cd_T_readDigits_48 rfl ?_
            refine ze_get zin_T (v := .int (nI nx1)) (ci := 5) rfl 2 (by decide) zm_166 rfl cd_T_readDigits_49 hO.1 rfl ?_
            refine ze_iconst (v := nI 1) cd_T_readDigits_52 (by decide) ?_
            refine ze_iadd cd_T_readDigits_53 ?_
            refine ze_top (y := nI (nx1 + 1)) (nI_add _ _) ?_
            refine ze_put zin_T zy_T zt_T zn_T (ci := 5) rfl 2 (by decide) zm_166 rfl (Or.inl rfl) cd_T_readDigits_54 hO.1 rfl rfl (Nat.le_of_ble_eq_true rfl) (fs' := [.ref (t + 1), .int (nI len), .int (nI (nx1 + 1)), .int wr, .ref lv]) rfl ?_
            have hO := hO.put (fs' := [.ref (t + 1), .int (nI len), .int (nI (nx1 + 1)), .int wr, .ref lv])
            have hF := hF.up (a := t) (e := .inr (5, [.ref (t + 1), .int (nI len), .int (nI (nx1 + 1)), .int wr, .ref lv])) (by omega) (by omega)
            refine ze_iinc (v := nI (lo + 1)) (lv' := [(2, .int (nI (lo + 1))), (1, .int ((v * (nI 10)) + ((za W len nx1) - (nI 48)))), (3, .int ((za W len nx1) - (nI 48))), (0, .ref t)]) 2 cd_T_readDigits_57 rfl (nI_add _ 1) (by decide) rfl ?_
            refine ze_goto (tgt := 4) cd_T_readDigits_60 (by decide) ?_
            exact ze_sub [0, 1, 3] rfl (ih (lo + 1) _ _ _ (by omega) (by omega) (by rw [← hE]; simp [zt_dg, c6, c8]) hO hF)
          · skip
            have c8 := c8; rw [← nI_0] at c8
            have c8 : lo = 0 := (nI_eq (by omega) (by omega)).mp c8
            refine ze_iload_n 0 cd_T_readDigits_33 rfl rfl ?_
            refine ze_if_ne (tgt := 40) cd_T_readDigits_34 (by decide) (fun c9 => ?_) (fun c9 => ?_)
            · skip
              refine ze_iload_n 2 cd_T_readDigits_40 rfl rfl ?_
              refine ze_bipush (v := nI 10) cd_T_readDigits_41 (by decide) ?_
              refine ze_imul cd_T_readDigits_43 ?_
              refine ze_iload_n 0 cd_T_readDigits_44 rfl rfl ?_
              refine ze_iadd cd_T_readDigits_45 ?_
              refine ze_istore_n (lv' := [(1, .int ((v * (nI 10)) + ((za W len nx1) - (nI 48)))), (3, .int ((za W len nx1) - (nI 48))), (2, .int (nI lo)), (0, .ref t)]) cd_T_readDigits_46 rfl (by decide) rfl ?_
              refine ze_aload_n 3 cd_T_readDigits_47 rfl rfl ?_
              refine ze_dup cd_T_readDigits_48 rfl ?_
              refine ze_get zin_T (v := .int (nI nx1)) (ci := 5) rfl 2 (by decide) zm_166 rfl cd_T_readDigits_49 hO.1 rfl ?_
              refine ze_iconst (v := nI 1) cd_T_readDigits_52 (by decide) ?_
              refine ze_iadd cd_T_readDigits_53 ?_
              refine ze_top (y := nI (nx1 + 1)) (nI_add _ _) ?_
              refine ze_put zin_T zy_T zt_T zn_T (ci := 5) rfl 2 (by decide) zm_166 rfl (Or.inl rfl) cd_T_readDigits_54 hO.1 rfl rfl (Nat.le_of_ble_eq_true rfl) (fs' := [.ref (t + 1), .int (nI len), .int (nI (nx1 + 1)), .int wr, .ref lv]) rfl ?_
              have hO := hO.put (fs' := [.ref (t + 1), .int (nI len), .int (nI (nx1 + 1)), .int wr, .ref lv])
              have hF := hF.up (a := t) (e := .inr (5, [.ref (t + 1), .int (nI len), .int (nI (nx1 + 1)), .int wr, .ref lv])) (by omega) (by omega)
              refine ze_iinc (v := nI (lo + 1)) (lv' := [(2, .int (nI (lo + 1))), (1, .int ((v * (nI 10)) + ((za W len nx1) - (nI 48)))), (3, .int ((za W len nx1) - (nI 48))), (0, .ref t)]) 2 cd_T_readDigits_57 rfl (nI_add _ 1) (by decide) rfl ?_
              refine ze_goto (tgt := 4) cd_T_readDigits_60 (by decide) ?_
              exact ze_sub [0, 1, 3] rfl (ih (lo + 1) _ _ _ (by omega) (by omega) (by rw [← hE]; simp [zt_dg, c6, c8, c9]) hO hF)
            · skip
              refine ze_goto (tgt := 63) cd_T_readDigits_37 (by decide) ?_
              refine ze_iload_n 2 cd_T_readDigits_63 rfl rfl ?_
              refine ze_if_ne (tgt := 77) cd_T_readDigits_64 (by decide) (fun c10 => ?_) (fun c10 => ?_)
              · skip
                refine ze_iload_n 2 cd_T_readDigits_77 rfl rfl ?_
                refine ze_iret cd_T_readDigits_78 rfl (by decide) (by decide) ⟨_, rfl, rfl, hF, v, nx1, wr, ?_, rfl, by omega, hO⟩
                rw [← hE]; first | (simp [zt_dg, zt_dig1, c5, c6, c8, c9, c10]; done) | (simp_all [zt_dg, zt_dig1]; done)
              · skip
                refine ze_aload_n 3 cd_T_readDigits_67 rfl rfl ?_
                refine ze_aload_n 3 cd_T_readDigits_68 rfl rfl ?_
                refine ze_get zin_T (v := .int (nI nx1)) (ci := 5) rfl 2 (by decide) zm_166 rfl cd_T_readDigits_69 hO.1 rfl ?_
                refine ze_put zin_T zy_T zt_T zn_T (ci := 5) rfl 3 (by decide) zm_167 rfl (Or.inl rfl) cd_T_readDigits_72 hO.1 rfl rfl (Nat.le_of_ble_eq_true rfl) (fs' := [.ref (t + 1), .int (nI len), .int (nI nx1), .int (nI nx1), .ref lv]) rfl ?_
                have hO := hO.put (fs' := [.ref (t + 1), .int (nI len), .int (nI nx1), .int (nI nx1), .ref lv])
                have hF := hF.up (a := t) (e := .inr (5, [.ref (t + 1), .int (nI len), .int (nI nx1), .int (nI nx1), .ref lv])) (by omega) (by omega)
                refine ze_iconst (v := (-1 : Int32)) cd_T_readDigits_75 (by decide) ?_
                refine ze_iret cd_T_readDigits_76 rfl (by decide) (by decide) ⟨_, rfl, rfl, hF, (-1 : Int32), nx1, nI nx1, ?_, rfl, by omega, hO⟩
                rw [← hE]; first | (simp [zt_dg, zt_dig1, c5, c6, c8, c9, c10]; done) | (simp_all [zt_dg, zt_dig1]; done)
  refine zM_of (lv := [(0, .ref t)]) (ini := false) (by decide) rfl (by decide) (Nat.le_of_ble_eq_true rfl) rfl ?_
  refine ze_iconst (v := nI 0) cd_T_readDigits_0 (by decide) ?_
  refine ze_istore_n (lv' := [(1, .int (nI 0)), (0, .ref t)]) cd_T_readDigits_1 rfl (by decide) rfl ?_
  refine ze_iconst (v := nI 0) cd_T_readDigits_2 (by decide) ?_
  refine ze_istore_n (lv' := [(2, .int (nI 0)), (1, .int (nI 0)), (0, .ref t)]) cd_T_readDigits_3 rfl (by decide) rfl ?_
  exact loop 4 0 nx (nI 0) _ (by omega) (by omega) hX0 hO hF
abbrev zr_T_readYear : Room := { frames := 1, cells := 0, slots := 0, locals := 22 }
set_option maxRecDepth 100000 in
set_option maxHeartbeats 4000000 in
theorem kc_T_readYear {g : zx_G} {σ : zx_M} {sz : Nat} {t len nx lv : Nat} {wr : Int32} {W : Nat → Int32} {least : Int32} (hO : zt g σ t len nx wr lv W) (hlen : len ≤ 3000) (hnx : nx ≤ 15000) : zM g cy_T_readYear cb_T_readYear 5 (Option.some Jvm.ClassFile.FieldType.int) zr_T_readYear 0 0 [.ref t, .int least] σ sz (zPi (fun v σ' sz' => sz' = sz ∧ zfr σ σ' t 2 ∧ ∃ r nx' wr', zt_yr1 (zt_yv (za W len) nx 4 0 (nI 0)) least nx wr = (r, nx', wr') ∧ r = v ∧ nx' ≤ nx + 4 ∧ zt g σ' t len nx' wr' lv W)) := by
  generalize hX0 : zt_yv (za W len) nx 4 0 (nI 0) = X0
  have hF : zfr σ σ t 2 := zfr.rf
  have loop : ∀ (kk : Nat) (lo : Nat) (v : Int32), lo + kk = 4 → zt_yv (za W len) nx kk lo v = X0 → zE g "FindingAid$TextReader" cb_T_readYear 5 (Option.some Jvm.ClassFile.FieldType.int) false zr_T_readYear 0 0 (zPi (fun v σ' sz' => sz' = sz ∧ zfr σ σ' t 2 ∧ ∃ r nx' wr', zt_yr1 (X0) least nx wr = (r, nx', wr') ∧ r = v ∧ nx' ≤ nx + 4 ∧ zt g σ' t len nx' wr' lv W)) 4 [(3, .int (nI lo)), (2, .int v), (0, .ref t), (1, .int least)] [] σ sz 0 0 := by
    intro kk
    induction kk with
    | zero =>
      intro lo v hk hE
      refine ze_iload_n 0 cd_T_readYear_4 rfl rfl ?_
      refine ze_iconst (v := nI 4) cd_T_readYear_5 (by decide) ?_
      refine ze_icmp_ge (tgt := 53) cd_T_readYear_6 (by decide) (fun c2 => ?_) (fun c2 => ?_)
      · skip
        have c2 : 4 ≤ lo := (nI_leI (by omega) (by omega)).mp c2
        refine ze_iload_n 1 cd_T_readYear_53 rfl rfl ?_
        refine ze_iload_n 3 cd_T_readYear_54 rfl rfl ?_
        refine ze_icmp_lt (tgt := 65) cd_T_readYear_55 (by decide) (fun c3 => ?_) (fun c3 => ?_)
        · skip
          refine ze_aload_n 2 cd_T_readYear_65 rfl rfl ?_
          refine ze_aload_n 2 cd_T_readYear_66 rfl rfl ?_
          refine ze_get zin_T (v := .int (nI nx)) (ci := 5) rfl 2 (by decide) zm_166 rfl cd_T_readYear_67 hO.1 rfl ?_
          refine ze_put zin_T zy_T zt_T zn_T (ci := 5) rfl 3 (by decide) zm_167 rfl (Or.inl rfl) cd_T_readYear_70 hO.1 rfl rfl (Nat.le_of_ble_eq_true rfl) (fs' := [.ref (t + 1), .int (nI len), .int (nI nx), .int (nI nx), .ref lv]) rfl ?_
          have hO := hO.put (fs' := [.ref (t + 1), .int (nI len), .int (nI nx), .int (nI nx), .ref lv])
          have hF := hF.up (a := t) (e := .inr (5, [.ref (t + 1), .int (nI len), .int (nI nx), .int (nI nx), .ref lv])) (by omega) (by omega)
          refine ze_iconst (v := (-1 : Int32)) cd_T_readYear_73 (by decide) ?_
          refine ze_iret cd_T_readYear_74 rfl (by decide) (by decide) ⟨_, rfl, rfl, hF, (-1 : Int32), nx, nI nx, ?_, rfl, by omega, hO⟩
          rw [← hE]; first | (simp [zt_yv, zt_yr1, c2, c3]; done) | (simp_all [zt_yv, zt_yr1]; done)
        · skip
          refine ze_iload_n 1 cd_T_readYear_58 rfl rfl ?_
          refine ze_sipush (v := nI 2999) cd_T_readYear_59 (by decide) ?_
          refine ze_icmp_le (tgt := 75) cd_T_readYear_62 (by decide) (fun c4 => ?_) (fun c4 => ?_)
          · skip
            have c4 : ¬ (nI 2999) < v := Int32.not_lt.mpr c4
            refine ze_aload_n 2 cd_T_readYear_75 rfl rfl ?_
            refine ze_dup cd_T_readYear_76 rfl ?_
            refine ze_get zin_T (v := .int (nI nx)) (ci := 5) rfl 2 (by decide) zm_166 rfl cd_T_readYear_77 hO.1 rfl ?_
            refine ze_iconst (v := nI 4) cd_T_readYear_80 (by decide) ?_
            refine ze_iadd cd_T_readYear_81 ?_
            refine ze_top (y := nI (nx + 4)) (nI_add _ _) ?_
            refine ze_put zin_T zy_T zt_T zn_T (ci := 5) rfl 2 (by decide) zm_166 rfl (Or.inl rfl) cd_T_readYear_82 hO.1 rfl rfl (Nat.le_of_ble_eq_true rfl) (fs' := [.ref (t + 1), .int (nI len), .int (nI (nx + 4)), .int wr, .ref lv]) rfl ?_
            have hO := hO.put (fs' := [.ref (t + 1), .int (nI len), .int (nI (nx + 4)), .int wr, .ref lv])
            have hF := hF.up (a := t) (e := .inr (5, [.ref (t + 1), .int (nI len), .int (nI (nx + 4)), .int wr, .ref lv])) (by omega) (by omega)
            refine ze_iload_n 1 cd_T_readYear_85 rfl rfl ?_
            refine ze_iret cd_T_readYear_86 rfl (by decide) (by decide) ⟨_, rfl, rfl, hF, v, nx + 4, wr, ?_, rfl, by omega, hO⟩
            rw [← hE]; first | (simp [zt_yv, zt_yr1, c2, c3, c4]; done) | (simp_all [zt_yv, zt_yr1]; done)
          · skip
            have c4 : (nI 2999) < v := Int32.not_le.mp c4
            refine ze_aload_n 2 cd_T_readYear_65 rfl rfl ?_
            refine ze_aload_n 2 cd_T_readYear_66 rfl rfl ?_
            refine ze_get zin_T (v := .int (nI nx)) (ci := 5) rfl 2 (by decide) zm_166 rfl cd_T_readYear_67 hO.1 rfl ?_
            refine ze_put zin_T zy_T zt_T zn_T (ci := 5) rfl 3 (by decide) zm_167 rfl (Or.inl rfl) cd_T_readYear_70 hO.1 rfl rfl (Nat.le_of_ble_eq_true rfl) (fs' := [.ref (t + 1), .int (nI len), .int (nI nx), .int (nI nx), .ref lv]) rfl ?_
            have hO := hO.put (fs' := [.ref (t + 1), .int (nI len), .int (nI nx), .int (nI nx), .ref lv])
            have hF := hF.up (a := t) (e := .inr (5, [.ref (t + 1), .int (nI len), .int (nI nx), .int (nI nx), .ref lv])) (by omega) (by omega)
            refine ze_iconst (v := (-1 : Int32)) cd_T_readYear_73 (by decide) ?_
            refine ze_iret cd_T_readYear_74 rfl (by decide) (by decide) ⟨_, rfl, rfl, hF, (-1 : Int32), nx, nI nx, ?_, rfl, by omega, hO⟩
            rw [← hE]; first | (simp [zt_yv, zt_yr1, c2, c3, c4]; done) | (simp_all [zt_yv, zt_yr1]; done)
      · skip
        have c2 : ¬ 4 ≤ lo := fun h9 => c2 ((nI_leI (by omega) (by omega)).mpr h9)
        exfalso; omega
    | succ kk ih =>
      intro lo v hk hE
      refine ze_iload_n 0 cd_T_readYear_4 rfl rfl ?_
      refine ze_iconst (v := nI 4) cd_T_readYear_5 (by decide) ?_
      refine ze_icmp_ge (tgt := 53) cd_T_readYear_6 (by decide) (fun c6 => ?_) (fun c6 => ?_)
      · skip
        have c6 : 4 ≤ lo := (nI_leI (by omega) (by omega)).mp c6
        exfalso; omega
      · skip
        have c6 : ¬ 4 ≤ lo := fun h9 => c6 ((nI_leI (by omega) (by omega)).mpr h9)
        refine ze_aload_n 2 cd_T_readYear_9 rfl rfl ?_
        refine ze_iload_n 0 cd_T_readYear_10 rfl rfl ?_
        refine ze_callVp (rm' := zr_T_ahead) (b := t) (As := [.int (nI lo)]) (rest := []) (kc_T_ahead (W := W) hO hlen (by omega) (by omega)) ⟨rfl, rfl⟩ zy_T_ahead_ok zm_549 zm_551 zm_13 (ci := 5) rfl rfl (by decide) (by decide) cd_T_readYear_11 hO.1 rfl rfl (Nat.le_of_ble_eq_true rfl) ?_
        refine ze_istore (lv' := [(4, .int (za W len (nx + lo))), (3, .int (nI lo)), (2, .int v), (0, .ref t), (1, .int least)]) cd_T_readYear_14 (by decide) rfl ?_
        refine ze_iload 0 cd_T_readYear_16 rfl ?_
        refine ze_callSp (rm' := zr_T_isDigit) (As := [.int (za W len (nx + lo))]) (rest := []) kc_T_isDigit ⟨rfl, rfl⟩ zy_T_isDigit_ok zm_582 zm_583 (by decide) (by decide) cd_T_readYear_18 rfl rfl (Nat.le_of_ble_eq_true rfl) ?_
        refine ze_if_ne (tgt := 36) cd_T_readYear_21 (by decide) (fun c7 => ?_) (fun c7 => ?_)
        · skip
          have c7 : (zt_d (za W len (nx + lo))) = true := zb_t c7
          refine ze_iload_n 2 cd_T_readYear_36 rfl rfl ?_
          refine ze_bipush (v := nI 10) cd_T_readYear_37 (by decide) ?_
          refine ze_imul cd_T_readYear_39 ?_
          refine ze_iload 0 cd_T_readYear_40 rfl ?_
          refine ze_bipush (v := nI 48) cd_T_readYear_42 (by decide) ?_
          refine ze_isub cd_T_readYear_44 ?_
          refine ze_iadd cd_T_readYear_45 ?_
          refine ze_istore_n (lv' := [(2, .int ((v * (nI 10)) + ((za W len (nx + lo)) - (nI 48)))), (4, .int (za W len (nx + lo))), (3, .int (nI lo)), (0, .ref t), (1, .int least)]) cd_T_readYear_46 rfl (by decide) rfl ?_
          refine ze_iinc (v := nI (lo + 1)) (lv' := [(3, .int (nI (lo + 1))), (2, .int ((v * (nI 10)) + ((za W len (nx + lo)) - (nI 48)))), (4, .int (za W len (nx + lo))), (0, .ref t), (1, .int least)]) 2 cd_T_readYear_47 rfl (nI_add _ 1) (by decide) rfl ?_
          refine ze_goto (tgt := 4) cd_T_readYear_50 (by decide) ?_
          exact ze_sub [0, 1, 3, 4] rfl (ih (lo + 1) _ (by omega) (by rw [← hE]; simp [zt_yv, c7]))
        · skip
          have c7 : (zt_d (za W len (nx + lo))) = false := zb_f c7
          refine ze_aload_n 3 cd_T_readYear_24 rfl rfl ?_
          refine ze_aload_n 3 cd_T_readYear_25 rfl rfl ?_
          refine ze_get zin_T (v := .int (nI nx)) (ci := 5) rfl 2 (by decide) zm_166 rfl cd_T_readYear_26 hO.1 rfl ?_
          refine ze_iload_n 1 cd_T_readYear_29 rfl rfl ?_
          refine ze_iadd cd_T_readYear_30 ?_
          refine ze_top (y := nI (nx + lo)) (nI_add _ _) ?_
          refine ze_put zin_T zy_T zt_T zn_T (ci := 5) rfl 3 (by decide) zm_167 rfl (Or.inl rfl) cd_T_readYear_31 hO.1 rfl rfl (Nat.le_of_ble_eq_true rfl) (fs' := [.ref (t + 1), .int (nI len), .int (nI nx), .int (nI (nx + lo)), .ref lv]) rfl ?_
          have hO := hO.put (fs' := [.ref (t + 1), .int (nI len), .int (nI nx), .int (nI (nx + lo)), .ref lv])
          have hF := hF.up (a := t) (e := .inr (5, [.ref (t + 1), .int (nI len), .int (nI nx), .int (nI (nx + lo)), .ref lv])) (by omega) (by omega)
          refine ze_iconst (v := (-1 : Int32)) cd_T_readYear_34 (by decide) ?_
          refine ze_iret cd_T_readYear_35 rfl (by decide) (by decide) ⟨_, rfl, rfl, hF, (-1 : Int32), nx, nI (nx + lo), ?_, rfl, by omega, hO⟩
          rw [← hE]; first | (simp [zt_yv, zt_yr1, c6, c7]; done) | (simp_all [zt_yv, zt_yr1]; done)
  refine zM_of (lv := [(0, .ref t), (1, .int least)]) (ini := false) (by decide) rfl (by decide) (Nat.le_of_ble_eq_true rfl) rfl ?_
  refine ze_iconst (v := nI 0) cd_T_readYear_0 (by decide) ?_
  refine ze_istore_n (lv' := [(2, .int (nI 0)), (0, .ref t), (1, .int least)]) cd_T_readYear_1 rfl (by decide) rfl ?_
  refine ze_iconst (v := nI 0) cd_T_readYear_2 (by decide) ?_
  refine ze_istore_n (lv' := [(3, .int (nI 0)), (2, .int (nI 0)), (0, .ref t), (1, .int least)]) cd_T_readYear_3 rfl (by decide) rfl ?_
  exact loop 4 0 (nI 0) (by omega) hX0
