/-! THE GENERIC HEAP. A shape z: the kind of each address, the addresses, the references by component (100 * class + slot) and address, the rows of references by kind (1000 + component of the field that holds them) and address. Values w: int fields by component and address; rows of ints, of longs by kind and address. -/
abbrev Zt : Type := (Nat → Nat) × List Nat × (Nat → Nat → Option Nat) × (Nat → Nat → Nat → Option Nat)
abbrev Vt : Type := (Nat → Nat → Int32) × (Nat → Nat → Nat → Int32) × (Nat → Nat → Nat → Int64)
def zR (z : Zt) : Nat → Nat → Option Nat := z.2.2.1
def zO (z : Zt) : Nat → Nat → Nat → Option Nat := z.2.2.2
def vI (w : Vt) : Nat → Nat → Int32 := w.1
def vA (w : Vt) : Nat → Nat → Nat → Int32 := w.2.1
def vL (w : Vt) : Nat → Nat → Nat → Int64 := w.2.2
def uI (w : Vt) (c a : Nat) (x : Int32) : Vt := (va_up w.1 c (va_up (w.1 c) a x), w.2)
def uA (w : Vt) (k a j : Nat) (x : Int32) : Vt := (w.1, va_up w.2.1 k (va_up (w.2.1 k) a (upd (w.2.1 k a) j x)), w.2.2)
def uF (w : Vt) (k a : Nat) (f : Nat → Int32) : Vt := (w.1, va_up w.2.1 k (va_up (w.2.1 k) a f), w.2.2)
def uL (w : Vt) (k a j : Nat) (x : Int64) : Vt := (w.1, w.2.1, va_up w.2.2 k (va_up (w.2.2 k) a (vp_updL (w.2.2 k a) j x)))
def uR (z : Zt) (c a : Nat) (x : Option Nat) : Zt := (z.1, z.2.1, va_up z.2.2.1 c (va_up (z.2.2.1 c) a x), z.2.2.2)
def uO (z : Zt) (k a j : Nat) (x : Option Nat) : Zt := (z.1, z.2.1, z.2.2.1, va_up z.2.2.2 k (va_up (z.2.2.2 k) a (va_up (z.2.2.2 k a) j x)))
/-- the cell of kind t, out of its address's rows -/
def hpO (t : Nat) (i : Nat → Int32) (r : Nat → Option Nat) : List Value := match t with
  | 0 => [va_rf (r 0), .int (i 1), .int (i 2), .int (i 3), .int (i 4), .int (i 5), .int (i 6), .int (i 7)]
  | 1 => [va_rf (r 100), va_rf (r 101), va_rf (r 102), .int (i 103), va_rf (r 104), va_rf (r 105)]
  | 2 => [.int (i 200), .int (i 201), .int (i 202), .int (i 203), .int (i 204)]
  | 3 => [va_rf (r 300), .int (i 301), .int (i 302)]
  | 4 => [va_rf (r 400), va_rf (r 401), va_rf (r 402), va_rf (r 403), va_rf (r 404), .int (i 405), .int (i 406)]
  | 5 => [.int (i 500), .int (i 501), .int (i 502), .int (i 503), .int (i 504), .int (i 505), .int (i 506), .int (i 507), .int (i 508)]
  | 6 => [va_rf (r 600), .int (i 601), .int (i 602)]
  | 7 => [va_rf (r 700), va_rf (r 701), va_rf (r 702), va_rf (r 703), va_rf (r 704), .int (i 705)]
  | 8 => [va_rf (r 800), .int (i 801), .int (i 802)]
  | 9 => [va_rf (r 900), va_rf (r 901), va_rf (r 902), .int (i 903), va_rf (r 904), .int (i 905), va_rf (r 906), va_rf (r 907), .int (i 908), va_rf (r 909), .int (i 910), va_rf (r 911), va_rf (r 912), va_rf (r 913), .int (i 914), .int (i 915)]
  | 10 => [.int (i 1000), .int (i 1001), .int (i 1002), va_rf (r 1003), va_rf (r 1004), va_rf (r 1005), va_rf (r 1006), va_rf (r 1007), va_rf (r 1008), va_rf (r 1009), va_rf (r 1010), va_rf (r 1011), va_rf (r 1012), va_rf (r 1013), .int (i 1014), va_rf (r 1015), va_rf (r 1016), va_rf (r 1017), va_rf (r 1018), va_rf (r 1019), va_rf (r 1020), va_rf (r 1021), va_rf (r 1022), va_rf (r 1023), va_rf (r 1024), va_rf (r 1025), .int (i 1026), va_rf (r 1027), va_rf (r 1028), .int (i 1029), .int (i 1030), .int (i 1031), .int (i 1032), va_rf (r 1033), .int (i 1034), .int (i 1035), .int (i 1036), .int (i 1037), .int (i 1038), va_rf (r 1039), va_rf (r 1040), .int (i 1041), va_rf (r 1042), va_rf (r 1043), va_rf (r 1044), va_rf (r 1045), va_rf (r 1046), .int (i 1047), va_rf (r 1048), va_rf (r 1049), va_rf (r 1050), .int (i 1051), va_rf (r 1052)]
  | _ => []
def hpA (ac : Nat → ClassId) (t : Nat) (f : Nat → Int32) (o : Nat → Option Nat) (g : Nat → Int64) : va_E := match t with
  | 1000 => .inl (ac 1, 600, .inl f)
  | 1100 => .inl (ac 2, 16, .inl f)
  | 1101 => .inl (ac 2, 16, .inl f)
  | 1102 => .inl (ac 2, 16, .inl f)
  | 1104 => .inl (ac 1, 17, .inl f)
  | 1105 => .inl (ac 1, 17, .inl f)
  | 1400 => .inl (ac 1, 15, .inl f)
  | 1401 => .inl (ac 1, 15, .inl f)
  | 1402 => .inl (ac 1, 15, .inl f)
  | 1403 => .inl (ac 1, 15, .inl f)
  | 1404 => .inl (ac 1, 15, .inl f)
  | 1600 => .inl (ac 6, 4, .inr (.inr (.inr (.inr o))))
  | 1700 => .inl (ac 1, 200, .inl f)
  | 1701 => .inl (ac 1, 200, .inl f)
  | 1702 => .inl (ac 1, 200, .inl f)
  | 1703 => .inl (ac 1, 200, .inl f)
  | 1704 => .inl (ac 1, 200, .inl f)
  | 1800 => .inl (ac 1, 400, .inl f)
  | 1904 => .inl (ac 7, 6, .inr (.inr (.inr (.inr o))))
  | 1906 => .inl (ac 3, 8, .inr (.inr (.inr (.inr o))))
  | 1907 => .inl (ac 5, 12, .inr (.inr (.inr (.inr o))))
  | 1909 => .inl (ac 4, 60, .inr (.inr (.inr (.inr o))))
  | 1911 => .inl (ac 1, 5, .inl f)
  | 2003 => .inl (ac 1, 24, .inl f)
  | 2004 => .inl (ac 1, 24, .inl f)
  | 2005 => .inl (ac 1, 24, .inl f)
  | 2006 => .inl (ac 1, 24, .inl f)
  | 2007 => .inl (ac 1, 24, .inl f)
  | 2008 => .inl (ac 1, 24, .inl f)
  | 2009 => .inl (ac 1, 24, .inl f)
  | 2010 => .inl (ac 1, 24, .inl f)
  | 2011 => .inl (ac 1, 24, .inl f)
  | 2012 => .inl (ac 1, 6, .inl f)
  | 2013 => .inl (ac 1, 6, .inl f)
  | 2015 => .inl (ac 1, 8, .inl f)
  | 2016 => .inl (ac 1, 8, .inl f)
  | 2017 => .inl (ac 1, 8, .inl f)
  | 2018 => .inl (ac 1, 8, .inl f)
  | 2019 => .inl (ac 1, 8, .inl f)
  | 2020 => .inl (ac 1, 8, .inl f)
  | 2021 => .inl (ac 1, 8, .inl f)
  | 2022 => .inl (ac 1, 4800, .inl f)
  | 2023 => .inl (ac 1, 12, .inl f)
  | 2024 => .inl (ac 1, 12, .inl f)
  | 2025 => .inl (ac 1, 12, .inl f)
  | 2027 => .inl (ac 1, 300, .inl f)
  | 2028 => .inl (ac 1, 300, .inl f)
  | 2033 => .inl (ac 0, 400, .inl f)
  | 2039 => .inl (ac 1, 5, .inl f)
  | 2040 => .inl (ac 1, 360, .inl f)
  | 2042 => .inl (ac 1, 200, .inl f)
  | 2043 => .inl (ac 1, 200, .inl f)
  | 2044 => .inl (ac 1, 200, .inl f)
  | 2045 => .inl (ac 1, 200, .inl f)
  | 2046 => .inl (ac 1, 200, .inl f)
  | 2048 => .inl (ac 2, 18, .inl f)
  | 2049 => .inl (ac 2, 18, .inl f)
  | 2050 => .inl (ac 2, 18, .inl f)
  | 2052 => .inl (ac 1, 5508, .inl f)
  | 3000 => .inl (ac 8, 1, .inr (.inl g))
  | _ => .inr (11, [])
def hpC (ac : Nat → ClassId) (t : Nat) (i : Nat → Int32) (r : Nat → Option Nat) (f : Nat → Int32) (o : Nat → Option Nat) (g : Nat → Int64) : va_E := if t < 11 then .inr (t, hpO t i r) else hpA ac t f o g
def hpE (ac : Nat → ClassId) (z : Zt) (w : Vt) (a : Nat) : va_E := hpC ac (z.1 a) (fun c => vI w c a) (fun c => zR z c a) (vA w (z.1 a) a) (zO z (z.1 a) a) (vL w (z.1 a) a)
def hpW (ac : Nat → ClassId) (z : Zt) (w : Vt) : va_W := va_pl z.2.1 (hpE ac z w)
def isO (z : Zt) (t a : Nat) : Prop := a ∈ z.2.1 ∧ z.1 a = t
abbrev aT (ac : Nat → ClassId) : List (ClassId × FieldType) := [(ac 0, .byte), (ac 1, .int), (ac 2, .boolean), (ac 3, .object "KelpShores$Family"), (ac 4, .object "KelpShores$Lot"), (ac 5, .object "KelpShores$Pit"), (ac 6, .object "KelpShores$Rock"), (ac 7, .object "KelpShores$Shore"), (ac 8, .long)]
theorem hpC_o {ac : Nat → ClassId} {t : Nat} {i : Nat → Int32} {r : Nat → Option Nat} {f : Nat → Int32} {o : Nat → Option Nat} {g : Nat → Int64} (h : t < 11) : hpC ac t i r f o g = .inr (t, hpO t i r) := by simp [hpC, h]
theorem hpC_a {ac : Nat → ClassId} {t : Nat} {i : Nat → Int32} {r : Nat → Option Nat} {f : Nat → Int32} {o : Nat → Option Nat} {g : Nat → Int64} (h : ¬ t < 11) : hpC ac t i r f o g = hpA ac t f o g := by simp [hpC, h]
theorem hpE_o {ac : Nat → ClassId} {z : Zt} {w : Vt} {t a : Nat} (ho : isO z t a) (h : t < 11) : hpE ac z w a = .inr (t, hpO t (fun c => vI w c a) (fun c => zR z c a)) := by
  unfold hpE
  rw [ho.2]
  exact hpC_o h
theorem hpE_a {ac : Nat → ClassId} {z : Zt} {w : Vt} {t a : Nat} (ho : isO z t a) (h : ¬ t < 11) : hpE ac z w a = hpA ac t (vA w t a) (zO z t a) (vL w t a) := by
  unfold hpE
  rw [ho.2]
  exact hpC_a h
theorem hp_at {ac : Nat → ClassId} {z : Zt} {w : Vt} {a : Nat} (h : a ∈ z.2.1) : ∃ k : Nat, (hpW ac z w)[k]? = some (a, hpE ac z w a) := va_pl_get (X := []) h
theorem hp_set {A : Nat → Prop} {ac : Nat → ClassId} {z : Zt} {w w' : Vt} {a k : Nat} {e : va_E} (hD : va_D A (hpW ac z w)) (ha : a ∈ z.2.1) (hk : (hpW ac z w)[k]? = some (a, hpE ac z w a)) (hne : ∀ b, b ≠ a → hpE ac z w' b = hpE ac z w b) (hat : hpE ac z w' a = e) : (hpW ac z w).set k (a, e) = hpW ac z w' := by
  have h2 : (hpW ac z w).set k (a, e) = va_pl z.2.1 (va_up (hpE ac z w) a e) := va_pl_set (X := []) (A := A) hD ha hk
  rw [h2]
  refine va_pl_congr (fun b => ?_)
  by_cases hb : b = a
  · subst hb
    rw [va_up_self]
    exact hat.symm
  · rw [va_up_ne _ _ hb]
    exact (hne b hb).symm
-- what an update says of the other addresses, and of its own
theorem vI_u (w : Vt) (c a : Nat) (x : Int32) (c' b : Nat) : vI (uI w c a x) c' b = if c' = c ∧ b = a then x else vI w c' b := by
  simp only [vI, uI, va_up]
  by_cases h : c' = c
  · subst h
    by_cases h2 : b = a <;> simp [va_up, h2]
  · simp [h]
theorem vA_u (w : Vt) (k a j : Nat) (x : Int32) (k' b : Nat) : vA (uA w k a j x) k' b = if k' = k ∧ b = a then upd (vA w k a) j x else vA w k' b := by
  simp only [vA, uA, va_up]
  by_cases h : k' = k
  · subst h
    by_cases h2 : b = a <;> simp [va_up, h2]
  · simp [h]
theorem vA_uF (w : Vt) (k a : Nat) (f : Nat → Int32) (k' b : Nat) : vA (uF w k a f) k' b = if k' = k ∧ b = a then f else vA w k' b := by
  simp only [vA, uF, va_up]
  by_cases h : k' = k
  · subst h
    by_cases h2 : b = a <;> simp [va_up, h2]
  · simp [h]
theorem vL_u (w : Vt) (k a j : Nat) (x : Int64) (k' b : Nat) : vL (uL w k a j x) k' b = if k' = k ∧ b = a then vp_updL (vL w k a) j x else vL w k' b := by
  simp only [vL, uL, va_up]
  by_cases h : k' = k
  · subst h
    by_cases h2 : b = a <;> simp [va_up, h2]
  · simp [h]
theorem hpE_eq {ac : Nat → ClassId} {z : Zt} {w w' : Vt} {b : Nat} (h1 : ∀ c, vI w' c b = vI w c b) (h3 : ∀ k, vA w' k b = vA w k b) (h5 : ∀ k, vL w' k b = vL w k b) : hpE ac z w' b = hpE ac z w b := by
  unfold hpE
  rw [show (fun c => vI w' c b) = (fun c => vI w c b) from funext h1, h3, h5]
theorem hpE_uI {ac : Nat → ClassId} {z : Zt} {w : Vt} {c a b : Nat} {x : Int32} (h : b ≠ a) : hpE ac z (uI w c a x) b = hpE ac z w b := hpE_eq (fun c' => by rw [vI_u]; simp [h]) (fun _ => rfl) (fun _ => rfl)
theorem hpE_uA {ac : Nat → ClassId} {z : Zt} {w : Vt} {k a b j : Nat} {x : Int32} (h : b ≠ a) : hpE ac z (uA w k a j x) b = hpE ac z w b := hpE_eq (fun _ => rfl) (fun c' => by rw [vA_u]; simp [h]) (fun _ => rfl)
theorem hpE_uF {ac : Nat → ClassId} {z : Zt} {w : Vt} {k a b : Nat} {f : Nat → Int32} (h : b ≠ a) : hpE ac z (uF w k a f) b = hpE ac z w b := hpE_eq (fun _ => rfl) (fun c' => by rw [vA_uF]; simp [h]) (fun _ => rfl)
theorem hpE_uL {ac : Nat → ClassId} {z : Zt} {w : Vt} {k a b j : Nat} {x : Int64} (h : b ≠ a) : hpE ac z (uL w k a j x) b = hpE ac z w b := hpE_eq (fun _ => rfl) (fun _ => rfl) (fun c' => by rw [vL_u]; simp [h])
theorem vI_at (w : Vt) (c a : Nat) (x : Int32) : (fun c' => vI (uI w c a x) c' a) = va_up (fun c' => vI w c' a) c x := by
  funext c'
  rw [vI_u]
  simp [va_up]
/-- the world z, w lies in H; since H0 nothing outside A has changed -/
abbrev hpH (D : va_G) (ac : Nat → ClassId) (A : Nat → Prop) (H0 : Heap) (z : Zt) (w : Vt) (H : Heap) (locs : List Loc) : Prop := va_P D vwCl (hpW ac z w) H ∧ va_D A (hpW ac z w) ∧ va_S A H0 H locs
section HPR
variable {p : Program} {l : Launch} {e : Env} {R : Room} {s : State} {m : MethodId} {args : Array Value} {below : List Frame} {meth : Method} {c : Code} {H : Heap} {locs : List Loc} {cells slots : Nat} {Q : State → Prop}
variable {cc : ByteArray} {pc : Nat} {ls : Array Slot} {rest : List Value} {D : va_G} {ac : Nat → ClassId} {A : Nat → Prop} {a : Nat} {z : Zt} {w : Vt} {H0 : Heap}
theorem hp_get (hx : p.tables.exec = Jvm.exec) (hb : c.code = cc) {own ref C : String} {T : u_T} {N ci index : Nat} {Ts : List Cond} (hts : ∀ w ∈ Ts, w.before args s = true) (hin : ∀ w ∈ u_ws C T N, w ∈ Ts) (hown : s.vm.findClass own = some m.cls) (hK : va_K D vwCl (aT ac) s) (h : hpH D ac A H0 z w H locs) (ho : isO z ci a) (hci : ci < 11) (hc : vwCl[ci]? = some (C, T, N)) (k : Nat) (hk : k < N) (hlink : (Cond.fieldLink own index ref (T k).2.1 (T k).2.2.1).before args s = true) (hsame : ∀ x, s.fieldFound? (T k).1 (T k).2.1 (T k).2.2.1 = some x → s.fieldFound? ref (T k).2.1 (T k).2.2.1 = some x) {v : Value} (hv : (hpO ci (fun c => vI w c a) (fun c => zR z c a))[k]? = some v) (hdg : decode cc pc = .ok (.getfield index, 3))
    (kk : W p l e R s m args below meth c H locs cells slots Q (F0 m (pc + 3) ls (v :: rest))) : W p l e R s m args below meth c H locs cells slots Q (F0 m pc ls (.ref a :: rest)) := by
  obtain ⟨q0, hq⟩ := hp_at (ac := ac) (w := w) ho.1
  rw [hpE_o ho hci] at hq
  exact va_get hx hb hts hin hown hK h.1 q0 hq hc k hk hlink hsame hv hdg kk
theorem hp_getN (hx : p.tables.exec = Jvm.exec) (hb : c.code = cc) {own ref C host : String} {T : u_T} {N ci index : Nat} {Ts : List Cond} (hts : ∀ w ∈ Ts, w.before args s = true) (hin : ∀ w ∈ u_ws C T N, w ∈ Ts) (hown : s.vm.findClass own = some m.cls) (hK : va_K D vwCl (aT ac) s) (h : hpH D ac A H0 z w H locs) (ho : isO z ci a) (hci : ci < 11) (hc : vwCl[ci]? = some (C, T, N)) (k : Nat) (hk : k < N) (hlink : (Cond.fieldLinkNest own index ref (T k).2.1 (T k).2.2.1 host).before args s = true) (hsame : ∀ x, s.fieldFound? (T k).1 (T k).2.1 (T k).2.2.1 = some x → s.fieldFound? ref (T k).2.1 (T k).2.2.1 = some x) {v : Value} (hv : (hpO ci (fun c => vI w c a) (fun c => zR z c a))[k]? = some v) (hdg : decode cc pc = .ok (.getfield index, 3))
    (kk : W p l e R s m args below meth c H locs cells slots Q (F0 m (pc + 3) ls (v :: rest))) : W p l e R s m args below meth c H locs cells slots Q (F0 m pc ls (.ref a :: rest)) := by
  obtain ⟨q0, hq⟩ := hp_at (ac := ac) (w := w) ho.1
  rw [hpE_o ho hci] at hq
  exact va_getN hx hb hts hin hown hK h.1 q0 hq hc k hk hlink hsame hv hdg kk
/-- a field of a small type or an int is written -/
theorem hp_puti (hx : p.tables.exec = Jvm.exec) (hb : c.code = cc) {own ref C : String} {T : u_T} {N ci index : Nat} {Ts : List Cond} (hts : ∀ w ∈ Ts, w.before args s = true) (hin : ∀ w ∈ u_ws C T N, w ∈ Ts) (ty0 : Nat → FieldType) (hty : ∀ k, k < N → parseFieldDescriptor (T k).2.2.1 = some (ty0 k)) (hnm : ∀ a, a < N → ∀ b, b < N → a ≠ b → (T a).2.1 ≠ (T b).2.1) (hown : s.vm.findClass own = some m.cls) (hK : va_K D vwCl (aT ac) s) (h : hpH D ac A H0 z w H locs) (ho : isO z ci a) (hci : ci < 11) (hc : vwCl[ci]? = some (C, T, N)) (k cm : Nat) (hk : k < N) (hlink : (Cond.fieldLink own index ref (T k).2.1 (T k).2.2.1).before args s = true) (hsame : ∀ x, s.fieldFound? (T k).1 (T k).2.1 (T k).2.2.1 = some x → s.fieldFound? ref (T k).2.1 (T k).2.2.1 = some x) (hfin : (T k).2.2.2 = false) {ty : FieldType} {x : Int32} (hd : parseFieldDescriptor (T k).2.2.1 = some ty) (hn : narrow ty (.int x) = .int x) (hfit : fits ty (.int x) = true)
    (hset : ∀ i r, hpO ci (va_up i cm x) r = (hpO ci i r).set k (.int x)) (hl : ∀ i r, k < (hpO ci i r).length) (hdg : decode cc pc = .ok (.putfield index, 3))
    (kk : ∀ (H1 : Heap) (locs1 : List Loc) (w1 : Vt), w1 = uI w cm a x → hpH D ac A H0 z w1 H1 locs1 → W p l e R s m args below meth c H1 locs1 cells slots Q (F0 m (pc + 3) ls rest)) : W p l e R s m args below meth c H locs cells slots Q (F0 m pc ls (.int x :: .ref a :: rest)) := by
  obtain ⟨q0, hq0⟩ := hp_at (ac := ac) (w := w) ho.1
  have hq := hq0
  rw [hpE_o ho hci] at hq
  refine va_put hx hb hts hin ty0 hty hnm hown hK h.1 h.2.1 h.2.2 q0 hq hc k hk hlink hsame hfin hd hn hfit (hl _ _) hdg (fun H1 locs1 hP hD hS => kk H1 locs1 _ rfl ?_)
  have e : (hpW ac z w).set q0 (a, .inr (ci, (hpO ci (fun c => vI w c a) (fun c => zR z c a)).set k (.int x))) = hpW ac z (uI w cm a x) := hp_set h.2.1 ho.1 hq0 (fun b hb => hpE_uI hb) (by rw [hpE_o ho hci, vI_at, hset])
  rw [e] at hP hD
  exact ⟨hP, hD, hS⟩
theorem hp_putiN (hx : p.tables.exec = Jvm.exec) (hb : c.code = cc) {own ref C host : String} {T : u_T} {N ci index : Nat} {Ts : List Cond} (hts : ∀ w ∈ Ts, w.before args s = true) (hin : ∀ w ∈ u_ws C T N, w ∈ Ts) (ty0 : Nat → FieldType) (hty : ∀ k, k < N → parseFieldDescriptor (T k).2.2.1 = some (ty0 k)) (hnm : ∀ a, a < N → ∀ b, b < N → a ≠ b → (T a).2.1 ≠ (T b).2.1) (hown : s.vm.findClass own = some m.cls) (hK : va_K D vwCl (aT ac) s) (h : hpH D ac A H0 z w H locs) (ho : isO z ci a) (hci : ci < 11) (hc : vwCl[ci]? = some (C, T, N)) (k cm : Nat) (hk : k < N) (hlink : (Cond.fieldLinkNest own index ref (T k).2.1 (T k).2.2.1 host).before args s = true) (hsame : ∀ x, s.fieldFound? (T k).1 (T k).2.1 (T k).2.2.1 = some x → s.fieldFound? ref (T k).2.1 (T k).2.2.1 = some x) (hfin : (T k).2.2.2 = false) {ty : FieldType} {x : Int32} (hd : parseFieldDescriptor (T k).2.2.1 = some ty) (hn : narrow ty (.int x) = .int x) (hfit : fits ty (.int x) = true)
    (hset : ∀ i r, hpO ci (va_up i cm x) r = (hpO ci i r).set k (.int x)) (hl : ∀ i r, k < (hpO ci i r).length) (hdg : decode cc pc = .ok (.putfield index, 3))
    (kk : ∀ (H1 : Heap) (locs1 : List Loc) (w1 : Vt), w1 = uI w cm a x → hpH D ac A H0 z w1 H1 locs1 → W p l e R s m args below meth c H1 locs1 cells slots Q (F0 m (pc + 3) ls rest)) : W p l e R s m args below meth c H locs cells slots Q (F0 m pc ls (.int x :: .ref a :: rest)) := by
  obtain ⟨q0, hq0⟩ := hp_at (ac := ac) (w := w) ho.1
  have hq := hq0
  rw [hpE_o ho hci] at hq
  refine va_putN hx hb hts hin ty0 hty hnm hown hK h.1 h.2.1 h.2.2 q0 hq hc k hk hlink hsame hfin hd hn hfit (hl _ _) hdg (fun H1 locs1 hP hD hS => kk H1 locs1 _ rfl ?_)
  have e : (hpW ac z w).set q0 (a, .inr (ci, (hpO ci (fun c => vI w c a) (fun c => zR z c a)).set k (.int x))) = hpW ac z (uI w cm a x) := hp_set h.2.1 ho.1 hq0 (fun b hb => hpE_uI hb) (by rw [hpE_o ho hci, vI_at, hset])
  rw [e] at hP hD
  exact ⟨hP, hD, hS⟩
-- arrays
theorem hp_arr {t : Nat} {E : va_E} (ho : isO z t a) (hk : hpA ac t (vA w t a) (zO z t a) (vL w t a) = E) (ht : ¬ t < 11) : ∃ q : Nat, (hpW ac z w)[q]? = some (a, hpE ac z w a) ∧ (hpW ac z w)[q]? = some (a, E) := by
  obtain ⟨q0, hq⟩ := hp_at (ac := ac) (w := w) ho.1
  refine ⟨q0, hq, ?_⟩
  rw [hpE_a ho ht, hk] at hq
  exact hq
theorem hp_iald (hx : p.tables.exec = Jvm.exec) (hb : c.code = cc) (hK : va_K D vwCl (aT ac) s) (h : hpH D ac A H0 z w H locs) {t n : Nat} (ho : isO z t a) (ht : ¬ t < 11) (hk : ∀ f o g, hpA ac t f o g = .inl (ac 1, n, .inl f)) {i : Int32} (hin : vp_in i n) (hdg : decode cc pc = .ok (.iaload, 1))
    (kk : W p l e R s m args below meth c H locs cells slots Q (F0 m (pc + 1) ls (.int (vA w t a i.toNatClampNeg) :: rest))) : W p l e R s m args below meth c H locs cells slots Q (F0 m pc ls (.int i :: .ref a :: rest)) := by
  obtain ⟨q0, hq0, hq⟩ := hp_arr (ac := ac) (w := w) ho (hk _ _ _) ht
  exact va_iald hx hb hK h.1 q0 1 hq rfl hin hdg kk
theorem hp_bald (hx : p.tables.exec = Jvm.exec) (hb : c.code = cc) (hK : va_K D vwCl (aT ac) s) (h : hpH D ac A H0 z w H locs) {t n : Nat} (ho : isO z t a) (ht : ¬ t < 11) (hk : ∀ f o g, hpA ac t f o g = .inl (ac 0, n, .inl f)) {i : Int32} (hin : vp_in i n) (hdg : decode cc pc = .ok (.baload, 1))
    (kk : W p l e R s m args below meth c H locs cells slots Q (F0 m (pc + 1) ls (.int (vA w t a i.toNatClampNeg) :: rest))) : W p l e R s m args below meth c H locs cells slots Q (F0 m pc ls (.int i :: .ref a :: rest)) := by
  obtain ⟨q0, hq0, hq⟩ := hp_arr (ac := ac) (w := w) ho (hk _ _ _) ht
  exact va_bald hx hb hK h.1 q0 0 hq rfl hin hdg kk
theorem hp_zald (hx : p.tables.exec = Jvm.exec) (hb : c.code = cc) (hK : va_K D vwCl (aT ac) s) (h : hpH D ac A H0 z w H locs) {t n : Nat} (ho : isO z t a) (ht : ¬ t < 11) (hk : ∀ f o g, hpA ac t f o g = .inl (ac 2, n, .inl f)) {i : Int32} (hin : vp_in i n) (hdg : decode cc pc = .ok (.baload, 1))
    (kk : W p l e R s m args below meth c H locs cells slots Q (F0 m (pc + 1) ls (.int (vA w t a i.toNatClampNeg) :: rest))) : W p l e R s m args below meth c H locs cells slots Q (F0 m pc ls (.int i :: .ref a :: rest)) := by
  obtain ⟨q0, hq0, hq⟩ := hp_arr (ac := ac) (w := w) ho (hk _ _ _) ht
  exact va_zald hx hb hK h.1 q0 2 hq rfl hin hdg kk
theorem hp_aald (hx : p.tables.exec = Jvm.exec) (hb : c.code = cc) (hK : va_K D vwCl (aT ac) s) (h : hpH D ac A H0 z w H locs) {t n : Nat} (j : Nat) {C : String} (hj : (aT ac)[j]? = some (ac j, .object C)) (ho : isO z t a) (ht : ¬ t < 11) (hk : ∀ f o g, hpA ac t f o g = .inl (ac j, n, .inr (.inr (.inr (.inr o))))) {i : Int32} (hin : vp_in i n) (hdg : decode cc pc = .ok (.aaload, 1))
    (kk : W p l e R s m args below meth c H locs cells slots Q (F0 m (pc + 1) ls (va_rf (zO z t a i.toNatClampNeg) :: rest))) : W p l e R s m args below meth c H locs cells slots Q (F0 m pc ls (.int i :: .ref a :: rest)) := by
  obtain ⟨q0, hq0, hq⟩ := hp_arr (ac := ac) (w := w) ho (hk _ _ _) ht
  exact va_aldq hx hb hK h.1 q0 j hq hj hin hdg kk
theorem hp_alen (hx : p.tables.exec = Jvm.exec) (hb : c.code = cc) (hK : va_K D vwCl (aT ac) s) (h : hpH D ac A H0 z w H locs) {t n : Nat} (j : Nat) {ty : FieldType} (hj : (aT ac)[j]? = some (ac j, ty)) (ho : isO z t a) (ht : ¬ t < 11) (hk : ∀ f o g, ∃ x : vp_A, hpA ac t f o g = .inl (ac j, x) ∧ x.1 = n) {v : Int32} (hv : Int32.ofNat n = v) (hdg : decode cc pc = .ok (.arraylength, 1))
    (kk : W p l e R s m args below meth c H locs cells slots Q (F0 m (pc + 1) ls (.int v :: rest))) : W p l e R s m args below meth c H locs cells slots Q (F0 m pc ls (.ref a :: rest)) := by
  obtain ⟨x, hx1, hx2⟩ := hk (vA w t a) (zO z t a) (vL w t a)
  obtain ⟨q0, hq0, hq⟩ := hp_arr (ac := ac) (w := w) ho hx1 ht
  exact va_alen hx hb hK h.1 q0 j hq hj (by rw [hx2]; exact hv) hdg kk
theorem hp_iast (hx : p.tables.exec = Jvm.exec) (hb : c.code = cc) (hK : va_K D vwCl (aT ac) s) (h : hpH D ac A H0 z w H locs) {t n : Nat} (ho : isO z t a) (ht : ¬ t < 11) (hk : ∀ f o g, hpA ac t f o g = .inl (ac 1, n, .inl f)) {i x : Int32} (hin : vp_in i n) (hdg : decode cc pc = .ok (.iastore, 1))
    (kk : ∀ (H1 : Heap) (locs1 : List Loc) (w1 : Vt), w1 = uA w t a i.toNatClampNeg x → hpH D ac A H0 z w1 H1 locs1 → W p l e R s m args below meth c H1 locs1 cells slots Q (F0 m (pc + 1) ls rest)) : W p l e R s m args below meth c H locs cells slots Q (F0 m pc ls (.int x :: .int i :: .ref a :: rest)) := by
  obtain ⟨q0, hq0, hq⟩ := hp_arr (ac := ac) (w := w) ho (hk _ _ _) ht
  refine va_iast hx hb hK h.1 h.2.1 h.2.2 q0 1 hq rfl hin hdg (fun H1 locs1 hP hD hS => kk H1 locs1 _ rfl ?_)
  have e : (hpW ac z w).set q0 (a, .inl (ac 1, n, .inl (upd (vA w t a) i.toNatClampNeg x))) = hpW ac z (uA w t a i.toNatClampNeg x) := hp_set h.2.1 ho.1 hq0 (fun b hb => hpE_uA hb) (by rw [hpE_a ho ht, hk, vA_u]; simp)
  rw [e] at hP hD
  exact ⟨hP, hD, hS⟩
theorem hp_bast (hx : p.tables.exec = Jvm.exec) (hb : c.code = cc) (hK : va_K D vwCl (aT ac) s) (h : hpH D ac A H0 z w H locs) {t n : Nat} (ho : isO z t a) (ht : ¬ t < 11) (hk : ∀ f o g, hpA ac t f o g = .inl (ac 0, n, .inl f)) {i x : Int32} (hin : vp_in i n) (hdg : decode cc pc = .ok (.bastore, 1))
    (kk : ∀ (H1 : Heap) (locs1 : List Loc) (w1 : Vt), w1 = uA w t a i.toNatClampNeg (vp_nar .byte x) → hpH D ac A H0 z w1 H1 locs1 → W p l e R s m args below meth c H1 locs1 cells slots Q (F0 m (pc + 1) ls rest)) : W p l e R s m args below meth c H locs cells slots Q (F0 m pc ls (.int x :: .int i :: .ref a :: rest)) := by
  obtain ⟨q0, hq0, hq⟩ := hp_arr (ac := ac) (w := w) ho (hk _ _ _) ht
  refine va_bast hx hb hK h.1 h.2.1 h.2.2 q0 0 hq rfl hin hdg (fun H1 locs1 hP hD hS => kk H1 locs1 _ rfl ?_)
  have e : (hpW ac z w).set q0 (a, .inl (ac 0, n, .inl (upd (vA w t a) i.toNatClampNeg (vp_nar .byte x)))) = hpW ac z (uA w t a i.toNatClampNeg (vp_nar .byte x)) := hp_set h.2.1 ho.1 hq0 (fun b hb => hpE_uA hb) (by rw [hpE_a ho ht, hk, vA_u]; simp)
  rw [e] at hP hD
  exact ⟨hP, hD, hS⟩
theorem hp_zast (hx : p.tables.exec = Jvm.exec) (hb : c.code = cc) (hK : va_K D vwCl (aT ac) s) (h : hpH D ac A H0 z w H locs) {t n : Nat} (ho : isO z t a) (ht : ¬ t < 11) (hk : ∀ f o g, hpA ac t f o g = .inl (ac 2, n, .inl f)) {i x : Int32} (hin : vp_in i n) (hdg : decode cc pc = .ok (.bastore, 1))
    (kk : ∀ (H1 : Heap) (locs1 : List Loc) (w1 : Vt), w1 = uA w t a i.toNatClampNeg (vp_nar .boolean x) → hpH D ac A H0 z w1 H1 locs1 → W p l e R s m args below meth c H1 locs1 cells slots Q (F0 m (pc + 1) ls rest)) : W p l e R s m args below meth c H locs cells slots Q (F0 m pc ls (.int x :: .int i :: .ref a :: rest)) := by
  obtain ⟨q0, hq0, hq⟩ := hp_arr (ac := ac) (w := w) ho (hk _ _ _) ht
  refine va_zast hx hb hK h.1 h.2.1 h.2.2 q0 2 hq rfl hin hdg (fun H1 locs1 hP hD hS => kk H1 locs1 _ rfl ?_)
  have e : (hpW ac z w).set q0 (a, .inl (ac 2, n, .inl (upd (vA w t a) i.toNatClampNeg (vp_nar .boolean x)))) = hpW ac z (uA w t a i.toNatClampNeg (vp_nar .boolean x)) := hp_set h.2.1 ho.1 hq0 (fun b hb => hpE_uA hb) (by rw [hpE_a ho ht, hk, vA_u]; simp)
  rw [e] at hP hD
  exact ⟨hP, hD, hS⟩
end HPR
