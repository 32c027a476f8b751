/-! The law's loop: both worlds beside each other (written by wip/whole/law2.py) -/
theorem xCw.mvL {K : xK} {h0 h g : xH} {X D : Nat} {tn : Nat} {tf : xs} {rk : Int32} {rv : Nat → Int64} {σ β γ : xs} {pn : Nat} {τ : Nat → xs} {ks : Nat → Bool} {κ : Nat → xs} {φ : xs → Int32} {hn : Nat} {hf hg : xs} {wn : Nat} {wf wg : xs} (W : xCw K h0 h X D tn tf rk rv σ β γ pn τ ks κ φ hn hf hg wn wf wg) (q1 : h.1 ≤ g.1) (q2 : ∀ b, b < X + 39 ∨ D ≤ b → g.2 b = h.2 b) : xCw K g g X D tn tf rk rv σ β γ pn τ ks κ φ hn hf hg wn wf wg := by
  obtain ⟨oX, Ht, Hr, Hh, Hb, Hq, Hp, Hu, Ho, Hd, He, Hi, Hg, Hl, Hc, Hw, pXD, pD, pt, pok, pop, pok2, ph, pw, pf⟩ := W
  exact ⟨frc oX (fun b _ _ => q2 b (by omega)), Ht.frw (fun b _ _ => q2 b (by omega)), Hr.frw (fun b _ _ => q2 b (by omega)), Hh.fr (fun b _ _ => q2 b (by omega)), Hb.fr (fun b _ _ => q2 b (by omega)), Hq.fr (fun b _ _ => q2 b (by omega)), Hp.frw q1 (fun b _ _ => q2 b (by omega)) (fun b _ _ => q2 b (by omega)), Hu.frw (fun b _ _ => q2 b (by omega)), Ho.frw (fun b _ _ => q2 b (by omega)), Hd.frw (fun b _ _ => q2 b (by omega)), He.frw (fun b _ _ => q2 b (by omega)), Hi.frw (fun b _ _ => q2 b (by omega)), Hg.frw (fun b _ _ => q2 b (by omega)), Hl.frw (fun b _ _ => q2 b (by omega)), Hc.frw (fun b _ _ => q2 b (by omega)), Hw.frw (fun b _ _ => q2 b (by omega)), pXD, Nat.le_trans pD q1, pt, pok, pop, pok2, ph, pw, fun _ _ _ => rfl⟩
def xLI (K : xK) (B : Nat) (l : Launch) (h : xH) (X : Nat) : Prop := ∃ (tn : Nat) (tf : xs) (rk : Int32) (rv : Nat → Int64) (σ β γ : xs) (pn : Nat) (τ : Nat → xs) (ks : Nat → Bool) (κ : Nat → xs) (φ : xs → Int32) (hn : Nat) (hf hg : xs) (wn : Nat) (wf wg : xs) (th : Int32) (ov : Nat → Int64), xCw K h h X (X + 64) tn tf rk rv σ β γ pn τ ks κ φ hn hf hg wn wf wg ∧ xMa K B l h h (X + 39) th tn tf rk rv σ pn τ ks κ φ hn hf hg wn wf wg ∧ h.2 (X + 63) = some (lA K 1 ov)
theorem lw_jn {K : xK} {B : Nat} {l : Launch} {h g g' : xH} {X : Nat} {tn : Nat} {tf : xs} {rk : Int32} {rv : Nat → Int64} {σ β γ : xs} {pn : Nat} {τ : Nat → xs} {ks : Nat → Bool} {κ : Nat → xs} {φ : xs → Int32} {hn : Nat} {hf hg : xs} {wn : Nat} {wf wg : xs} {th : Int32} {ov : Nat → Int64} (W : xCw K h g X (X + 64) tn tf rk rv σ β γ pn τ ks κ φ hn hf hg wn wf wg) (A : xMa K B l g g' (X + 39) th tn tf rk rv σ pn τ ks κ φ hn hf hg wn wf wg) (ho : g.2 (X + 63) = some (lA K 1 ov)) : xLI K B l g' X := by
  have fr := A.fr
  exact ⟨tn, tf, rk, rv, σ, β, γ, pn, τ, ks, κ, φ, hn, hf, hg, wn, wf, wg, th, ov, W.mv ⟨fr.1, fun b hb => fr.2 b (by omega)⟩, A.mv (fun _ _ _ => rfl), (fr.2 (X + 63) (by omega)).trans ho⟩
theorem lw_am {K : xK} {B : Nat} {l : Launch} {h g : xH} {X : Nat} {tn : Nat} {tf : xs} {rk : Int32} {rv : Nat → Int64} {σ : xs} {pn : Nat} {τ : Nat → xs} {ks : Nat → Bool} {κ : Nat → xs} {φ : xs → Int32} {hn : Nat} {hf hg : xs} {wn : Nat} {wf wg : xs} {tn' : Nat} {tf' : xs} {rk' : Int32} {rv' : Nat → Int64} {σ' β' γ' : xs} {pn' : Nat} {τ' : Nat → xs} {ks' : Nat → Bool} {κ' : Nat → xs} {φ' : xs → Int32} {hn' : Nat} {hf' hg' : xs} {wn' : Nat} {wf' wg' : xs} {th : Int32} (W : xCw K h g X (X + 64) tn' tf' rk' rv' σ' β' γ' pn' τ' ks' κ' φ' hn' hf' hg' wn' wf' wg') (A : xMa K B l h h (X + 39) th tn tf rk rv σ pn τ ks κ φ hn hf hg wn wf wg) : xMa K B l g g (X + 39) th tn tf rk rv σ pn τ ks κ φ hn hf hg wn wf wg := A.mv (fun c h1 h2 => W.pf c h1 (by omega))
theorem lg_cmp_s (x : Int64) : lg_cmp x x = 0 := by
  unfold lg_cmp
  rw [if_neg Int64.lt_irrefl, if_pos rfl]
theorem lw_cmp {L i : Nat} (hL : L < 2 ^ 30) (hi : i < 2 ^ 30) : nI L - 5 < nI i ↔ ¬ i + 5 ≤ L := by
  rw [show (5 : Int32) = nI 5 from rfl]
  by_cases c : 5 ≤ L
  · rw [nI_sub c, nI_ltI (by omega) (by omega)]
    omega
  · constructor
    · intro _
      omega
    · intro _
      have n : nI L - nI 5 < 0 := pk_sneg (by omega) (by omega)
      exact Int32.lt_of_lt_of_le n (nI_pos' (by omega))
def psL (B b Ln : Nat) (sc : xs) : State → Code → Prop := fun s _ => (va_X b Ln sc s s.heap ∧ b < B) ∧ zZ B s
section YS
variable {ZP : List Frame → Array Value → State → State → Prop} {K : xK} {B : Nat} {l : Launch} {F : Nat} {own : String} {ini : Bool} {cc : ByteArray} {nL : Nat} {ret : Option FieldType} {mc ms rc rs : Nat} {pc : Nat} {ls : List (Option Value)} {st : List Value} {h : xH} {b Ln : Nat} {sc : xs}
theorem yr_sald {i : Int32} {j : Nat} (hx : xix i Ln j) (d : decode cc pc = .ok (.iaload, 1)) (kk : yT (psL B b Ln sc) ZP K B l F own ini cc nL ret mc ms rc rs (pc + 1) ls (.int (sc j) :: st) h) : yT (psL B b Ln sc) ZP K B l F own ini cc nL ret mc ms rc rs pc ls (.int i :: .ref b :: st) h := by
  intro p e s m args below meth c H locs cells slots L zP C I
  obtain ⟨⟨⟨scr, hc1, hc2, hc3, hc4, hc5⟩, hbB⟩, -⟩ := id zP
  obtain ⟨hx1, rfl⟩ := hx
  have hcell : H[b]? = some scr := (I.2.1.2 b hbB).trans hc1
  exact W.iald C.1 C.2.1 hcell hc2 hc3 (by rw [hc4]; exact hx1) (hc5 _ (by
    have hx2 : ¬ (i < 0 ∨ Ln ≤ i.toNatClampNeg) := hx1
    exact Nat.lt_of_not_le (fun q => hx2 (Or.inr q)))) rfl rfl d (kk p e s m args below meth c H locs cells slots L zP C I)
theorem yr_slen (d : decode cc pc = .ok (.arraylength, 1)) (kk : yT (psL B b Ln sc) ZP K B l F own ini cc nL ret mc ms rc rs (pc + 1) ls (.int (nI Ln) :: st) h) : yT (psL B b Ln sc) ZP K B l F own ini cc nL ret mc ms rc rs pc ls (.ref b :: st) h := by
  intro p e s m args below meth c H locs cells slots L zP C I
  obtain ⟨⟨⟨scr, hc1, hc2, hc3, hc4, hc5⟩, hbB⟩, -⟩ := id zP
  have hcell : H[b]? = some scr := (I.2.1.2 b hbB).trans hc1
  exact W.alen C.1 C.2.1 hcell hc2 (by rw [hc4]; rfl) rfl rfl d (kk p e s m args below meth c H locs cells slots L zP C I)
end YS
theorem yr_zmret {PS : State → Code → Prop} {K : xK} {B : Nat} {l : Launch} {F : Nat} {own : String} {ini : Bool} {cc : ByteArray} {nL : Nat} {ret : Option FieldType} {mc ms rc rs : Nat} {Q : Option Value → xH → Prop} {pc : Nat} {ls : List (Option Value)} {h : xH} {v : Int32} {ty : FieldType} (d : decode cc pc = .ok (.ireturn, 1)) (hr : ret = some ty) (hn : narrow ty (.int v) = .int v) (hq : Q (some (.int v)) h) : yT PS (ZM K B Q mc ms) K B l F own ini cc nL ret mc ms rc rs pc ls [.int v] h := by
  intro p e s m args below meth c H locs cells slots L zP C I
  obtain ⟨i1, i2, i3, i4, i5, i6⟩ := I
  exact W.widen (k := mc) (n := ms) (by omega) (by omega) (W.zret C.1 C.2.1 (C.2.2.2.1.trans hr) hn (fun t ht hW => ⟨_, h, rfl, hq, by rw [ht]; exact i1, by rw [ht]; exact i2.1, fun q hq' => by rw [ht]; exact i2.2 q hq'⟩) i3 d C.2.2.2.2.1)
