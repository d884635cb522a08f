-- where things lie: an object at b, its rows and parts behind it
def g_Sh (G : (Nat → Nat → Option Nat) × (Nat → Nat × Nat)) (b N : Nat) : Prop := G.2 b = (10 + 1, 10) ∧ G.1 b 0 = some (b + 1) ∧ G.2 (b + 1) = (4, N) ∧ G.1 b 1 = some (b + 2) ∧ G.2 (b + 2) = (1, N) ∧ G.1 b 2 = some (b + 3) ∧ G.2 (b + 3) = (1, N) ∧ G.1 b 3 = some (b + 4) ∧ G.2 (b + 4) = (1, N) ∧ G.1 b 4 = some (b + 5) ∧ G.2 (b + 5) = (1, N)
theorem Sh_k {M : mz_M} {b N : Nat} (w : g_Sh M.2.2 b N) : M.2.2.2 b = (10 + 1, 10) := w.1
theorem Sh_r0 {M : mz_M} {b N : Nat} (w : g_Sh M.2.2 b N) : M.2.2.1 b 0 = some (b + 1) := w.2.1
theorem Sh_a0 {M : mz_M} {b N : Nat} (w : g_Sh M.2.2 b N) : M.2.2.2 (b + 1) = (4, N) := w.2.2.1
theorem Sh_r1 {M : mz_M} {b N : Nat} (w : g_Sh M.2.2 b N) : M.2.2.1 b 1 = some (b + 2) := w.2.2.2.1
theorem Sh_a1 {M : mz_M} {b N : Nat} (w : g_Sh M.2.2 b N) : M.2.2.2 (b + 2) = (1, N) := w.2.2.2.2.1
theorem Sh_r2 {M : mz_M} {b N : Nat} (w : g_Sh M.2.2 b N) : M.2.2.1 b 2 = some (b + 3) := w.2.2.2.2.2.1
theorem Sh_a2 {M : mz_M} {b N : Nat} (w : g_Sh M.2.2 b N) : M.2.2.2 (b + 3) = (1, N) := w.2.2.2.2.2.2.1
theorem Sh_r3 {M : mz_M} {b N : Nat} (w : g_Sh M.2.2 b N) : M.2.2.1 b 3 = some (b + 4) := w.2.2.2.2.2.2.2.1
theorem Sh_a3 {M : mz_M} {b N : Nat} (w : g_Sh M.2.2 b N) : M.2.2.2 (b + 4) = (1, N) := w.2.2.2.2.2.2.2.2.1
theorem Sh_r4 {M : mz_M} {b N : Nat} (w : g_Sh M.2.2 b N) : M.2.2.1 b 4 = some (b + 5) := w.2.2.2.2.2.2.2.2.2.1
theorem Sh_a4 {M : mz_M} {b N : Nat} (w : g_Sh M.2.2 b N) : M.2.2.2 (b + 5) = (1, N) := w.2.2.2.2.2.2.2.2.2.2
def g_St (G : (Nat → Nat → Option Nat) × (Nat → Nat × Nat)) (b : Nat) : Prop := G.2 b = (10 + 2, 11) ∧ G.1 b 0 = some (b + 1) ∧ g_Sh G (b + 1) 40 ∧ G.1 b 1 = some (b + 7) ∧ G.2 (b + 7) = (1, 12) ∧ G.1 b 2 = some (b + 8) ∧ G.2 (b + 8) = (1, 60) ∧ G.1 b 3 = some (b + 9) ∧ G.2 (b + 9) = (1, 60) ∧ G.1 b 4 = some (b + 10) ∧ G.2 (b + 10) = (1, 60) ∧ G.1 b 5 = some (b + 11) ∧ G.2 (b + 11) = (1, 60) ∧ G.1 b 6 = some (b + 12) ∧ G.2 (b + 12) = (1, 60)
theorem St_k {M : mz_M} {b : Nat} (w : g_St M.2.2 b) : M.2.2.2 b = (10 + 2, 11) := w.1
theorem St_r0 {M : mz_M} {b : Nat} (w : g_St M.2.2 b) : M.2.2.1 b 0 = some (b + 1) := w.2.1
theorem St_w0 {M : mz_M} {b : Nat} (w : g_St M.2.2 b) : g_Sh M.2.2 (b + 1) 40 := w.2.2.1
theorem St_r1 {M : mz_M} {b : Nat} (w : g_St M.2.2 b) : M.2.2.1 b 1 = some (b + 7) := w.2.2.2.1
theorem St_a1 {M : mz_M} {b : Nat} (w : g_St M.2.2 b) : M.2.2.2 (b + 7) = (1, 12) := w.2.2.2.2.1
theorem St_r2 {M : mz_M} {b : Nat} (w : g_St M.2.2 b) : M.2.2.1 b 2 = some (b + 8) := w.2.2.2.2.2.1
theorem St_a2 {M : mz_M} {b : Nat} (w : g_St M.2.2 b) : M.2.2.2 (b + 8) = (1, 60) := w.2.2.2.2.2.2.1
theorem St_r3 {M : mz_M} {b : Nat} (w : g_St M.2.2 b) : M.2.2.1 b 3 = some (b + 9) := w.2.2.2.2.2.2.2.1
theorem St_a3 {M : mz_M} {b : Nat} (w : g_St M.2.2 b) : M.2.2.2 (b + 9) = (1, 60) := w.2.2.2.2.2.2.2.2.1
theorem St_r4 {M : mz_M} {b : Nat} (w : g_St M.2.2 b) : M.2.2.1 b 4 = some (b + 10) := w.2.2.2.2.2.2.2.2.2.1
theorem St_a4 {M : mz_M} {b : Nat} (w : g_St M.2.2 b) : M.2.2.2 (b + 10) = (1, 60) := w.2.2.2.2.2.2.2.2.2.2.1
theorem St_r5 {M : mz_M} {b : Nat} (w : g_St M.2.2 b) : M.2.2.1 b 5 = some (b + 11) := w.2.2.2.2.2.2.2.2.2.2.2.1
theorem St_a5 {M : mz_M} {b : Nat} (w : g_St M.2.2 b) : M.2.2.2 (b + 11) = (1, 60) := w.2.2.2.2.2.2.2.2.2.2.2.2.1
theorem St_r6 {M : mz_M} {b : Nat} (w : g_St M.2.2 b) : M.2.2.1 b 6 = some (b + 12) := w.2.2.2.2.2.2.2.2.2.2.2.2.2.1
theorem St_a6 {M : mz_M} {b : Nat} (w : g_St M.2.2 b) : M.2.2.2 (b + 12) = (1, 60) := w.2.2.2.2.2.2.2.2.2.2.2.2.2.2
def g_Pa (G : (Nat → Nat → Option Nat) × (Nat → Nat × Nat)) (b : Nat) : Prop := G.2 b = (10 + 0, 10) ∧ G.1 b 0 = some (b + 1) ∧ g_Sh G (b + 1) 200 ∧ G.1 b 1 = some (b + 7) ∧ G.2 (b + 7) = (1, 13) ∧ G.1 b 2 = some (b + 8) ∧ G.2 (b + 8) = (1, 13) ∧ G.1 b 3 = some (b + 9) ∧ G.2 (b + 9) = (1, 13) ∧ G.1 b 4 = some (b + 10) ∧ G.2 (b + 10) = (1, 13) ∧ G.1 b 5 = some (b + 11) ∧ G.2 (b + 11) = (1, 13)
theorem Pa_k {M : mz_M} {b : Nat} (w : g_Pa M.2.2 b) : M.2.2.2 b = (10 + 0, 10) := w.1
theorem Pa_r0 {M : mz_M} {b : Nat} (w : g_Pa M.2.2 b) : M.2.2.1 b 0 = some (b + 1) := w.2.1
theorem Pa_w0 {M : mz_M} {b : Nat} (w : g_Pa M.2.2 b) : g_Sh M.2.2 (b + 1) 200 := w.2.2.1
theorem Pa_r1 {M : mz_M} {b : Nat} (w : g_Pa M.2.2 b) : M.2.2.1 b 1 = some (b + 7) := w.2.2.2.1
theorem Pa_a1 {M : mz_M} {b : Nat} (w : g_Pa M.2.2 b) : M.2.2.2 (b + 7) = (1, 13) := w.2.2.2.2.1
theorem Pa_r2 {M : mz_M} {b : Nat} (w : g_Pa M.2.2 b) : M.2.2.1 b 2 = some (b + 8) := w.2.2.2.2.2.1
theorem Pa_a2 {M : mz_M} {b : Nat} (w : g_Pa M.2.2 b) : M.2.2.2 (b + 8) = (1, 13) := w.2.2.2.2.2.2.1
theorem Pa_r3 {M : mz_M} {b : Nat} (w : g_Pa M.2.2 b) : M.2.2.1 b 3 = some (b + 9) := w.2.2.2.2.2.2.2.1
theorem Pa_a3 {M : mz_M} {b : Nat} (w : g_Pa M.2.2 b) : M.2.2.2 (b + 9) = (1, 13) := w.2.2.2.2.2.2.2.2.1
theorem Pa_r4 {M : mz_M} {b : Nat} (w : g_Pa M.2.2 b) : M.2.2.1 b 4 = some (b + 10) := w.2.2.2.2.2.2.2.2.2.1
theorem Pa_a4 {M : mz_M} {b : Nat} (w : g_Pa M.2.2 b) : M.2.2.2 (b + 10) = (1, 13) := w.2.2.2.2.2.2.2.2.2.2.1
theorem Pa_r5 {M : mz_M} {b : Nat} (w : g_Pa M.2.2 b) : M.2.2.1 b 5 = some (b + 11) := w.2.2.2.2.2.2.2.2.2.2.2.1
theorem Pa_a5 {M : mz_M} {b : Nat} (w : g_Pa M.2.2 b) : M.2.2.2 (b + 11) = (1, 13) := w.2.2.2.2.2.2.2.2.2.2.2.2
def g_Ta (G : (Nat → Nat → Option Nat) × (Nat → Nat × Nat)) (b : Nat) : Prop := G.2 b = (10 + 3, 12) ∧ G.1 b 0 = some (b + 1) ∧ G.2 (b + 1) = (2, 500)
theorem Ta_k {M : mz_M} {b : Nat} (w : g_Ta M.2.2 b) : M.2.2.2 b = (10 + 3, 12) := w.1
theorem Ta_r0 {M : mz_M} {b : Nat} (w : g_Ta M.2.2 b) : M.2.2.1 b 0 = some (b + 1) := w.2.1
theorem Ta_a0 {M : mz_M} {b : Nat} (w : g_Ta M.2.2 b) : M.2.2.2 (b + 1) = (2, 500) := w.2.2
def g_Mo (G : (Nat → Nat → Option Nat) × (Nat → Nat × Nat)) (b : Nat) : Prop := G.2 b = (10 + 5, 38) ∧ G.1 b 0 = some (b + 1) ∧ G.2 (b + 1) = (1, 259) ∧ G.1 b 1 = some (b + 2) ∧ G.2 (b + 2) = (1, 259) ∧ G.1 b 2 = some (b + 3) ∧ G.2 (b + 3) = (1, 500) ∧ G.1 b 6 = some (b + 4) ∧ G.2 (b + 4) = (1, 2412) ∧ G.1 b 7 = some (b + 5) ∧ G.2 (b + 5) = (1, 201) ∧ G.1 b 8 = some (b + 6) ∧ G.2 (b + 6) = (1, 201) ∧ G.1 b 9 = some (b + 7) ∧ G.2 (b + 7) = (1, 201) ∧ G.1 b 10 = some (b + 8) ∧ G.2 (b + 8) = (1, 201) ∧ G.1 b 11 = some (b + 9) ∧ G.2 (b + 9) = (1, 201) ∧ G.1 b 12 = some (b + 10) ∧ G.2 (b + 10) = (1, 201) ∧ G.1 b 13 = some (b + 11) ∧ G.2 (b + 11) = (1, 201) ∧ G.1 b 18 = some (b + 12) ∧ G.2 (b + 12) = (1, 60) ∧ G.1 b 26 = some (b + 13) ∧ G.2 (b + 13) = (1, 777) ∧ G.1 b 27 = some (b + 14) ∧ G.2 (b + 14) = (3, 3) ∧ G.1 b 31 = some (b + 15) ∧ G.2 (b + 15) = (1, 12) ∧ G.1 b 32 = some (b + 16) ∧ G.2 (b + 16) = (1, 12) ∧ G.1 b 33 = some (b + 17) ∧ G.2 (b + 17) = (1, 12) ∧ G.1 b 34 = some (b + 18) ∧ G.2 (b + 18) = (1, 12) ∧ G.1 b 35 = some (b + 19) ∧ G.2 (b + 19) = (1, 12) ∧ G.1 b 36 = some (b + 20) ∧ G.2 (b + 20) = (1, 12)
theorem Mo_k {M : mz_M} {b : Nat} (w : g_Mo M.2.2 b) : M.2.2.2 b = (10 + 5, 38) := w.1
theorem Mo_r0 {M : mz_M} {b : Nat} (w : g_Mo M.2.2 b) : M.2.2.1 b 0 = some (b + 1) := w.2.1
theorem Mo_a0 {M : mz_M} {b : Nat} (w : g_Mo M.2.2 b) : M.2.2.2 (b + 1) = (1, 259) := w.2.2.1
theorem Mo_r1 {M : mz_M} {b : Nat} (w : g_Mo M.2.2 b) : M.2.2.1 b 1 = some (b + 2) := w.2.2.2.1
theorem Mo_a1 {M : mz_M} {b : Nat} (w : g_Mo M.2.2 b) : M.2.2.2 (b + 2) = (1, 259) := w.2.2.2.2.1
theorem Mo_r2 {M : mz_M} {b : Nat} (w : g_Mo M.2.2 b) : M.2.2.1 b 2 = some (b + 3) := w.2.2.2.2.2.1
theorem Mo_a2 {M : mz_M} {b : Nat} (w : g_Mo M.2.2 b) : M.2.2.2 (b + 3) = (1, 500) := w.2.2.2.2.2.2.1
theorem Mo_r6 {M : mz_M} {b : Nat} (w : g_Mo M.2.2 b) : M.2.2.1 b 6 = some (b + 4) := w.2.2.2.2.2.2.2.1
theorem Mo_a6 {M : mz_M} {b : Nat} (w : g_Mo M.2.2 b) : M.2.2.2 (b + 4) = (1, 2412) := w.2.2.2.2.2.2.2.2.1
theorem Mo_r7 {M : mz_M} {b : Nat} (w : g_Mo M.2.2 b) : M.2.2.1 b 7 = some (b + 5) := w.2.2.2.2.2.2.2.2.2.1
theorem Mo_a7 {M : mz_M} {b : Nat} (w : g_Mo M.2.2 b) : M.2.2.2 (b + 5) = (1, 201) := w.2.2.2.2.2.2.2.2.2.2.1
theorem Mo_r8 {M : mz_M} {b : Nat} (w : g_Mo M.2.2 b) : M.2.2.1 b 8 = some (b + 6) := w.2.2.2.2.2.2.2.2.2.2.2.1
theorem Mo_a8 {M : mz_M} {b : Nat} (w : g_Mo M.2.2 b) : M.2.2.2 (b + 6) = (1, 201) := w.2.2.2.2.2.2.2.2.2.2.2.2.1
theorem Mo_r9 {M : mz_M} {b : Nat} (w : g_Mo M.2.2 b) : M.2.2.1 b 9 = some (b + 7) := w.2.2.2.2.2.2.2.2.2.2.2.2.2.1
theorem Mo_a9 {M : mz_M} {b : Nat} (w : g_Mo M.2.2 b) : M.2.2.2 (b + 7) = (1, 201) := w.2.2.2.2.2.2.2.2.2.2.2.2.2.2.1
theorem Mo_r10 {M : mz_M} {b : Nat} (w : g_Mo M.2.2 b) : M.2.2.1 b 10 = some (b + 8) := w.2.2.2.2.2.2.2.2.2.2.2.2.2.2.2.1
theorem Mo_a10 {M : mz_M} {b : Nat} (w : g_Mo M.2.2 b) : M.2.2.2 (b + 8) = (1, 201) := w.2.2.2.2.2.2.2.2.2.2.2.2.2.2.2.2.1
theorem Mo_r11 {M : mz_M} {b : Nat} (w : g_Mo M.2.2 b) : M.2.2.1 b 11 = some (b + 9) := w.2.2.2.2.2.2.2.2.2.2.2.2.2.2.2.2.2.1
theorem Mo_a11 {M : mz_M} {b : Nat} (w : g_Mo M.2.2 b) : M.2.2.2 (b + 9) = (1, 201) := w.2.2.2.2.2.2.2.2.2.2.2.2.2.2.2.2.2.2.1
theorem Mo_r12 {M : mz_M} {b : Nat} (w : g_Mo M.2.2 b) : M.2.2.1 b 12 = some (b + 10) := w.2.2.2.2.2.2.2.2.2.2.2.2.2.2.2.2.2.2.2.1
theorem Mo_a12 {M : mz_M} {b : Nat} (w : g_Mo M.2.2 b) : M.2.2.2 (b + 10) = (1, 201) := w.2.2.2.2.2.2.2.2.2.2.2.2.2.2.2.2.2.2.2.2.1
theorem Mo_r13 {M : mz_M} {b : Nat} (w : g_Mo M.2.2 b) : M.2.2.1 b 13 = some (b + 11) := w.2.2.2.2.2.2.2.2.2.2.2.2.2.2.2.2.2.2.2.2.2.1
theorem Mo_a13 {M : mz_M} {b : Nat} (w : g_Mo M.2.2 b) : M.2.2.2 (b + 11) = (1, 201) := w.2.2.2.2.2.2.2.2.2.2.2.2.2.2.2.2.2.2.2.2.2.2.1
theorem Mo_r18 {M : mz_M} {b : Nat} (w : g_Mo M.2.2 b) : M.2.2.1 b 18 = some (b + 12) := w.2.2.2.2.2.2.2.2.2.2.2.2.2.2.2.2.2.2.2.2.2.2.2.1
theorem Mo_a18 {M : mz_M} {b : Nat} (w : g_Mo M.2.2 b) : M.2.2.2 (b + 12) = (1, 60) := w.2.2.2.2.2.2.2.2.2.2.2.2.2.2.2.2.2.2.2.2.2.2.2.2.1
theorem Mo_r26 {M : mz_M} {b : Nat} (w : g_Mo M.2.2 b) : M.2.2.1 b 26 = some (b + 13) := w.2.2.2.2.2.2.2.2.2.2.2.2.2.2.2.2.2.2.2.2.2.2.2.2.2.1
theorem Mo_a26 {M : mz_M} {b : Nat} (w : g_Mo M.2.2 b) : M.2.2.2 (b + 13) = (1, 777) := w.2.2.2.2.2.2.2.2.2.2.2.2.2.2.2.2.2.2.2.2.2.2.2.2.2.2.1
theorem Mo_r27 {M : mz_M} {b : Nat} (w : g_Mo M.2.2 b) : M.2.2.1 b 27 = some (b + 14) := w.2.2.2.2.2.2.2.2.2.2.2.2.2.2.2.2.2.2.2.2.2.2.2.2.2.2.2.1
theorem Mo_a27 {M : mz_M} {b : Nat} (w : g_Mo M.2.2 b) : M.2.2.2 (b + 14) = (3, 3) := w.2.2.2.2.2.2.2.2.2.2.2.2.2.2.2.2.2.2.2.2.2.2.2.2.2.2.2.2.1
theorem Mo_r31 {M : mz_M} {b : Nat} (w : g_Mo M.2.2 b) : M.2.2.1 b 31 = some (b + 15) := w.2.2.2.2.2.2.2.2.2.2.2.2.2.2.2.2.2.2.2.2.2.2.2.2.2.2.2.2.2.1
theorem Mo_a31 {M : mz_M} {b : Nat} (w : g_Mo M.2.2 b) : M.2.2.2 (b + 15) = (1, 12) := w.2.2.2.2.2.2.2.2.2.2.2.2.2.2.2.2.2.2.2.2.2.2.2.2.2.2.2.2.2.2.1
theorem Mo_r32 {M : mz_M} {b : Nat} (w : g_Mo M.2.2 b) : M.2.2.1 b 32 = some (b + 16) := w.2.2.2.2.2.2.2.2.2.2.2.2.2.2.2.2.2.2.2.2.2.2.2.2.2.2.2.2.2.2.2.1
theorem Mo_a32 {M : mz_M} {b : Nat} (w : g_Mo M.2.2 b) : M.2.2.2 (b + 16) = (1, 12) := w.2.2.2.2.2.2.2.2.2.2.2.2.2.2.2.2.2.2.2.2.2.2.2.2.2.2.2.2.2.2.2.2.1
theorem Mo_r33 {M : mz_M} {b : Nat} (w : g_Mo M.2.2 b) : M.2.2.1 b 33 = some (b + 17) := w.2.2.2.2.2.2.2.2.2.2.2.2.2.2.2.2.2.2.2.2.2.2.2.2.2.2.2.2.2.2.2.2.2.1
theorem Mo_a33 {M : mz_M} {b : Nat} (w : g_Mo M.2.2 b) : M.2.2.2 (b + 17) = (1, 12) := w.2.2.2.2.2.2.2.2.2.2.2.2.2.2.2.2.2.2.2.2.2.2.2.2.2.2.2.2.2.2.2.2.2.2.1
theorem Mo_r34 {M : mz_M} {b : Nat} (w : g_Mo M.2.2 b) : M.2.2.1 b 34 = some (b + 18) := w.2.2.2.2.2.2.2.2.2.2.2.2.2.2.2.2.2.2.2.2.2.2.2.2.2.2.2.2.2.2.2.2.2.2.2.1
theorem Mo_a34 {M : mz_M} {b : Nat} (w : g_Mo M.2.2 b) : M.2.2.2 (b + 18) = (1, 12) := w.2.2.2.2.2.2.2.2.2.2.2.2.2.2.2.2.2.2.2.2.2.2.2.2.2.2.2.2.2.2.2.2.2.2.2.2.1
theorem Mo_r35 {M : mz_M} {b : Nat} (w : g_Mo M.2.2 b) : M.2.2.1 b 35 = some (b + 19) := w.2.2.2.2.2.2.2.2.2.2.2.2.2.2.2.2.2.2.2.2.2.2.2.2.2.2.2.2.2.2.2.2.2.2.2.2.2.1
theorem Mo_a35 {M : mz_M} {b : Nat} (w : g_Mo M.2.2 b) : M.2.2.2 (b + 19) = (1, 12) := w.2.2.2.2.2.2.2.2.2.2.2.2.2.2.2.2.2.2.2.2.2.2.2.2.2.2.2.2.2.2.2.2.2.2.2.2.2.2.1
theorem Mo_r36 {M : mz_M} {b : Nat} (w : g_Mo M.2.2 b) : M.2.2.1 b 36 = some (b + 20) := w.2.2.2.2.2.2.2.2.2.2.2.2.2.2.2.2.2.2.2.2.2.2.2.2.2.2.2.2.2.2.2.2.2.2.2.2.2.2.2.1
theorem Mo_a36 {M : mz_M} {b : Nat} (w : g_Mo M.2.2 b) : M.2.2.2 (b + 20) = (1, 12) := w.2.2.2.2.2.2.2.2.2.2.2.2.2.2.2.2.2.2.2.2.2.2.2.2.2.2.2.2.2.2.2.2.2.2.2.2.2.2.2.2
def g_X (G : (Nat → Nat → Option Nat) × (Nat → Nat × Nat)) (b p q : Nat) : Prop := G.2 b = (10 + 4, 6) ∧ G.1 b 0 = some (b + 1) ∧ g_Ta G (b + 1) ∧ G.1 b 1 = some (b + 3) ∧ G.2 (b + 3) = (5, 3) ∧ G.1 b 2 = some (b + 4) ∧ g_Sh G (b + 4) 40 ∧ G.1 b 3 = some (b + 10) ∧ g_Pa G (b + 10) ∧ G.1 b 4 = some p ∧ g_St G p ∧ G.1 b 5 = some q ∧ g_St G q ∧ (∀ k, k < 3 → G.1 (b + 3) k = some (b + 48 + 13 * k) ∧ g_St G (b + 48 + 13 * k)) ∧ (p = b + 22 ∧ q = b + 35 ∨ p = b + 35 ∧ q = b + 22)
theorem X_k {M : mz_M} {b p q : Nat} (w : g_X M.2.2 b p q) : M.2.2.2 b = (10 + 4, 6) := w.1
theorem X_r0 {M : mz_M} {b p q : Nat} (w : g_X M.2.2 b p q) : M.2.2.1 b 0 = some (b + 1) := w.2.1
theorem X_w0 {M : mz_M} {b p q : Nat} (w : g_X M.2.2 b p q) : g_Ta M.2.2 (b + 1) := w.2.2.1
theorem X_r1 {M : mz_M} {b p q : Nat} (w : g_X M.2.2 b p q) : M.2.2.1 b 1 = some (b + 3) := w.2.2.2.1
theorem X_a1 {M : mz_M} {b p q : Nat} (w : g_X M.2.2 b p q) : M.2.2.2 (b + 3) = (5, 3) := w.2.2.2.2.1
theorem X_r2 {M : mz_M} {b p q : Nat} (w : g_X M.2.2 b p q) : M.2.2.1 b 2 = some (b + 4) := w.2.2.2.2.2.1
theorem X_w2 {M : mz_M} {b p q : Nat} (w : g_X M.2.2 b p q) : g_Sh M.2.2 (b + 4) 40 := w.2.2.2.2.2.2.1
theorem X_r3 {M : mz_M} {b p q : Nat} (w : g_X M.2.2 b p q) : M.2.2.1 b 3 = some (b + 10) := w.2.2.2.2.2.2.2.1
theorem X_w3 {M : mz_M} {b p q : Nat} (w : g_X M.2.2 b p q) : g_Pa M.2.2 (b + 10) := w.2.2.2.2.2.2.2.2.1
theorem X_r4 {M : mz_M} {b p q : Nat} (w : g_X M.2.2 b p q) : M.2.2.1 b 4 = some p := w.2.2.2.2.2.2.2.2.2.1
theorem X_w4 {M : mz_M} {b p q : Nat} (w : g_X M.2.2 b p q) : g_St M.2.2 p := w.2.2.2.2.2.2.2.2.2.2.1
theorem X_r5 {M : mz_M} {b p q : Nat} (w : g_X M.2.2 b p q) : M.2.2.1 b 5 = some q := w.2.2.2.2.2.2.2.2.2.2.2.1
theorem X_w5 {M : mz_M} {b p q : Nat} (w : g_X M.2.2 b p q) : g_St M.2.2 q := w.2.2.2.2.2.2.2.2.2.2.2.2.1
-- truth as a number
def bz (p : Prop) [Decidable p] : Int32 := if p then 1 else 0
theorem bz_t {p : Prop} [Decidable p] (h : p) : bz p = 1 := if_pos h
theorem bz_f {p : Prop} [Decidable p] (h : ¬ p) : bz p = 0 := if_neg h
theorem bz_0 {p : Prop} [Decidable p] : bz p = 0 ↔ ¬ p := by
  unfold bz
  by_cases h : p
  · simp [h]
  · simp [h]
theorem bz_n {p : Prop} [Decidable p] : ¬ bz p = 0 ↔ p := by
  unfold bz
  by_cases h : p
  · simp [h]
  · simp [h]
theorem bz_nar {p : Prop} [Decidable p] : narrow .boolean (.int (bz p)) = .int (bz p) := by
  unfold bz
  by_cases h : p
  · rw [if_pos h]; rfl
  · rw [if_neg h]; rfl
theorem m1_i : (-1 : Int32).toInt = -1 := rfl
theorem nI_m1 {n : Nat} (h : n < 2 ^ 31) : ¬ nI n = -1 := by
  intro e
  have h2 := congrArg Int32.toInt e
  rw [nI_toInt h, m1_i] at h2
  omega
