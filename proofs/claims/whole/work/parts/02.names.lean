def F_Msg : u_T := fun k => match k with
  | 0 => ("LossyHandshake$Message", "number", "I", true)
  | 1 => ("LossyHandshake$Message", "epoch", "I", true)
  | _ => ("LossyHandshake$Message", "bytes", "[I", true)
def t_Msg : Nat → FieldType := fun k => match k with
  | 0 => .int
  | 1 => .int
  | _ => .array (.int)
set_option maxRecDepth 100000 in
theorem n_Msg : ∀ a, a < 3 → ∀ b, b < 3 → a ≠ b → (F_Msg a).2.1 ≠ (F_Msg b).2.1 := by decide +kernel
set_option maxRecDepth 100000 in
theorem t_Msg_ok : ∀ k, k < 3 → parseFieldDescriptor (F_Msg k).2.2.1 = some (t_Msg k) := by decide +kernel
def F_Frag : u_T := fun k => match k with
  | 0 => ("LossyHandshake$Fragment", "bytes", "[I", true)
  | 1 => ("LossyHandshake$Fragment", "sentIn", "[I", true)
  | 2 => ("LossyHandshake$Fragment", "message", "I", false)
  | 3 => ("LossyHandshake$Fragment", "epoch", "I", false)
  | 4 => ("LossyHandshake$Fragment", "offset", "I", false)
  | 5 => ("LossyHandshake$Fragment", "length", "I", false)
  | 6 => ("LossyHandshake$Fragment", "sendings", "I", false)
  | _ => ("LossyHandshake$Fragment", "isOpen", "Z", false)
def t_Frag : Nat → FieldType := fun k => match k with
  | 0 => .array (.int)
  | 1 => .array (.int)
  | 2 => .int
  | 3 => .int
  | 4 => .int
  | 5 => .int
  | 6 => .int
  | _ => .boolean
set_option maxRecDepth 100000 in
theorem n_Frag : ∀ a, a < 8 → ∀ b, b < 8 → a ≠ b → (F_Frag a).2.1 ≠ (F_Frag b).2.1 := by decide +kernel
set_option maxRecDepth 100000 in
theorem t_Frag_ok : ∀ k, k < 8 → parseFieldDescriptor (F_Frag k).2.2.1 = some (t_Frag k) := by decide +kernel
def F_Flight : u_T := fun k => match k with
  | 0 => ("LossyHandshake$Flight", "fragments", "[LLossyHandshake$Fragment;", true)
  | 1 => ("LossyHandshake$Flight", "count", "I", false)
  | 2 => ("LossyHandshake$Flight", "waitLength", "I", false)
  | 3 => ("LossyHandshake$Flight", "ticksLeft", "I", false)
  | _ => ("LossyHandshake$Flight", "resends", "I", false)
def t_Flight : Nat → FieldType := fun k => match k with
  | 0 => .array (.object "LossyHandshake$Fragment")
  | 1 => .int
  | 2 => .int
  | 3 => .int
  | _ => .int
set_option maxRecDepth 100000 in
theorem n_Flight : ∀ a, a < 5 → ∀ b, b < 5 → a ≠ b → (F_Flight a).2.1 ≠ (F_Flight b).2.1 := by decide +kernel
set_option maxRecDepth 100000 in
theorem t_Flight_ok : ∀ k, k < 5 → parseFieldDescriptor (F_Flight k).2.2.1 = some (t_Flight k) := by decide +kernel
def F_Rec : u_T := fun k => match k with
  | 0 => ("LossyHandshake$NetRecord", "load", "[I", true)
  | 1 => ("LossyHandshake$NetRecord", "length", "I", false)
  | 2 => ("LossyHandshake$NetRecord", "from", "I", false)
  | 3 => ("LossyHandshake$NetRecord", "kind", "I", false)
  | 4 => ("LossyHandshake$NetRecord", "epoch", "I", false)
  | 5 => ("LossyHandshake$NetRecord", "number", "I", false)
  | 6 => ("LossyHandshake$NetRecord", "message", "I", false)
  | 7 => ("LossyHandshake$NetRecord", "offset", "I", false)
  | _ => ("LossyHandshake$NetRecord", "isSpoilt", "Z", false)
def t_Rec : Nat → FieldType := fun k => match k with
  | 0 => .array (.int)
  | 1 => .int
  | 2 => .int
  | 3 => .int
  | 4 => .int
  | 5 => .int
  | 6 => .int
  | 7 => .int
  | _ => .boolean
set_option maxRecDepth 100000 in
theorem n_Rec : ∀ a, a < 9 → ∀ b, b < 9 → a ≠ b → (F_Rec a).2.1 ≠ (F_Rec b).2.1 := by decide +kernel
set_option maxRecDepth 100000 in
theorem t_Rec_ok : ∀ k, k < 9 → parseFieldDescriptor (F_Rec k).2.2.1 = some (t_Rec k) := by decide +kernel
def F_Net : u_T := fun k => match k with
  | 0 => ("LossyHandshake$Net", "rows", "[LLossyHandshake$NetRecord;", true)
  | 1 => ("LossyHandshake$Net", "takenRow", "LLossyHandshake$NetRecord;", false)
  | 2 => ("LossyHandshake$Net", "lostRow", "LLossyHandshake$NetRecord;", true)
  | 3 => ("LossyHandshake$Net", "count", "I", false)
  | 4 => ("LossyHandshake$Net", "lostCount", "I", false)
  | _ => ("LossyHandshake$Net", "sentCount", "I", false)
def t_Net : Nat → FieldType := fun k => match k with
  | 0 => .array (.object "LossyHandshake$NetRecord")
  | 1 => .object "LossyHandshake$NetRecord"
  | 2 => .object "LossyHandshake$NetRecord"
  | 3 => .int
  | 4 => .int
  | _ => .int
set_option maxRecDepth 100000 in
theorem n_Net : ∀ a, a < 6 → ∀ b, b < 6 → a ≠ b → (F_Net a).2.1 ≠ (F_Net b).2.1 := by decide +kernel
set_option maxRecDepth 100000 in
theorem t_Net_ok : ∀ k, k < 6 → parseFieldDescriptor (F_Net k).2.2.1 = some (t_Net k) := by decide +kernel
def F_Win : u_T := fun k => match k with
  | 0 => ("LossyHandshake$Window", "greatest", "I", false)
  | _ => ("LossyHandshake$Window", "seen", "I", false)
def t_Win : Nat → FieldType := fun k => match k with
  | 0 => .int
  | _ => .int
set_option maxRecDepth 100000 in
theorem n_Win : ∀ a, a < 2 → ∀ b, b < 2 → a ≠ b → (F_Win a).2.1 ≠ (F_Win b).2.1 := by decide +kernel
set_option maxRecDepth 100000 in
theorem t_Win_ok : ∀ k, k < 2 → parseFieldDescriptor (F_Win k).2.2.1 = some (t_Win k) := by decide +kernel
def F_Noted : u_T := fun k => match k with
  | 0 => ("LossyHandshake$Noted", "names", "[I", true)
  | _ => ("LossyHandshake$Noted", "count", "I", false)
def t_Noted : Nat → FieldType := fun k => match k with
  | 0 => .array (.int)
  | _ => .int
set_option maxRecDepth 100000 in
theorem n_Noted : ∀ a, a < 2 → ∀ b, b < 2 → a ≠ b → (F_Noted a).2.1 ≠ (F_Noted b).2.1 := by decide +kernel
set_option maxRecDepth 100000 in
theorem t_Noted_ok : ∀ k, k < 2 → parseFieldDescriptor (F_Noted k).2.2.1 = some (t_Noted k) := by decide +kernel
def F_Asm : u_T := fun k => match k with
  | 0 => ("LossyHandshake$Assembly", "starts", "[I", true)
  | 1 => ("LossyHandshake$Assembly", "bytes", "[I", true)
  | _ => ("LossyHandshake$Assembly", "next", "I", false)
def t_Asm : Nat → FieldType := fun k => match k with
  | 0 => .array (.int)
  | 1 => .array (.int)
  | _ => .int
set_option maxRecDepth 100000 in
theorem n_Asm : ∀ a, a < 3 → ∀ b, b < 3 → a ≠ b → (F_Asm a).2.1 ≠ (F_Asm b).2.1 := by decide +kernel
set_option maxRecDepth 100000 in
theorem t_Asm_ok : ∀ k, k < 3 → parseFieldDescriptor (F_Asm k).2.2.1 = some (t_Asm k) := by decide +kernel
def F_Client : u_T := fun k => match k with
  | 0 => ("LossyHandshake$Side", "self", "I", true)
  | 1 => ("LossyHandshake$Side", "mtu", "I", true)
  | 2 => ("LossyHandshake$Side", "net", "LLossyHandshake$Net;", true)
  | 3 => ("LossyHandshake$Side", "flight", "LLossyHandshake$Flight;", true)
  | 4 => ("LossyHandshake$Side", "noted", "LLossyHandshake$Noted;", true)
  | 5 => ("LossyHandshake$Side", "windows", "[LLossyHandshake$Window;", true)
  | 6 => ("LossyHandshake$Side", "nextNumbers", "[I", true)
  | 7 => ("LossyHandshake$Side", "values", "[I", true)
  | 8 => ("LossyHandshake$Side", "valueCount", "I", false)
  | 9 => ("LossyHandshake$Side", "state", "I", false)
  | 10 => ("LossyHandshake$Side", "transcript", "I", false)
  | 11 => ("LossyHandshake$Side", "writes", "I", false)
  | 12 => ("LossyHandshake$Side", "reads", "I", false)
  | 13 => ("LossyHandshake$Side", "ackDueIn", "I", false)
  | 14 => ("LossyHandshake$Client", "ownNumber", "I", true)
  | 15 => ("LossyHandshake$Client", "hello", "LLossyHandshake$Message;", true)
  | 16 => ("LossyHandshake$Client", "helloAgain", "LLossyHandshake$Message;", true)
  | 17 => ("LossyHandshake$Client", "done", "LLossyHandshake$Message;", true)
  | _ => ("LossyHandshake$Client", "assembly", "LLossyHandshake$Assembly;", true)
def t_Client : Nat → FieldType := fun k => match k with
  | 0 => .int
  | 1 => .int
  | 2 => .object "LossyHandshake$Net"
  | 3 => .object "LossyHandshake$Flight"
  | 4 => .object "LossyHandshake$Noted"
  | 5 => .array (.object "LossyHandshake$Window")
  | 6 => .array (.int)
  | 7 => .array (.int)
  | 8 => .int
  | 9 => .int
  | 10 => .int
  | 11 => .int
  | 12 => .int
  | 13 => .int
  | 14 => .int
  | 15 => .object "LossyHandshake$Message"
  | 16 => .object "LossyHandshake$Message"
  | 17 => .object "LossyHandshake$Message"
  | _ => .object "LossyHandshake$Assembly"
set_option maxRecDepth 100000 in
theorem n_Client : ∀ a, a < 19 → ∀ b, b < 19 → a ≠ b → (F_Client a).2.1 ≠ (F_Client b).2.1 := by decide +kernel
set_option maxRecDepth 100000 in
theorem t_Client_ok : ∀ k, k < 19 → parseFieldDescriptor (F_Client k).2.2.1 = some (t_Client k) := by decide +kernel
def F_Server : u_T := fun k => match k with
  | 0 => ("LossyHandshake$Side", "self", "I", true)
  | 1 => ("LossyHandshake$Side", "mtu", "I", true)
  | 2 => ("LossyHandshake$Side", "net", "LLossyHandshake$Net;", true)
  | 3 => ("LossyHandshake$Side", "flight", "LLossyHandshake$Flight;", true)
  | 4 => ("LossyHandshake$Side", "noted", "LLossyHandshake$Noted;", true)
  | 5 => ("LossyHandshake$Side", "windows", "[LLossyHandshake$Window;", true)
  | 6 => ("LossyHandshake$Side", "nextNumbers", "[I", true)
  | 7 => ("LossyHandshake$Side", "values", "[I", true)
  | 8 => ("LossyHandshake$Side", "valueCount", "I", false)
  | 9 => ("LossyHandshake$Side", "state", "I", false)
  | 10 => ("LossyHandshake$Side", "transcript", "I", false)
  | 11 => ("LossyHandshake$Side", "writes", "I", false)
  | 12 => ("LossyHandshake$Side", "reads", "I", false)
  | 13 => ("LossyHandshake$Side", "ackDueIn", "I", false)
  | 14 => ("LossyHandshake$Server", "secret", "I", true)
  | 15 => ("LossyHandshake$Server", "retry", "LLossyHandshake$Message;", true)
  | 16 => ("LossyHandshake$Server", "answer", "LLossyHandshake$Message;", true)
  | 17 => ("LossyHandshake$Server", "terms", "LLossyHandshake$Message;", true)
  | 18 => ("LossyHandshake$Server", "proof", "LLossyHandshake$Message;", true)
  | _ => ("LossyHandshake$Server", "done", "LLossyHandshake$Message;", true)
def t_Server : Nat → FieldType := fun k => match k with
  | 0 => .int
  | 1 => .int
  | 2 => .object "LossyHandshake$Net"
  | 3 => .object "LossyHandshake$Flight"
  | 4 => .object "LossyHandshake$Noted"
  | 5 => .array (.object "LossyHandshake$Window")
  | 6 => .array (.int)
  | 7 => .array (.int)
  | 8 => .int
  | 9 => .int
  | 10 => .int
  | 11 => .int
  | 12 => .int
  | 13 => .int
  | 14 => .int
  | 15 => .object "LossyHandshake$Message"
  | 16 => .object "LossyHandshake$Message"
  | 17 => .object "LossyHandshake$Message"
  | 18 => .object "LossyHandshake$Message"
  | _ => .object "LossyHandshake$Message"
set_option maxRecDepth 100000 in
theorem n_Server : ∀ a, a < 20 → ∀ b, b < 20 → a ≠ b → (F_Server a).2.1 ≠ (F_Server b).2.1 := by decide +kernel
set_option maxRecDepth 100000 in
theorem t_Server_ok : ∀ k, k < 20 → parseFieldDescriptor (F_Server k).2.2.1 = some (t_Server k) := by decide +kernel
def F_X : u_T := fun k => match k with
  | 0 => ("LossyHandshake", "net", "LLossyHandshake$Net;", true)
  | 1 => ("LossyHandshake", "client", "LLossyHandshake$Client;", true)
  | _ => ("LossyHandshake", "server", "LLossyHandshake$Server;", true)
def t_X : Nat → FieldType := fun k => match k with
  | 0 => .object "LossyHandshake$Net"
  | 1 => .object "LossyHandshake$Client"
  | _ => .object "LossyHandshake$Server"
set_option maxRecDepth 100000 in
theorem n_X : ∀ a, a < 3 → ∀ b, b < 3 → a ≠ b → (F_X a).2.1 ≠ (F_X b).2.1 := by decide +kernel
set_option maxRecDepth 100000 in
theorem t_X_ok : ∀ k, k < 3 → parseFieldDescriptor (F_X k).2.2.1 = some (t_X k) := by decide +kernel
def F_Mo : u_T := fun k => match k with
  | 0 => ("LossyHandshakeModel", "mtu", "I", true)
  | 1 => ("LossyHandshakeModel", "proof", "I", true)
  | 2 => ("LossyHandshakeModel", "\x72", "I", true)
  | 3 => ("LossyHandshakeModel", "s", "I", true)
  | 4 => ("LossyHandshakeModel", "cookie", "I", true)
  | 5 => ("LossyHandshakeModel", "serverDone", "I", false)
  | 6 => ("LossyHandshakeModel", "clientDone", "I", false)
  | 7 => ("LossyHandshakeModel", "clock", "I", false)
  | 8 => ("LossyHandshakeModel", "count", "I", false)
  | 9 => ("LossyHandshakeModel", "lost", "I", false)
  | 10 => ("LossyHandshakeModel", "sent", "I", false)
  | 11 => ("LossyHandshakeModel", "from", "[I", true)
  | 12 => ("LossyHandshakeModel", "kind", "[I", true)
  | 13 => ("LossyHandshakeModel", "epoch", "[I", true)
  | 14 => ("LossyHandshakeModel", "number", "[I", true)
  | 15 => ("LossyHandshakeModel", "spoilt", "[Z", true)
  | 16 => ("LossyHandshakeModel", "what", "[I", true)
  | 17 => ("LossyHandshakeModel", "offset", "[I", true)
  | 18 => ("LossyHandshakeModel", "length", "[I", true)
  | 19 => ("LossyHandshakeModel", "nameEpoch", "[I", true)
  | 20 => ("LossyHandshakeModel", "nameNumber", "[I", true)
  | 21 => ("LossyHandshakeModel", "state", "[I", true)
  | 22 => ("LossyHandshakeModel", "through", "[I", true)
  | 23 => ("LossyHandshakeModel", "next", "[I", true)
  | 24 => ("LossyHandshakeModel", "greatest", "[I", true)
  | 25 => ("LossyHandshakeModel", "letIn", "[I", true)
  | 26 => ("LossyHandshakeModel", "noted", "[I", true)
  | 27 => ("LossyHandshakeModel", "noteEpoch", "[I", true)
  | 28 => ("LossyHandshakeModel", "noteNumber", "[I", true)
  | 29 => ("LossyHandshakeModel", "ackDue", "[I", true)
  | 30 => ("LossyHandshakeModel", "pieces", "[I", true)
  | 31 => ("LossyHandshakeModel", "pieceOf", "[I", true)
  | 32 => ("LossyHandshakeModel", "pieceAt", "[I", true)
  | 33 => ("LossyHandshakeModel", "isOpen", "[Z", true)
  | 34 => ("LossyHandshakeModel", "times", "[I", true)
  | 35 => ("LossyHandshakeModel", "wentEpoch", "[I", true)
  | 36 => ("LossyHandshakeModel", "wentNumber", "[I", true)
  | 37 => ("LossyHandshakeModel", "wentPiece", "[I", true)
  | 38 => ("LossyHandshakeModel", "wait", "[I", true)
  | 39 => ("LossyHandshakeModel", "until", "[I", true)
  | 40 => ("LossyHandshakeModel", "again", "[I", true)
  | 41 => ("LossyHandshakeModel", "has", "[Z", true)
  | 42 => ("LossyHandshakeModel", "values", "[I", true)
  | _ => ("LossyHandshakeModel", "received", "[I", true)
def t_Mo : Nat → FieldType := fun k => match k with
  | 0 => .int
  | 1 => .int
  | 2 => .int
  | 3 => .int
  | 4 => .int
  | 5 => .int
  | 6 => .int
  | 7 => .int
  | 8 => .int
  | 9 => .int
  | 10 => .int
  | 11 => .array (.int)
  | 12 => .array (.int)
  | 13 => .array (.int)
  | 14 => .array (.int)
  | 15 => .array (.boolean)
  | 16 => .array (.int)
  | 17 => .array (.int)
  | 18 => .array (.int)
  | 19 => .array (.int)
  | 20 => .array (.int)
  | 21 => .array (.int)
  | 22 => .array (.int)
  | 23 => .array (.int)
  | 24 => .array (.int)
  | 25 => .array (.int)
  | 26 => .array (.int)
  | 27 => .array (.int)
  | 28 => .array (.int)
  | 29 => .array (.int)
  | 30 => .array (.int)
  | 31 => .array (.int)
  | 32 => .array (.int)
  | 33 => .array (.boolean)
  | 34 => .array (.int)
  | 35 => .array (.int)
  | 36 => .array (.int)
  | 37 => .array (.int)
  | 38 => .array (.int)
  | 39 => .array (.int)
  | 40 => .array (.int)
  | 41 => .array (.boolean)
  | 42 => .array (.int)
  | _ => .array (.int)
set_option maxRecDepth 100000 in
theorem n_Mo : ∀ a, a < 44 → ∀ b, b < 44 → a ≠ b → (F_Mo a).2.1 ≠ (F_Mo b).2.1 := by decide +kernel
set_option maxRecDepth 100000 in
theorem t_Mo_ok : ∀ k, k < 44 → parseFieldDescriptor (F_Mo k).2.2.1 = some (t_Mo k) := by decide +kernel
abbrev classes : List vw_C := [("LossyHandshake$Message", F_Msg, 3), ("LossyHandshake$Fragment", F_Frag, 8), ("LossyHandshake$Flight", F_Flight, 5), ("LossyHandshake$NetRecord", F_Rec, 9), ("LossyHandshake$Net", F_Net, 6), ("LossyHandshake$Window", F_Win, 2), ("LossyHandshake$Noted", F_Noted, 2), ("LossyHandshake$Assembly", F_Asm, 3), ("LossyHandshake$Client", F_Client, 19), ("LossyHandshake$Server", F_Server, 20), ("LossyHandshake", F_X, 3), ("LossyHandshakeModel", F_Mo, 44)]
def fk (ci k : Nat) : Bool := match ci with
  | 0 => k == 2
  | 1 => k == 0 || k == 1
  | 2 => k == 0
  | 3 => k == 0
  | 4 => k == 0 || k == 1 || k == 2
  | 5 => false
  | 6 => k == 0
  | 7 => k == 0 || k == 1
  | 8 => k == 2 || k == 3 || k == 4 || k == 5 || k == 6 || k == 7 || k == 15 || k == 16 || k == 17 || k == 18
  | 9 => k == 2 || k == 3 || k == 4 || k == 5 || k == 6 || k == 7 || k == 15 || k == 16 || k == 17 || k == 18 || k == 19
  | 10 => k == 0 || k == 1 || k == 2
  | 11 => decide (11 ≤ k)
  | _ => false
set_option maxRecDepth 100000 in
theorem df_Msg : ∀ j, j < 3 → defaultValue (t_Msg j) = if fk 0 j = true then .null else .int 0 := by decide +kernel
set_option maxRecDepth 100000 in
theorem df_Frag : ∀ j, j < 8 → defaultValue (t_Frag j) = if fk 1 j = true then .null else .int 0 := by decide +kernel
set_option maxRecDepth 100000 in
theorem df_Flight : ∀ j, j < 5 → defaultValue (t_Flight j) = if fk 2 j = true then .null else .int 0 := by decide +kernel
set_option maxRecDepth 100000 in
theorem df_Rec : ∀ j, j < 9 → defaultValue (t_Rec j) = if fk 3 j = true then .null else .int 0 := by decide +kernel
set_option maxRecDepth 100000 in
theorem df_Net : ∀ j, j < 6 → defaultValue (t_Net j) = if fk 4 j = true then .null else .int 0 := by decide +kernel
set_option maxRecDepth 100000 in
theorem df_Win : ∀ j, j < 2 → defaultValue (t_Win j) = if fk 5 j = true then .null else .int 0 := by decide +kernel
set_option maxRecDepth 100000 in
theorem df_Noted : ∀ j, j < 2 → defaultValue (t_Noted j) = if fk 6 j = true then .null else .int 0 := by decide +kernel
set_option maxRecDepth 100000 in
theorem df_Asm : ∀ j, j < 3 → defaultValue (t_Asm j) = if fk 7 j = true then .null else .int 0 := by decide +kernel
set_option maxRecDepth 100000 in
theorem df_Client : ∀ j, j < 19 → defaultValue (t_Client j) = if fk 8 j = true then .null else .int 0 := by decide +kernel
set_option maxRecDepth 100000 in
theorem df_Server : ∀ j, j < 20 → defaultValue (t_Server j) = if fk 9 j = true then .null else .int 0 := by decide +kernel
set_option maxRecDepth 100000 in
theorem df_X : ∀ j, j < 3 → defaultValue (t_X j) = if fk 10 j = true then .null else .int 0 := by decide +kernel
set_option maxRecDepth 100000 in
theorem df_Mo : ∀ j, j < 44 → defaultValue (t_Mo j) = if fk 11 j = true then .null else .int 0 := by decide +kernel
abbrev b_Asm_init : ByteArray := prog_2_method_1_code
abbrev y_Asm_init : MethodName := ⟨"LossyHandshake$Assembly", "<init>", "(I)V"⟩
abbrev b_Asm_startOf : ByteArray := prog_2_method_3_code
abbrev y_Asm_startOf : MethodName := ⟨"LossyHandshake$Assembly", "startOf", "(I)I"⟩
abbrev b_Asm_put : ByteArray := prog_2_method_2_code
abbrev y_Asm_put : MethodName := ⟨"LossyHandshake$Assembly", "put", "(LLossyHandshake$NetRecord;)V"⟩
abbrev b_Asm_isWhole : ByteArray := prog_2_method_4_code
abbrev y_Asm_isWhole : MethodName := ⟨"LossyHandshake$Assembly", "isWhole", "()Z"⟩
abbrev b_Asm_hasNextMessage : ByteArray := prog_2_method_5_code
abbrev y_Asm_hasNextMessage : MethodName := ⟨"LossyHandshake$Assembly", "hasNextMessage", "()Z"⟩
abbrev b_Asm_countUntaken : ByteArray := prog_2_method_6_code
abbrev y_Asm_countUntaken : MethodName := ⟨"LossyHandshake$Assembly", "countUntaken", "()I"⟩
abbrev b_Noted_init : ByteArray := prog_9_method_1_code
abbrev y_Noted_init : MethodName := ⟨"LossyHandshake$Noted", "<init>", "()V"⟩
abbrev b_Frag_init : ByteArray := prog_5_method_1_code
abbrev y_Frag_init : MethodName := ⟨"LossyHandshake$Fragment", "<init>", "()V"⟩
abbrev b_Flight_init : ByteArray := prog_4_method_1_code
abbrev y_Flight_init : MethodName := ⟨"LossyHandshake$Flight", "<init>", "(I)V"⟩
abbrev b_Win_init : ByteArray := prog_12_method_1_code
abbrev y_Win_init : MethodName := ⟨"LossyHandshake$Window", "<init>", "()V"⟩
abbrev b_Side_init : ByteArray := prog_11_method_1_code
abbrev y_Side_init : MethodName := ⟨"LossyHandshake$Side", "<init>", "(IILLossyHandshake$Net;I)V"⟩
abbrev b_Msg_init : ByteArray := prog_6_method_1_code
abbrev y_Msg_init : MethodName := ⟨"LossyHandshake$Message", "<init>", "(III)V"⟩
abbrev b_X_mix : ByteArray := prog_1_method_22_code
abbrev y_X_mix : MethodName := ⟨"LossyHandshake", "mix", "(II)I"⟩
abbrev b_X_clientNumber : ByteArray := prog_1_method_23_code
abbrev y_X_clientNumber : MethodName := ⟨"LossyHandshake", "clientNumber", "(I)I"⟩
abbrev b_X_proofLength : ByteArray := prog_1_method_25_code
abbrev y_X_proofLength : MethodName := ⟨"LossyHandshake", "proofLength", "(I)I"⟩
abbrev b_Client_init : ByteArray := prog_3_method_1_code
abbrev y_Client_init : MethodName := ⟨"LossyHandshake$Client", "<init>", "(IILLossyHandshake$Net;)V"⟩
abbrev b_Msg_writeInt : ByteArray := prog_6_method_2_code
abbrev y_Msg_writeInt : MethodName := ⟨"LossyHandshake$Message", "writeInt", "(II)V"⟩
abbrev b_Side_addBytesToTranscript : ByteArray := prog_11_method_4_code
abbrev y_Side_addBytesToTranscript : MethodName := ⟨"LossyHandshake$Side", "addBytesToTranscript", "([III)V"⟩
abbrev b_Side_addToTranscript : ByteArray := prog_11_method_5_code
abbrev y_Side_addToTranscript : MethodName := ⟨"LossyHandshake$Side", "addToTranscript", "(LLossyHandshake$Message;)V"⟩
abbrev b_Flight_begin : ByteArray := prog_4_method_3_code
abbrev y_Flight_begin : MethodName := ⟨"LossyHandshake$Flight", "begin", "()V"⟩
abbrev b_Frag_cutFrom : ByteArray := prog_5_method_2_code
abbrev y_Frag_cutFrom : MethodName := ⟨"LossyHandshake$Fragment", "cutFrom", "(LLossyHandshake$Message;II)V"⟩
abbrev b_Flight_add : ByteArray := prog_4_method_4_code
abbrev y_Flight_add : MethodName := ⟨"LossyHandshake$Flight", "add", "(LLossyHandshake$Message;I)V"⟩
abbrev b_Side_takeNumber : ByteArray := prog_11_method_8_code
abbrev y_Side_takeNumber : MethodName := ⟨"LossyHandshake$Side", "takeNumber", "(I)I"⟩
abbrev b_X_nameOf : ByteArray := prog_1_method_26_code
abbrev y_X_nameOf : MethodName := ⟨"LossyHandshake", "nameOf", "(II)I"⟩
abbrev b_Frag_rememberSending : ByteArray := prog_5_method_3_code
abbrev y_Frag_rememberSending : MethodName := ⟨"LossyHandshake$Fragment", "rememberSending", "(I)V"⟩
abbrev b_Rec_address : ByteArray := prog_8_method_2_code
abbrev y_Rec_address : MethodName := ⟨"LossyHandshake$NetRecord", "address", "(IIII)V"⟩
abbrev b_Net_append : ByteArray := prog_7_method_3_code
abbrev y_Net_append : MethodName := ⟨"LossyHandshake$Net", "append", "(IIII)LLossyHandshake$NetRecord;"⟩
abbrev b_Rec_markAsPiece : ByteArray := prog_8_method_3_code
abbrev y_Rec_markAsPiece : MethodName := ⟨"LossyHandshake$NetRecord", "markAsPiece", "(II)V"⟩
abbrev b_Rec_hold : ByteArray := prog_8_method_4_code
abbrev y_Rec_hold : MethodName := ⟨"LossyHandshake$NetRecord", "hold", "([II)V"⟩
abbrev b_Side_sendOpenFragments : ByteArray := prog_11_method_14_code
abbrev y_Side_sendOpenFragments : MethodName := ⟨"LossyHandshake$Side", "sendOpenFragments", "()V"⟩
abbrev b_Client_sendFlight : ByteArray := prog_3_method_3_code
abbrev y_Client_sendFlight : MethodName := ⟨"LossyHandshake$Client", "sendFlight", "(LLossyHandshake$Message;)V"⟩
abbrev b_Side_enter : ByteArray := prog_11_method_3_code
abbrev y_Side_enter : MethodName := ⟨"LossyHandshake$Side", "enter", "(I)V"⟩
abbrev b_Client_sendHello : ByteArray := prog_3_method_2_code
abbrev y_Client_sendHello : MethodName := ⟨"LossyHandshake$Client", "sendHello", "()V"⟩
abbrev b_Win_isOld : ByteArray := prog_12_method_2_code
abbrev y_Win_isOld : MethodName := ⟨"LossyHandshake$Window", "isOld", "(I)Z"⟩
abbrev b_Side_throwsAway : ByteArray := prog_11_method_6_code
abbrev y_Side_throwsAway : MethodName := ⟨"LossyHandshake$Side", "throwsAway", "(LLossyHandshake$NetRecord;)Z"⟩
abbrev b_Win_letIn : ByteArray := prog_12_method_3_code
abbrev y_Win_letIn : MethodName := ⟨"LossyHandshake$Window", "letIn", "(I)V"⟩
abbrev b_Side_letIn : ByteArray := prog_11_method_7_code
abbrev y_Side_letIn : MethodName := ⟨"LossyHandshake$Side", "letIn", "(LLossyHandshake$NetRecord;)V"⟩
abbrev b_Frag_wasSentIn : ByteArray := prog_5_method_4_code
abbrev y_Frag_wasSentIn : MethodName := ⟨"LossyHandshake$Fragment", "wasSentIn", "(I)Z"⟩
abbrev b_Flight_closeSentIn : ByteArray := prog_4_method_8_code
abbrev y_Flight_closeSentIn : MethodName := ⟨"LossyHandshake$Flight", "closeSentIn", "(I)V"⟩
abbrev b_Side_closeNamed : ByteArray := prog_11_method_13_code
abbrev y_Side_closeNamed : MethodName := ⟨"LossyHandshake$Side", "closeNamed", "(LLossyHandshake$NetRecord;)V"⟩
abbrev b_Flight_countOpen : ByteArray := prog_4_method_7_code
abbrev y_Flight_countOpen : MethodName := ⟨"LossyHandshake$Flight", "countOpen", "()I"⟩
abbrev b_Client_takeAck : ByteArray := prog_3_method_5_code
abbrev y_Client_takeAck : MethodName := ⟨"LossyHandshake$Client", "takeAck", "(LLossyHandshake$NetRecord;)V"⟩
abbrev b_Side_keepValue : ByteArray := prog_11_method_10_code
abbrev y_Side_keepValue : MethodName := ⟨"LossyHandshake$Side", "keepValue", "(I)V"⟩
abbrev b_Rec_readFirstInt : ByteArray := prog_8_method_12_code
abbrev y_Rec_readFirstInt : MethodName := ⟨"LossyHandshake$NetRecord", "readFirstInt", "()I"⟩
abbrev b_Client_takeRetry : ByteArray := prog_3_method_6_code
abbrev y_Client_takeRetry : MethodName := ⟨"LossyHandshake$Client", "takeRetry", "(LLossyHandshake$NetRecord;)V"⟩
abbrev b_Flight_forget : ByteArray := prog_4_method_2_code
abbrev y_Flight_forget : MethodName := ⟨"LossyHandshake$Flight", "forget", "()V"⟩
abbrev b_Rec_name : ByteArray := prog_8_method_8_code
abbrev y_Rec_name : MethodName := ⟨"LossyHandshake$NetRecord", "name", "()I"⟩
abbrev b_Noted_add : ByteArray := prog_9_method_2_code
abbrev y_Noted_add : MethodName := ⟨"LossyHandshake$Noted", "add", "(I)V"⟩
abbrev b_Client_takeNextMessage : ByteArray := prog_3_method_8_code
abbrev y_Client_takeNextMessage : MethodName := ⟨"LossyHandshake$Client", "takeNextMessage", "()V"⟩
abbrev b_Client_takeFlightPiece : ByteArray := prog_3_method_7_code
abbrev y_Client_takeFlightPiece : MethodName := ⟨"LossyHandshake$Client", "takeFlightPiece", "(LLossyHandshake$NetRecord;)V"⟩
abbrev b_Client_answerFlight : ByteArray := prog_3_method_9_code
abbrev y_Client_answerFlight : MethodName := ⟨"LossyHandshake$Client", "answerFlight", "()V"⟩
abbrev b_Client_accept : ByteArray := prog_3_method_4_code
abbrev y_Client_accept : MethodName := ⟨"LossyHandshake$Client", "accept", "(LLossyHandshake$NetRecord;)Z"⟩
abbrev b_Flight_waitTwiceAsLong : ByteArray := prog_4_method_5_code
abbrev y_Flight_waitTwiceAsLong : MethodName := ⟨"LossyHandshake$Flight", "waitTwiceAsLong", "()V"⟩
abbrev b_Flight_hasWaited : ByteArray := prog_4_method_6_code
abbrev y_Flight_hasWaited : MethodName := ⟨"LossyHandshake$Flight", "hasWaited", "()Z"⟩
abbrev b_Msg_writeMixes : ByteArray := prog_6_method_3_code
abbrev y_Msg_writeMixes : MethodName := ⟨"LossyHandshake$Message", "writeMixes", "(I)V"⟩
abbrev b_Rec_init : ByteArray := prog_8_method_1_code
abbrev y_Rec_init : MethodName := ⟨"LossyHandshake$NetRecord", "<init>", "()V"⟩
abbrev b_Net_init : ByteArray := prog_7_method_1_code
abbrev y_Net_init : MethodName := ⟨"LossyHandshake$Net", "<init>", "()V"⟩
abbrev b_Net_has : ByteArray := prog_7_method_2_code
abbrev y_Net_has : MethodName := ⟨"LossyHandshake$Net", "has", "(I)Z"⟩
abbrev b_Rec_becomeLike : ByteArray := prog_8_method_6_code
abbrev y_Rec_becomeLike : MethodName := ⟨"LossyHandshake$NetRecord", "becomeLike", "(LLossyHandshake$NetRecord;)V"⟩
abbrev b_Net_appendLike : ByteArray := prog_7_method_4_code
abbrev y_Net_appendLike : MethodName := ⟨"LossyHandshake$Net", "appendLike", "(I)Z"⟩
abbrev b_Net_takeOut : ByteArray := prog_7_method_5_code
abbrev y_Net_takeOut : MethodName := ⟨"LossyHandshake$Net", "takeOut", "(I)LLossyHandshake$NetRecord;"⟩
abbrev b_Rec_holdValue : ByteArray := prog_8_method_5_code
abbrev y_Rec_holdValue : MethodName := ⟨"LossyHandshake$NetRecord", "holdValue", "(I)V"⟩
abbrev b_Rec_isPieceOf : ByteArray := prog_8_method_7_code
abbrev y_Rec_isPieceOf : MethodName := ⟨"LossyHandshake$NetRecord", "isPieceOf", "(I)Z"⟩
abbrev b_Rec_headline : ByteArray := prog_8_method_9_code
abbrev y_Rec_headline : MethodName := ⟨"LossyHandshake$NetRecord", "headline", "()I"⟩
abbrev b_Rec_summary : ByteArray := prog_8_method_10_code
abbrev y_Rec_summary : MethodName := ⟨"LossyHandshake$NetRecord", "summary", "()I"⟩
abbrev b_Rec_fragmentByte : ByteArray := prog_8_method_11_code
abbrev y_Rec_fragmentByte : MethodName := ⟨"LossyHandshake$NetRecord", "fragmentByte", "(I)I"⟩
abbrev b_X_serverSecret : ByteArray := prog_1_method_24_code
abbrev y_X_serverSecret : MethodName := ⟨"LossyHandshake", "serverSecret", "(I)I"⟩
abbrev b_Server_init : ByteArray := prog_10_method_1_code
abbrev y_Server_init : MethodName := ⟨"LossyHandshake$Server", "<init>", "(IILLossyHandshake$Net;)V"⟩
abbrev b_Server_sendRetry : ByteArray := prog_10_method_3_code
abbrev y_Server_sendRetry : MethodName := ⟨"LossyHandshake$Server", "sendRetry", "(LLossyHandshake$NetRecord;)V"⟩
abbrev b_Server_addFirstThreeToTranscript : ByteArray := prog_10_method_5_code
abbrev y_Server_addFirstThreeToTranscript : MethodName := ⟨"LossyHandshake$Server", "addFirstThreeToTranscript", "(LLossyHandshake$NetRecord;)V"⟩
abbrev b_Server_workOutFlight : ByteArray := prog_10_method_6_code
abbrev y_Server_workOutFlight : MethodName := ⟨"LossyHandshake$Server", "workOutFlight", "(I)V"⟩
abbrev b_Server_takeHelloAgain : ByteArray := prog_10_method_4_code
abbrev y_Server_takeHelloAgain : MethodName := ⟨"LossyHandshake$Server", "takeHelloAgain", "(LLossyHandshake$NetRecord;)V"⟩
abbrev b_Side_sendAck : ByteArray := prog_11_method_12_code
abbrev y_Side_sendAck : MethodName := ⟨"LossyHandshake$Side", "sendAck", "()V"⟩
abbrev b_Server_takeClientDone : ByteArray := prog_10_method_7_code
abbrev y_Server_takeClientDone : MethodName := ⟨"LossyHandshake$Server", "takeClientDone", "(LLossyHandshake$NetRecord;)V"⟩
abbrev b_Server_accept : ByteArray := prog_10_method_2_code
abbrev y_Server_accept : MethodName := ⟨"LossyHandshake$Server", "accept", "(LLossyHandshake$NetRecord;)Z"⟩
abbrev b_Side_sendData : ByteArray := prog_11_method_9_code
abbrev y_Side_sendData : MethodName := ⟨"LossyHandshake$Side", "sendData", "(I)Z"⟩
abbrev b_Side_valueAt : ByteArray := prog_11_method_11_code
abbrev y_Side_valueAt : MethodName := ⟨"LossyHandshake$Side", "valueAt", "(I)I"⟩
abbrev b_Side_sendAgainOrFail : ByteArray := prog_11_method_16_code
abbrev y_Side_sendAgainOrFail : MethodName := ⟨"LossyHandshake$Side", "sendAgainOrFail", "()V"⟩
abbrev b_Side_passTick : ByteArray := prog_11_method_15_code
abbrev y_Side_passTick : MethodName := ⟨"LossyHandshake$Side", "passTick", "()V"⟩
abbrev b_X_init : ByteArray := prog_1_method_1_code
abbrev y_X_init : MethodName := ⟨"LossyHandshake", "<init>", "(II)V"⟩
abbrev b_X_start : ByteArray := prog_1_method_2_code
abbrev y_X_start : MethodName := ⟨"LossyHandshake", "start", "()Z"⟩
abbrev b_X_tick : ByteArray := prog_1_method_3_code
abbrev y_X_tick : MethodName := ⟨"LossyHandshake", "tick", "()I"⟩
abbrev b_X_isSide : ByteArray := prog_1_method_20_code
abbrev y_X_isSide : MethodName := ⟨"LossyHandshake", "isSide", "(I)Z"⟩
abbrev b_X_sideOf : ByteArray := prog_1_method_21_code
abbrev y_X_sideOf : MethodName := ⟨"LossyHandshake", "sideOf", "(I)LLossyHandshake$Side;"⟩
abbrev b_X_send : ByteArray := prog_1_method_4_code
abbrev y_X_send : MethodName := ⟨"LossyHandshake", "send", "(II)Z"⟩
abbrev b_X_deliver : ByteArray := prog_1_method_5_code
abbrev y_X_deliver : MethodName := ⟨"LossyHandshake", "deliver", "(I)I"⟩
abbrev b_X_drop : ByteArray := prog_1_method_6_code
abbrev y_X_drop : MethodName := ⟨"LossyHandshake", "drop", "(I)Z"⟩
abbrev b_X_copy : ByteArray := prog_1_method_7_code
abbrev y_X_copy : MethodName := ⟨"LossyHandshake", "copy", "(I)Z"⟩
abbrev b_X_spoil : ByteArray := prog_1_method_8_code
abbrev y_X_spoil : MethodName := ⟨"LossyHandshake", "spoil", "(I)Z"⟩
abbrev b_X_waiting : ByteArray := prog_1_method_9_code
abbrev y_X_waiting : MethodName := ⟨"LossyHandshake", "waiting", "()I"⟩
abbrev b_X_lost : ByteArray := prog_1_method_10_code
abbrev y_X_lost : MethodName := ⟨"LossyHandshake", "lost", "()I"⟩
abbrev b_X_record : ByteArray := prog_1_method_11_code
abbrev y_X_record : MethodName := ⟨"LossyHandshake", "record", "(I)I"⟩
abbrev b_X_content : ByteArray := prog_1_method_12_code
abbrev y_X_content : MethodName := ⟨"LossyHandshake", "content", "(I)I"⟩
abbrev b_X_byteOf : ByteArray := prog_1_method_13_code
abbrev y_X_byteOf : MethodName := ⟨"LossyHandshake", "byteOf", "(II)I"⟩
abbrev b_X_state : ByteArray := prog_1_method_14_code
abbrev y_X_state : MethodName := ⟨"LossyHandshake", "state", "(I)I"⟩
abbrev b_X_transcript : ByteArray := prog_1_method_15_code
abbrev y_X_transcript : MethodName := ⟨"LossyHandshake", "transcript", "(I)I"⟩
abbrev b_X_open : ByteArray := prog_1_method_16_code
abbrev y_X_open : MethodName := ⟨"LossyHandshake", "open", "(I)I"⟩
abbrev b_X_kept : ByteArray := prog_1_method_17_code
abbrev y_X_kept : MethodName := ⟨"LossyHandshake", "kept", "(I)I"⟩
abbrev b_X_received : ByteArray := prog_1_method_18_code
abbrev y_X_received : MethodName := ⟨"LossyHandshake", "received", "(I)I"⟩
abbrev b_X_value : ByteArray := prog_1_method_19_code
abbrev y_X_value : MethodName := ⟨"LossyHandshake", "value", "(II)I"⟩
abbrev b_Mo_mix : ByteArray := prog_14_method_2_code
abbrev y_Mo_mix : MethodName := ⟨"LossyHandshakeModel", "mix", "(II)I"⟩
abbrev b_Mo_sizeOf : ByteArray := prog_14_method_3_code
abbrev y_Mo_sizeOf : MethodName := ⟨"LossyHandshakeModel", "sizeOf", "(I)I"⟩
abbrev b_Mo_byteAt : ByteArray := prog_14_method_4_code
abbrev y_Mo_byteAt : MethodName := ⟨"LossyHandshakeModel", "byteAt", "(II)I"⟩
abbrev b_Mo_content2 : ByteArray := prog_14_method_5_code
abbrev y_Mo_content2 : MethodName := ⟨"LossyHandshakeModel", "content", "(II)I"⟩
abbrev b_Mo_told : ByteArray := prog_14_method_6_code
abbrev y_Mo_told : MethodName := ⟨"LossyHandshakeModel", "told", "(I)I"⟩
abbrev b_Mo_init : ByteArray := prog_14_method_1_code
abbrev y_Mo_init : MethodName := ⟨"LossyHandshakeModel", "<init>", "(II)V"⟩
abbrev b_Mo_become : ByteArray := prog_14_method_19_code
abbrev y_Mo_become : MethodName := ⟨"LossyHandshakeModel", "become", "(II)V"⟩
abbrev b_Mo_put : ByteArray := prog_14_method_10_code
abbrev y_Mo_put : MethodName := ⟨"LossyHandshakeModel", "put", "(IIII)I"⟩
abbrev b_Mo_sendPiece : ByteArray := prog_14_method_16_code
abbrev y_Mo_sendPiece : MethodName := ⟨"LossyHandshakeModel", "sendPiece", "(II)V"⟩
abbrev b_Mo_fly : ByteArray := prog_14_method_17_code
abbrev y_Mo_fly : MethodName := ⟨"LossyHandshakeModel", "fly", "(III)V"⟩
abbrev b_Mo_start : ByteArray := prog_14_method_21_code
abbrev y_Mo_start : MethodName := ⟨"LossyHandshakeModel", "start", "()Z"⟩
abbrev b_Mo_writes : ByteArray := prog_14_method_8_code
abbrev y_Mo_writes : MethodName := ⟨"LossyHandshakeModel", "writes", "(II)Z"⟩
abbrev b_Mo_sendAck : ByteArray := prog_14_method_20_code
abbrev y_Mo_sendAck : MethodName := ⟨"LossyHandshakeModel", "sendAck", "(I)V"⟩
abbrev b_Mo_openOf : ByteArray := prog_14_method_18_code
abbrev y_Mo_openOf : MethodName := ⟨"LossyHandshakeModel", "openOf", "(I)I"⟩
abbrev b_Mo_pass : ByteArray := prog_14_method_22_code
abbrev y_Mo_pass : MethodName := ⟨"LossyHandshakeModel", "pass", "(I)V"⟩
abbrev b_Mo_tick : ByteArray := prog_14_method_23_code
abbrev y_Mo_tick : MethodName := ⟨"LossyHandshakeModel", "tick", "()I"⟩
abbrev b_Mo_send : ByteArray := prog_14_method_24_code
abbrev y_Mo_send : MethodName := ⟨"LossyHandshakeModel", "send", "(II)Z"⟩
abbrev b_Mo_isRecord : ByteArray := prog_14_method_12_code
abbrev y_Mo_isRecord : MethodName := ⟨"LossyHandshakeModel", "isRecord", "(I)Z"⟩
abbrev b_Mo_reads : ByteArray := prog_14_method_9_code
abbrev y_Mo_reads : MethodName := ⟨"LossyHandshakeModel", "reads", "(II)Z"⟩
abbrev b_Mo_isOld : ByteArray := prog_14_method_25_code
abbrev y_Mo_isOld : MethodName := ⟨"LossyHandshakeModel", "isOld", "(III)Z"⟩
abbrev b_Mo_close : ByteArray := prog_14_method_33_code
abbrev y_Mo_close : MethodName := ⟨"LossyHandshakeModel", "close", "(II)V"⟩
abbrev b_Mo_copyTo : ByteArray := prog_14_method_11_code
abbrev y_Mo_copyTo : MethodName := ⟨"LossyHandshakeModel", "copyTo", "(II)V"⟩
abbrev b_Mo_drop : ByteArray := prog_14_method_13_code
abbrev y_Mo_drop : MethodName := ⟨"LossyHandshakeModel", "drop", "(I)Z"⟩
abbrev b_Mo_retry : ByteArray := prog_14_method_29_code
abbrev y_Mo_retry : MethodName := ⟨"LossyHandshakeModel", "retry", "(I)V"⟩
abbrev b_Mo_let : ByteArray := prog_14_method_26_code
abbrev y_Mo_let : MethodName := ⟨"LossyHandshakeModel", "let", "(III)V"⟩
abbrev b_Mo_welcome : ByteArray := prog_14_method_28_code
abbrev y_Mo_welcome : MethodName := ⟨"LossyHandshakeModel", "welcome", "(II)Z"⟩
abbrev b_Mo_note : ByteArray := prog_14_method_27_code
abbrev y_Mo_note : MethodName := ⟨"LossyHandshakeModel", "note", "(III)V"⟩
abbrev b_Mo_isWhole : ByteArray := prog_14_method_30_code
abbrev y_Mo_isWhole : MethodName := ⟨"LossyHandshakeModel", "isWhole", "(I)Z"⟩
abbrev b_Mo_gather : ByteArray := prog_14_method_31_code
abbrev y_Mo_gather : MethodName := ⟨"LossyHandshakeModel", "gather", "(III)V"⟩
abbrev b_Mo_takeFragment : ByteArray := prog_14_method_32_code
abbrev y_Mo_takeFragment : MethodName := ⟨"LossyHandshakeModel", "takeFragment", "(IIIIII)V"⟩
abbrev b_Mo_deliver : ByteArray := prog_14_method_34_code
abbrev y_Mo_deliver : MethodName := ⟨"LossyHandshakeModel", "deliver", "(I)I"⟩
abbrev b_Mo_copy : ByteArray := prog_14_method_14_code
abbrev y_Mo_copy : MethodName := ⟨"LossyHandshakeModel", "copy", "(I)Z"⟩
abbrev b_Mo_spoil : ByteArray := prog_14_method_15_code
abbrev y_Mo_spoil : MethodName := ⟨"LossyHandshakeModel", "spoil", "(I)Z"⟩
abbrev b_Mo_waiting : ByteArray := prog_14_method_35_code
abbrev y_Mo_waiting : MethodName := ⟨"LossyHandshakeModel", "waiting", "()I"⟩
abbrev b_Mo_lost : ByteArray := prog_14_method_36_code
abbrev y_Mo_lost : MethodName := ⟨"LossyHandshakeModel", "lost", "()I"⟩
abbrev b_Mo_record : ByteArray := prog_14_method_37_code
abbrev y_Mo_record : MethodName := ⟨"LossyHandshakeModel", "record", "(I)I"⟩
abbrev b_Mo_numberOf : ByteArray := prog_14_method_7_code
abbrev y_Mo_numberOf : MethodName := ⟨"LossyHandshakeModel", "numberOf", "(I)I"⟩
abbrev b_Mo_content1 : ByteArray := prog_14_method_38_code
abbrev y_Mo_content1 : MethodName := ⟨"LossyHandshakeModel", "content", "(I)I"⟩
abbrev b_Mo_byteOf : ByteArray := prog_14_method_39_code
abbrev y_Mo_byteOf : MethodName := ⟨"LossyHandshakeModel", "byteOf", "(II)I"⟩
abbrev b_Mo_noSide : ByteArray := prog_14_method_40_code
abbrev y_Mo_noSide : MethodName := ⟨"LossyHandshakeModel", "noSide", "(I)Z"⟩
abbrev b_Mo_state : ByteArray := prog_14_method_41_code
abbrev y_Mo_state : MethodName := ⟨"LossyHandshakeModel", "state", "(I)I"⟩
abbrev b_Mo_transcript : ByteArray := prog_14_method_42_code
abbrev y_Mo_transcript : MethodName := ⟨"LossyHandshakeModel", "transcript", "(I)I"⟩
abbrev b_Mo_open : ByteArray := prog_14_method_43_code
abbrev y_Mo_open : MethodName := ⟨"LossyHandshakeModel", "open", "(I)I"⟩
abbrev b_Mo_kept : ByteArray := prog_14_method_44_code
abbrev y_Mo_kept : MethodName := ⟨"LossyHandshakeModel", "kept", "(I)I"⟩
abbrev b_Mo_received : ByteArray := prog_14_method_45_code
abbrev y_Mo_received : MethodName := ⟨"LossyHandshakeModel", "received", "(I)I"⟩
abbrev b_Mo_value : ByteArray := prog_14_method_46_code
abbrev y_Mo_value : MethodName := ⟨"LossyHandshakeModel", "value", "(II)I"⟩
def aoC2 : String := "LossyHandshake$NetRecord"
def aoC3 : String := "LossyHandshake$Fragment"
def aoC4 : String := "LossyHandshake$Window"
def aoW : List String := [aoC2, aoC3, aoC4]
def nestW : List (String × Nat × MethodName × String) := [("LossyHandshake$Net", 17, ⟨"LossyHandshake$NetRecord", "<init>", "()V"⟩, "LossyHandshake"), ("LossyHandshake$Side", 11, ⟨"LossyHandshake$Noted", "<init>", "()V"⟩, "LossyHandshake"), ("LossyHandshake$Flight", 17, ⟨"LossyHandshake$Fragment", "<init>", "()V"⟩, "LossyHandshake"), ("LossyHandshake$Side", 57, ⟨"LossyHandshake$Window", "<init>", "()V"⟩, "LossyHandshake"), ("LossyHandshake$Client", 26, ⟨"LossyHandshake", "clientNumber", "(I)I"⟩, "LossyHandshake"), ("LossyHandshake$Client", 36, ⟨"LossyHandshake", "proofLength", "(I)I"⟩, "LossyHandshake"), ("LossyHandshake$Server", 29, ⟨"LossyHandshake", "serverSecret", "(I)I"⟩, "LossyHandshake"), ("LossyHandshake$Server", 37, ⟨"LossyHandshake", "proofLength", "(I)I"⟩, "LossyHandshake"), ("LossyHandshake$Fragment", 51, ⟨"LossyHandshake", "nameOf", "(II)I"⟩, "LossyHandshake"), ("LossyHandshake$NetRecord", 59, ⟨"LossyHandshake", "nameOf", "(II)I"⟩, "LossyHandshake"), ("LossyHandshake$Client", 183, ⟨"LossyHandshake", "mix", "(II)I"⟩, "LossyHandshake"), ("LossyHandshake$Server", 90, ⟨"LossyHandshake", "mix", "(II)I"⟩, "LossyHandshake"), ("LossyHandshake$Message", 22, ⟨"LossyHandshake", "mix", "(II)I"⟩, "LossyHandshake")]
def declW : List MethodName := [⟨"LossyHandshake$Side", "accept", "(LLossyHandshake$NetRecord;)Z"⟩]
def tW : List Cond := lw_tbl.filter goodWord
theorem nw_0 : (("LossyHandshake$Flight", 17, y_Frag_init, "LossyHandshake") : String × Nat × MethodName × String) ∈ nestW := List.mem_of_getElem? (i := 2) rfl
theorem nw_1 : (("LossyHandshake$Side", 11, y_Noted_init, "LossyHandshake") : String × Nat × MethodName × String) ∈ nestW := List.mem_of_getElem? (i := 1) rfl
theorem nw_2 : (("LossyHandshake$Side", 57, y_Win_init, "LossyHandshake") : String × Nat × MethodName × String) ∈ nestW := List.mem_of_getElem? (i := 3) rfl
theorem nw_3 : (("LossyHandshake$Client", 26, y_X_clientNumber, "LossyHandshake") : String × Nat × MethodName × String) ∈ nestW := List.mem_of_getElem? (i := 4) rfl
theorem nw_4 : (("LossyHandshake$Client", 36, y_X_proofLength, "LossyHandshake") : String × Nat × MethodName × String) ∈ nestW := List.mem_of_getElem? (i := 5) rfl
theorem nw_5 : (("LossyHandshake$Fragment", 51, y_X_nameOf, "LossyHandshake") : String × Nat × MethodName × String) ∈ nestW := List.mem_of_getElem? (i := 8) rfl
theorem nw_6 : (("LossyHandshake$NetRecord", 59, y_X_nameOf, "LossyHandshake") : String × Nat × MethodName × String) ∈ nestW := List.mem_of_getElem? (i := 9) rfl
theorem nw_7 : (("LossyHandshake$Client", 183, y_X_mix, "LossyHandshake") : String × Nat × MethodName × String) ∈ nestW := List.mem_of_getElem? (i := 10) rfl
theorem nw_8 : (("LossyHandshake$Message", 22, y_X_mix, "LossyHandshake") : String × Nat × MethodName × String) ∈ nestW := List.mem_of_getElem? (i := 12) rfl
theorem nw_9 : (("LossyHandshake$Net", 17, y_Rec_init, "LossyHandshake") : String × Nat × MethodName × String) ∈ nestW := List.mem_of_getElem? (i := 0) rfl
theorem nw_10 : (("LossyHandshake$Server", 29, y_X_serverSecret, "LossyHandshake") : String × Nat × MethodName × String) ∈ nestW := List.mem_of_getElem? (i := 6) rfl
theorem nw_11 : (("LossyHandshake$Server", 37, y_X_proofLength, "LossyHandshake") : String × Nat × MethodName × String) ∈ nestW := List.mem_of_getElem? (i := 7) rfl
theorem nw_12 : (("LossyHandshake$Server", 90, y_X_mix, "LossyHandshake") : String × Nat × MethodName × String) ∈ nestW := List.mem_of_getElem? (i := 11) rfl
set_option maxRecDepth 100000 in
theorem hin_Msg : ∀ w ∈ u_ws "LossyHandshake$Message" F_Msg 3, w ∈ tW := by
  show ∀ w ∈ [Cond.laysFinal "LossyHandshake$Message" "LossyHandshake$Message" "number" "I", Cond.laysFinal "LossyHandshake$Message" "LossyHandshake$Message" "epoch" "I", Cond.laysFinal "LossyHandshake$Message" "LossyHandshake$Message" "bytes" "[I"], w ∈ tW
  exact List.forall_mem_cons.mpr ⟨List.mem_filter.mpr ⟨(List.mem_append_right _ (List.mem_of_getElem? (i := 231) rfl)), rfl⟩, List.forall_mem_cons.mpr ⟨List.mem_filter.mpr ⟨(List.mem_append_right _ (List.mem_of_getElem? (i := 233) rfl)), rfl⟩, List.forall_mem_cons.mpr ⟨List.mem_filter.mpr ⟨(List.mem_append_right _ (List.mem_of_getElem? (i := 235) rfl)), rfl⟩, fun _ h => absurd h List.not_mem_nil⟩⟩⟩
set_option maxRecDepth 100000 in
theorem hin_Frag : ∀ w ∈ u_ws "LossyHandshake$Fragment" F_Frag 8, w ∈ tW := by
  show ∀ w ∈ [Cond.laysFinal "LossyHandshake$Fragment" "LossyHandshake$Fragment" "bytes" "[I", Cond.laysFinal "LossyHandshake$Fragment" "LossyHandshake$Fragment" "sentIn" "[I", Cond.lays "LossyHandshake$Fragment" "LossyHandshake$Fragment" "message" "I", Cond.lays "LossyHandshake$Fragment" "LossyHandshake$Fragment" "epoch" "I", Cond.lays "LossyHandshake$Fragment" "LossyHandshake$Fragment" "offset" "I", Cond.lays "LossyHandshake$Fragment" "LossyHandshake$Fragment" "length" "I", Cond.lays "LossyHandshake$Fragment" "LossyHandshake$Fragment" "sendings" "I", Cond.lays "LossyHandshake$Fragment" "LossyHandshake$Fragment" "isOpen" "Z"], w ∈ tW
  exact List.forall_mem_cons.mpr ⟨List.mem_filter.mpr ⟨(List.mem_append_right _ (List.mem_of_getElem? (i := 168) rfl)), rfl⟩, List.forall_mem_cons.mpr ⟨List.mem_filter.mpr ⟨(List.mem_append_right _ (List.mem_of_getElem? (i := 170) rfl)), rfl⟩, List.forall_mem_cons.mpr ⟨List.mem_filter.mpr ⟨(List.mem_append_right _ (List.mem_of_getElem? (i := 172) rfl)), rfl⟩, List.forall_mem_cons.mpr ⟨List.mem_filter.mpr ⟨(List.mem_append_right _ (List.mem_of_getElem? (i := 174) rfl)), rfl⟩, List.forall_mem_cons.mpr ⟨List.mem_filter.mpr ⟨(List.mem_append_right _ (List.mem_of_getElem? (i := 176) rfl)), rfl⟩, List.forall_mem_cons.mpr ⟨List.mem_filter.mpr ⟨(List.mem_append_right _ (List.mem_of_getElem? (i := 178) rfl)), rfl⟩, List.forall_mem_cons.mpr ⟨List.mem_filter.mpr ⟨(List.mem_append_right _ (List.mem_of_getElem? (i := 180) rfl)), rfl⟩, List.forall_mem_cons.mpr ⟨List.mem_filter.mpr ⟨(List.mem_append_right _ (List.mem_of_getElem? (i := 182) rfl)), rfl⟩, fun _ h => absurd h List.not_mem_nil⟩⟩⟩⟩⟩⟩⟩⟩
set_option maxRecDepth 100000 in
theorem hin_Flight : ∀ w ∈ u_ws "LossyHandshake$Flight" F_Flight 5, w ∈ tW := by
  show ∀ w ∈ [Cond.laysFinal "LossyHandshake$Flight" "LossyHandshake$Flight" "fragments" "[LLossyHandshake$Fragment;", Cond.lays "LossyHandshake$Flight" "LossyHandshake$Flight" "count" "I", Cond.lays "LossyHandshake$Flight" "LossyHandshake$Flight" "waitLength" "I", Cond.lays "LossyHandshake$Flight" "LossyHandshake$Flight" "ticksLeft" "I", Cond.lays "LossyHandshake$Flight" "LossyHandshake$Flight" "resends" "I"], w ∈ tW
  exact List.forall_mem_cons.mpr ⟨List.mem_filter.mpr ⟨(List.mem_append_right _ (List.mem_of_getElem? (i := 193) rfl)), rfl⟩, List.forall_mem_cons.mpr ⟨List.mem_filter.mpr ⟨(List.mem_append_right _ (List.mem_of_getElem? (i := 195) rfl)), rfl⟩, List.forall_mem_cons.mpr ⟨List.mem_filter.mpr ⟨(List.mem_append_right _ (List.mem_of_getElem? (i := 197) rfl)), rfl⟩, List.forall_mem_cons.mpr ⟨List.mem_filter.mpr ⟨(List.mem_append_right _ (List.mem_of_getElem? (i := 199) rfl)), rfl⟩, List.forall_mem_cons.mpr ⟨List.mem_filter.mpr ⟨(List.mem_append_right _ (List.mem_of_getElem? (i := 201) rfl)), rfl⟩, fun _ h => absurd h List.not_mem_nil⟩⟩⟩⟩⟩
set_option maxRecDepth 100000 in
theorem hin_Rec : ∀ w ∈ u_ws "LossyHandshake$NetRecord" F_Rec 9, w ∈ tW := by
  show ∀ w ∈ [Cond.laysFinal "LossyHandshake$NetRecord" "LossyHandshake$NetRecord" "load" "[I", Cond.lays "LossyHandshake$NetRecord" "LossyHandshake$NetRecord" "length" "I", Cond.lays "LossyHandshake$NetRecord" "LossyHandshake$NetRecord" "from" "I", Cond.lays "LossyHandshake$NetRecord" "LossyHandshake$NetRecord" "kind" "I", Cond.lays "LossyHandshake$NetRecord" "LossyHandshake$NetRecord" "epoch" "I", Cond.lays "LossyHandshake$NetRecord" "LossyHandshake$NetRecord" "number" "I", Cond.lays "LossyHandshake$NetRecord" "LossyHandshake$NetRecord" "message" "I", Cond.lays "LossyHandshake$NetRecord" "LossyHandshake$NetRecord" "offset" "I", Cond.lays "LossyHandshake$NetRecord" "LossyHandshake$NetRecord" "isSpoilt" "Z"], w ∈ tW
  exact List.forall_mem_cons.mpr ⟨List.mem_filter.mpr ⟨(List.mem_append_right _ (List.mem_of_getElem? (i := 71) rfl)), rfl⟩, List.forall_mem_cons.mpr ⟨List.mem_filter.mpr ⟨(List.mem_append_right _ (List.mem_of_getElem? (i := 73) rfl)), rfl⟩, List.forall_mem_cons.mpr ⟨List.mem_filter.mpr ⟨(List.mem_append_right _ (List.mem_of_getElem? (i := 75) rfl)), rfl⟩, List.forall_mem_cons.mpr ⟨List.mem_filter.mpr ⟨(List.mem_append_right _ (List.mem_of_getElem? (i := 77) rfl)), rfl⟩, List.forall_mem_cons.mpr ⟨List.mem_filter.mpr ⟨(List.mem_append_right _ (List.mem_of_getElem? (i := 79) rfl)), rfl⟩, List.forall_mem_cons.mpr ⟨List.mem_filter.mpr ⟨(List.mem_append_right _ (List.mem_of_getElem? (i := 81) rfl)), rfl⟩, List.forall_mem_cons.mpr ⟨List.mem_filter.mpr ⟨(List.mem_append_right _ (List.mem_of_getElem? (i := 83) rfl)), rfl⟩, List.forall_mem_cons.mpr ⟨List.mem_filter.mpr ⟨(List.mem_append_right _ (List.mem_of_getElem? (i := 85) rfl)), rfl⟩, List.forall_mem_cons.mpr ⟨List.mem_filter.mpr ⟨(List.mem_append_right _ (List.mem_of_getElem? (i := 87) rfl)), rfl⟩, fun _ h => absurd h List.not_mem_nil⟩⟩⟩⟩⟩⟩⟩⟩⟩
set_option maxRecDepth 100000 in
theorem hin_Net : ∀ w ∈ u_ws "LossyHandshake$Net" F_Net 6, w ∈ tW := by
  show ∀ w ∈ [Cond.laysFinal "LossyHandshake$Net" "LossyHandshake$Net" "rows" "[LLossyHandshake$NetRecord;", Cond.lays "LossyHandshake$Net" "LossyHandshake$Net" "takenRow" "LLossyHandshake$NetRecord;", Cond.laysFinal "LossyHandshake$Net" "LossyHandshake$Net" "lostRow" "LLossyHandshake$NetRecord;", Cond.lays "LossyHandshake$Net" "LossyHandshake$Net" "count" "I", Cond.lays "LossyHandshake$Net" "LossyHandshake$Net" "lostCount" "I", Cond.lays "LossyHandshake$Net" "LossyHandshake$Net" "sentCount" "I"], w ∈ tW
  exact List.forall_mem_cons.mpr ⟨List.mem_filter.mpr ⟨(List.mem_append_right _ (List.mem_of_getElem? (i := 101) rfl)), rfl⟩, List.forall_mem_cons.mpr ⟨List.mem_filter.mpr ⟨(List.mem_append_right _ (List.mem_of_getElem? (i := 103) rfl)), rfl⟩, List.forall_mem_cons.mpr ⟨List.mem_filter.mpr ⟨(List.mem_append_right _ (List.mem_of_getElem? (i := 105) rfl)), rfl⟩, List.forall_mem_cons.mpr ⟨List.mem_filter.mpr ⟨(List.mem_append_right _ (List.mem_of_getElem? (i := 107) rfl)), rfl⟩, List.forall_mem_cons.mpr ⟨List.mem_filter.mpr ⟨(List.mem_append_right _ (List.mem_of_getElem? (i := 109) rfl)), rfl⟩, List.forall_mem_cons.mpr ⟨List.mem_filter.mpr ⟨(List.mem_append_right _ (List.mem_of_getElem? (i := 111) rfl)), rfl⟩, fun _ h => absurd h List.not_mem_nil⟩⟩⟩⟩⟩⟩
set_option maxRecDepth 100000 in
theorem hin_Win : ∀ w ∈ u_ws "LossyHandshake$Window" F_Win 2, w ∈ tW := by
  show ∀ w ∈ [Cond.lays "LossyHandshake$Window" "LossyHandshake$Window" "greatest" "I", Cond.lays "LossyHandshake$Window" "LossyHandshake$Window" "seen" "I"], w ∈ tW
  exact List.forall_mem_cons.mpr ⟨List.mem_filter.mpr ⟨(List.mem_append_right _ (List.mem_of_getElem? (i := 211) rfl)), rfl⟩, List.forall_mem_cons.mpr ⟨List.mem_filter.mpr ⟨(List.mem_append_right _ (List.mem_of_getElem? (i := 213) rfl)), rfl⟩, fun _ h => absurd h List.not_mem_nil⟩⟩
set_option maxRecDepth 100000 in
theorem hin_Noted : ∀ w ∈ u_ws "LossyHandshake$Noted" F_Noted 2, w ∈ tW := by
  show ∀ w ∈ [Cond.laysFinal "LossyHandshake$Noted" "LossyHandshake$Noted" "names" "[I", Cond.lays "LossyHandshake$Noted" "LossyHandshake$Noted" "count" "I"], w ∈ tW
  exact List.forall_mem_cons.mpr ⟨List.mem_filter.mpr ⟨(List.mem_append_right _ (List.mem_of_getElem? (i := 133) rfl)), rfl⟩, List.forall_mem_cons.mpr ⟨List.mem_filter.mpr ⟨(List.mem_append_right _ (List.mem_of_getElem? (i := 135) rfl)), rfl⟩, fun _ h => absurd h List.not_mem_nil⟩⟩
set_option maxRecDepth 100000 in
theorem hin_Asm : ∀ w ∈ u_ws "LossyHandshake$Assembly" F_Asm 3, w ∈ tW := by
  show ∀ w ∈ [Cond.laysFinal "LossyHandshake$Assembly" "LossyHandshake$Assembly" "starts" "[I", Cond.laysFinal "LossyHandshake$Assembly" "LossyHandshake$Assembly" "bytes" "[I", Cond.lays "LossyHandshake$Assembly" "LossyHandshake$Assembly" "next" "I"], w ∈ tW
  exact List.forall_mem_cons.mpr ⟨List.mem_filter.mpr ⟨(List.mem_append_right _ (List.mem_of_getElem? (i := 259) rfl)), rfl⟩, List.forall_mem_cons.mpr ⟨List.mem_filter.mpr ⟨(List.mem_append_right _ (List.mem_of_getElem? (i := 261) rfl)), rfl⟩, List.forall_mem_cons.mpr ⟨List.mem_filter.mpr ⟨(List.mem_append_right _ (List.mem_of_getElem? (i := 263) rfl)), rfl⟩, fun _ h => absurd h List.not_mem_nil⟩⟩⟩
set_option maxRecDepth 100000 in
theorem hin_Client : ∀ w ∈ u_ws "LossyHandshake$Client" F_Client 19, w ∈ tW := by
  show ∀ w ∈ [Cond.laysFinal "LossyHandshake$Client" "LossyHandshake$Side" "self" "I", Cond.laysFinal "LossyHandshake$Client" "LossyHandshake$Side" "mtu" "I", Cond.laysFinal "LossyHandshake$Client" "LossyHandshake$Side" "net" "LLossyHandshake$Net;", Cond.laysFinal "LossyHandshake$Client" "LossyHandshake$Side" "flight" "LLossyHandshake$Flight;", Cond.laysFinal "LossyHandshake$Client" "LossyHandshake$Side" "noted" "LLossyHandshake$Noted;", Cond.laysFinal "LossyHandshake$Client" "LossyHandshake$Side" "windows" "[LLossyHandshake$Window;", Cond.laysFinal "LossyHandshake$Client" "LossyHandshake$Side" "nextNumbers" "[I", Cond.laysFinal "LossyHandshake$Client" "LossyHandshake$Side" "values" "[I", Cond.lays "LossyHandshake$Client" "LossyHandshake$Side" "valueCount" "I", Cond.lays "LossyHandshake$Client" "LossyHandshake$Side" "state" "I", Cond.lays "LossyHandshake$Client" "LossyHandshake$Side" "transcript" "I", Cond.lays "LossyHandshake$Client" "LossyHandshake$Side" "writes" "I", Cond.lays "LossyHandshake$Client" "LossyHandshake$Side" "reads" "I", Cond.lays "LossyHandshake$Client" "LossyHandshake$Side" "ackDueIn" "I", Cond.laysFinal "LossyHandshake$Client" "LossyHandshake$Client" "ownNumber" "I", Cond.laysFinal "LossyHandshake$Client" "LossyHandshake$Client" "hello" "LLossyHandshake$Message;", Cond.laysFinal "LossyHandshake$Client" "LossyHandshake$Client" "helloAgain" "LLossyHandshake$Message;", Cond.laysFinal "LossyHandshake$Client" "LossyHandshake$Client" "done" "LLossyHandshake$Message;", Cond.laysFinal "LossyHandshake$Client" "LossyHandshake$Client" "assembly" "LLossyHandshake$Assembly;"], w ∈ tW
  exact List.forall_mem_cons.mpr ⟨List.mem_filter.mpr ⟨(List.mem_append_right _ (List.mem_of_getElem? (i := 337) rfl)), rfl⟩, List.forall_mem_cons.mpr ⟨List.mem_filter.mpr ⟨(List.mem_append_right _ (List.mem_of_getElem? (i := 339) rfl)), rfl⟩, List.forall_mem_cons.mpr ⟨List.mem_filter.mpr ⟨(List.mem_append_right _ (List.mem_of_getElem? (i := 341) rfl)), rfl⟩, List.forall_mem_cons.mpr ⟨List.mem_filter.mpr ⟨(List.mem_append_right _ (List.mem_of_getElem? (i := 343) rfl)), rfl⟩, List.forall_mem_cons.mpr ⟨List.mem_filter.mpr ⟨(List.mem_append_right _ (List.mem_of_getElem? (i := 345) rfl)), rfl⟩, List.forall_mem_cons.mpr ⟨List.mem_filter.mpr ⟨(List.mem_append_right _ (List.mem_of_getElem? (i := 347) rfl)), rfl⟩, List.forall_mem_cons.mpr ⟨List.mem_filter.mpr ⟨(List.mem_append_right _ (List.mem_of_getElem? (i := 349) rfl)), rfl⟩, List.forall_mem_cons.mpr ⟨List.mem_filter.mpr ⟨(List.mem_append_right _ (List.mem_of_getElem? (i := 351) rfl)), rfl⟩, List.forall_mem_cons.mpr ⟨List.mem_filter.mpr ⟨(List.mem_append_right _ (List.mem_of_getElem? (i := 353) rfl)), rfl⟩, List.forall_mem_cons.mpr ⟨List.mem_filter.mpr ⟨(List.mem_append_right _ (List.mem_of_getElem? (i := 355) rfl)), rfl⟩, List.forall_mem_cons.mpr ⟨List.mem_filter.mpr ⟨(List.mem_append_right _ (List.mem_of_getElem? (i := 357) rfl)), rfl⟩, List.forall_mem_cons.mpr ⟨List.mem_filter.mpr ⟨(List.mem_append_right _ (List.mem_of_getElem? (i := 359) rfl)), rfl⟩, List.forall_mem_cons.mpr ⟨List.mem_filter.mpr ⟨(List.mem_append_right _ (List.mem_of_getElem? (i := 361) rfl)), rfl⟩, List.forall_mem_cons.mpr ⟨List.mem_filter.mpr ⟨(List.mem_append_right _ (List.mem_of_getElem? (i := 363) rfl)), rfl⟩, List.forall_mem_cons.mpr ⟨List.mem_filter.mpr ⟨(List.mem_append_right _ (List.mem_of_getElem? (i := 327) rfl)), rfl⟩, List.forall_mem_cons.mpr ⟨List.mem_filter.mpr ⟨(List.mem_append_right _ (List.mem_of_getElem? (i := 329) rfl)), rfl⟩, List.forall_mem_cons.mpr ⟨List.mem_filter.mpr ⟨(List.mem_append_right _ (List.mem_of_getElem? (i := 331) rfl)), rfl⟩, List.forall_mem_cons.mpr ⟨List.mem_filter.mpr ⟨(List.mem_append_right _ (List.mem_of_getElem? (i := 333) rfl)), rfl⟩, List.forall_mem_cons.mpr ⟨List.mem_filter.mpr ⟨(List.mem_append_right _ (List.mem_of_getElem? (i := 335) rfl)), rfl⟩, fun _ h => absurd h List.not_mem_nil⟩⟩⟩⟩⟩⟩⟩⟩⟩⟩⟩⟩⟩⟩⟩⟩⟩⟩⟩
set_option maxRecDepth 100000 in
theorem hin_Server : ∀ w ∈ u_ws "LossyHandshake$Server" F_Server 20, w ∈ tW := by
  show ∀ w ∈ [Cond.laysFinal "LossyHandshake$Server" "LossyHandshake$Side" "self" "I", Cond.laysFinal "LossyHandshake$Server" "LossyHandshake$Side" "mtu" "I", Cond.laysFinal "LossyHandshake$Server" "LossyHandshake$Side" "net" "LLossyHandshake$Net;", Cond.laysFinal "LossyHandshake$Server" "LossyHandshake$Side" "flight" "LLossyHandshake$Flight;", Cond.laysFinal "LossyHandshake$Server" "LossyHandshake$Side" "noted" "LLossyHandshake$Noted;", Cond.laysFinal "LossyHandshake$Server" "LossyHandshake$Side" "windows" "[LLossyHandshake$Window;", Cond.laysFinal "LossyHandshake$Server" "LossyHandshake$Side" "nextNumbers" "[I", Cond.laysFinal "LossyHandshake$Server" "LossyHandshake$Side" "values" "[I", Cond.lays "LossyHandshake$Server" "LossyHandshake$Side" "valueCount" "I", Cond.lays "LossyHandshake$Server" "LossyHandshake$Side" "state" "I", Cond.lays "LossyHandshake$Server" "LossyHandshake$Side" "transcript" "I", Cond.lays "LossyHandshake$Server" "LossyHandshake$Side" "writes" "I", Cond.lays "LossyHandshake$Server" "LossyHandshake$Side" "reads" "I", Cond.lays "LossyHandshake$Server" "LossyHandshake$Side" "ackDueIn" "I", Cond.laysFinal "LossyHandshake$Server" "LossyHandshake$Server" "secret" "I", Cond.laysFinal "LossyHandshake$Server" "LossyHandshake$Server" "retry" "LLossyHandshake$Message;", Cond.laysFinal "LossyHandshake$Server" "LossyHandshake$Server" "answer" "LLossyHandshake$Message;", Cond.laysFinal "LossyHandshake$Server" "LossyHandshake$Server" "terms" "LLossyHandshake$Message;", Cond.laysFinal "LossyHandshake$Server" "LossyHandshake$Server" "proof" "LLossyHandshake$Message;", Cond.laysFinal "LossyHandshake$Server" "LossyHandshake$Server" "done" "LLossyHandshake$Message;"], w ∈ tW
  exact List.forall_mem_cons.mpr ⟨List.mem_filter.mpr ⟨(List.mem_append_right _ (List.mem_of_getElem? (i := 396) rfl)), rfl⟩, List.forall_mem_cons.mpr ⟨List.mem_filter.mpr ⟨(List.mem_append_right _ (List.mem_of_getElem? (i := 397) rfl)), rfl⟩, List.forall_mem_cons.mpr ⟨List.mem_filter.mpr ⟨(List.mem_append_right _ (List.mem_of_getElem? (i := 398) rfl)), rfl⟩, List.forall_mem_cons.mpr ⟨List.mem_filter.mpr ⟨(List.mem_append_right _ (List.mem_of_getElem? (i := 399) rfl)), rfl⟩, List.forall_mem_cons.mpr ⟨List.mem_filter.mpr ⟨(List.mem_append_right _ (List.mem_of_getElem? (i := 400) rfl)), rfl⟩, List.forall_mem_cons.mpr ⟨List.mem_filter.mpr ⟨(List.mem_append_right _ (List.mem_of_getElem? (i := 401) rfl)), rfl⟩, List.forall_mem_cons.mpr ⟨List.mem_filter.mpr ⟨(List.mem_append_right _ (List.mem_of_getElem? (i := 402) rfl)), rfl⟩, List.forall_mem_cons.mpr ⟨List.mem_filter.mpr ⟨(List.mem_append_right _ (List.mem_of_getElem? (i := 403) rfl)), rfl⟩, List.forall_mem_cons.mpr ⟨List.mem_filter.mpr ⟨(List.mem_append_right _ (List.mem_of_getElem? (i := 404) rfl)), rfl⟩, List.forall_mem_cons.mpr ⟨List.mem_filter.mpr ⟨(List.mem_append_right _ (List.mem_of_getElem? (i := 405) rfl)), rfl⟩, List.forall_mem_cons.mpr ⟨List.mem_filter.mpr ⟨(List.mem_append_right _ (List.mem_of_getElem? (i := 406) rfl)), rfl⟩, List.forall_mem_cons.mpr ⟨List.mem_filter.mpr ⟨(List.mem_append_right _ (List.mem_of_getElem? (i := 407) rfl)), rfl⟩, List.forall_mem_cons.mpr ⟨List.mem_filter.mpr ⟨(List.mem_append_right _ (List.mem_of_getElem? (i := 408) rfl)), rfl⟩, List.forall_mem_cons.mpr ⟨List.mem_filter.mpr ⟨(List.mem_append_right _ (List.mem_of_getElem? (i := 409) rfl)), rfl⟩, List.forall_mem_cons.mpr ⟨List.mem_filter.mpr ⟨(List.mem_append_right _ (List.mem_of_getElem? (i := 384) rfl)), rfl⟩, List.forall_mem_cons.mpr ⟨List.mem_filter.mpr ⟨(List.mem_append_right _ (List.mem_of_getElem? (i := 386) rfl)), rfl⟩, List.forall_mem_cons.mpr ⟨List.mem_filter.mpr ⟨(List.mem_append_right _ (List.mem_of_getElem? (i := 388) rfl)), rfl⟩, List.forall_mem_cons.mpr ⟨List.mem_filter.mpr ⟨(List.mem_append_right _ (List.mem_of_getElem? (i := 390) rfl)), rfl⟩, List.forall_mem_cons.mpr ⟨List.mem_filter.mpr ⟨(List.mem_append_right _ (List.mem_of_getElem? (i := 392) rfl)), rfl⟩, List.forall_mem_cons.mpr ⟨List.mem_filter.mpr ⟨(List.mem_append_right _ (List.mem_of_getElem? (i := 394) rfl)), rfl⟩, fun _ h => absurd h List.not_mem_nil⟩⟩⟩⟩⟩⟩⟩⟩⟩⟩⟩⟩⟩⟩⟩⟩⟩⟩⟩⟩
set_option maxRecDepth 100000 in
theorem hin_X : ∀ w ∈ u_ws "LossyHandshake" F_X 3, w ∈ tW := by
  show ∀ w ∈ [Cond.laysFinal "LossyHandshake" "LossyHandshake" "net" "LLossyHandshake$Net;", Cond.laysFinal "LossyHandshake" "LossyHandshake" "client" "LLossyHandshake$Client;", Cond.laysFinal "LossyHandshake" "LossyHandshake" "server" "LLossyHandshake$Server;"], w ∈ tW
  exact List.forall_mem_cons.mpr ⟨List.mem_filter.mpr ⟨(List.mem_append_right _ (List.mem_of_getElem? (i := 414) rfl)), rfl⟩, List.forall_mem_cons.mpr ⟨List.mem_filter.mpr ⟨(List.mem_append_right _ (List.mem_of_getElem? (i := 416) rfl)), rfl⟩, List.forall_mem_cons.mpr ⟨List.mem_filter.mpr ⟨(List.mem_append_right _ (List.mem_of_getElem? (i := 418) rfl)), rfl⟩, fun _ h => absurd h List.not_mem_nil⟩⟩⟩
set_option maxRecDepth 100000 in
theorem hin_Mo : ∀ w ∈ u_ws "LossyHandshakeModel" F_Mo 44, w ∈ tW := by
  show ∀ w ∈ [Cond.laysFinal "LossyHandshakeModel" "LossyHandshakeModel" "mtu" "I", Cond.laysFinal "LossyHandshakeModel" "LossyHandshakeModel" "proof" "I", Cond.laysFinal "LossyHandshakeModel" "LossyHandshakeModel" "\x72" "I", Cond.laysFinal "LossyHandshakeModel" "LossyHandshakeModel" "s" "I", Cond.laysFinal "LossyHandshakeModel" "LossyHandshakeModel" "cookie" "I", Cond.lays "LossyHandshakeModel" "LossyHandshakeModel" "serverDone" "I", Cond.lays "LossyHandshakeModel" "LossyHandshakeModel" "clientDone" "I", Cond.lays "LossyHandshakeModel" "LossyHandshakeModel" "clock" "I", Cond.lays "LossyHandshakeModel" "LossyHandshakeModel" "count" "I", Cond.lays "LossyHandshakeModel" "LossyHandshakeModel" "lost" "I", Cond.lays "LossyHandshakeModel" "LossyHandshakeModel" "sent" "I", Cond.laysFinal "LossyHandshakeModel" "LossyHandshakeModel" "from" "[I", Cond.laysFinal "LossyHandshakeModel" "LossyHandshakeModel" "kind" "[I", Cond.laysFinal "LossyHandshakeModel" "LossyHandshakeModel" "epoch" "[I", Cond.laysFinal "LossyHandshakeModel" "LossyHandshakeModel" "number" "[I", Cond.laysFinal "LossyHandshakeModel" "LossyHandshakeModel" "spoilt" "[Z", Cond.laysFinal "LossyHandshakeModel" "LossyHandshakeModel" "what" "[I", Cond.laysFinal "LossyHandshakeModel" "LossyHandshakeModel" "offset" "[I", Cond.laysFinal "LossyHandshakeModel" "LossyHandshakeModel" "length" "[I", Cond.laysFinal "LossyHandshakeModel" "LossyHandshakeModel" "nameEpoch" "[I", Cond.laysFinal "LossyHandshakeModel" "LossyHandshakeModel" "nameNumber" "[I", Cond.laysFinal "LossyHandshakeModel" "LossyHandshakeModel" "state" "[I", Cond.laysFinal "LossyHandshakeModel" "LossyHandshakeModel" "through" "[I", Cond.laysFinal "LossyHandshakeModel" "LossyHandshakeModel" "next" "[I", Cond.laysFinal "LossyHandshakeModel" "LossyHandshakeModel" "greatest" "[I", Cond.laysFinal "LossyHandshakeModel" "LossyHandshakeModel" "letIn" "[I", Cond.laysFinal "LossyHandshakeModel" "LossyHandshakeModel" "noted" "[I", Cond.laysFinal "LossyHandshakeModel" "LossyHandshakeModel" "noteEpoch" "[I", Cond.laysFinal "LossyHandshakeModel" "LossyHandshakeModel" "noteNumber" "[I", Cond.laysFinal "LossyHandshakeModel" "LossyHandshakeModel" "ackDue" "[I", Cond.laysFinal "LossyHandshakeModel" "LossyHandshakeModel" "pieces" "[I", Cond.laysFinal "LossyHandshakeModel" "LossyHandshakeModel" "pieceOf" "[I", Cond.laysFinal "LossyHandshakeModel" "LossyHandshakeModel" "pieceAt" "[I", Cond.laysFinal "LossyHandshakeModel" "LossyHandshakeModel" "isOpen" "[Z", Cond.laysFinal "LossyHandshakeModel" "LossyHandshakeModel" "times" "[I", Cond.laysFinal "LossyHandshakeModel" "LossyHandshakeModel" "wentEpoch" "[I", Cond.laysFinal "LossyHandshakeModel" "LossyHandshakeModel" "wentNumber" "[I", Cond.laysFinal "LossyHandshakeModel" "LossyHandshakeModel" "wentPiece" "[I", Cond.laysFinal "LossyHandshakeModel" "LossyHandshakeModel" "wait" "[I", Cond.laysFinal "LossyHandshakeModel" "LossyHandshakeModel" "until" "[I", Cond.laysFinal "LossyHandshakeModel" "LossyHandshakeModel" "again" "[I", Cond.laysFinal "LossyHandshakeModel" "LossyHandshakeModel" "has" "[Z", Cond.laysFinal "LossyHandshakeModel" "LossyHandshakeModel" "values" "[I", Cond.laysFinal "LossyHandshakeModel" "LossyHandshakeModel" "received" "[I"], w ∈ tW
  exact List.forall_mem_cons.mpr ⟨List.mem_filter.mpr ⟨(List.mem_append_right _ (List.mem_of_getElem? (i := 920) rfl)), rfl⟩, List.forall_mem_cons.mpr ⟨List.mem_filter.mpr ⟨(List.mem_append_right _ (List.mem_of_getElem? (i := 922) rfl)), rfl⟩, List.forall_mem_cons.mpr ⟨List.mem_filter.mpr ⟨(List.mem_append_right _ (List.mem_of_getElem? (i := 924) rfl)), rfl⟩, List.forall_mem_cons.mpr ⟨List.mem_filter.mpr ⟨(List.mem_append_right _ (List.mem_of_getElem? (i := 926) rfl)), rfl⟩, List.forall_mem_cons.mpr ⟨List.mem_filter.mpr ⟨(List.mem_append_right _ (List.mem_of_getElem? (i := 928) rfl)), rfl⟩, List.forall_mem_cons.mpr ⟨List.mem_filter.mpr ⟨(List.mem_append_right _ (List.mem_of_getElem? (i := 930) rfl)), rfl⟩, List.forall_mem_cons.mpr ⟨List.mem_filter.mpr ⟨(List.mem_append_right _ (List.mem_of_getElem? (i := 932) rfl)), rfl⟩, List.forall_mem_cons.mpr ⟨List.mem_filter.mpr ⟨(List.mem_append_right _ (List.mem_of_getElem? (i := 934) rfl)), rfl⟩, List.forall_mem_cons.mpr ⟨List.mem_filter.mpr ⟨(List.mem_append_right _ (List.mem_of_getElem? (i := 936) rfl)), rfl⟩, List.forall_mem_cons.mpr ⟨List.mem_filter.mpr ⟨(List.mem_append_right _ (List.mem_of_getElem? (i := 938) rfl)), rfl⟩, List.forall_mem_cons.mpr ⟨List.mem_filter.mpr ⟨(List.mem_append_right _ (List.mem_of_getElem? (i := 940) rfl)), rfl⟩, List.forall_mem_cons.mpr ⟨List.mem_filter.mpr ⟨(List.mem_append_right _ (List.mem_of_getElem? (i := 942) rfl)), rfl⟩, List.forall_mem_cons.mpr ⟨List.mem_filter.mpr ⟨(List.mem_append_right _ (List.mem_of_getElem? (i := 944) rfl)), rfl⟩, List.forall_mem_cons.mpr ⟨List.mem_filter.mpr ⟨(List.mem_append_right _ (List.mem_of_getElem? (i := 946) rfl)), rfl⟩, List.forall_mem_cons.mpr ⟨List.mem_filter.mpr ⟨(List.mem_append_right _ (List.mem_of_getElem? (i := 948) rfl)), rfl⟩, List.forall_mem_cons.mpr ⟨List.mem_filter.mpr ⟨(List.mem_append_right _ (List.mem_of_getElem? (i := 950) rfl)), rfl⟩, List.forall_mem_cons.mpr ⟨List.mem_filter.mpr ⟨(List.mem_append_right _ (List.mem_of_getElem? (i := 952) rfl)), rfl⟩, List.forall_mem_cons.mpr ⟨List.mem_filter.mpr ⟨(List.mem_append_right _ (List.mem_of_getElem? (i := 954) rfl)), rfl⟩, List.forall_mem_cons.mpr ⟨List.mem_filter.mpr ⟨(List.mem_append_right _ (List.mem_of_getElem? (i := 956) rfl)), rfl⟩, List.forall_mem_cons.mpr ⟨List.mem_filter.mpr ⟨(List.mem_append_right _ (List.mem_of_getElem? (i := 958) rfl)), rfl⟩, List.forall_mem_cons.mpr ⟨List.mem_filter.mpr ⟨(List.mem_append_right _ (List.mem_of_getElem? (i := 960) rfl)), rfl⟩, List.forall_mem_cons.mpr ⟨List.mem_filter.mpr ⟨(List.mem_append_right _ (List.mem_of_getElem? (i := 962) rfl)), rfl⟩, List.forall_mem_cons.mpr ⟨List.mem_filter.mpr ⟨(List.mem_append_right _ (List.mem_of_getElem? (i := 964) rfl)), rfl⟩, List.forall_mem_cons.mpr ⟨List.mem_filter.mpr ⟨(List.mem_append_right _ (List.mem_of_getElem? (i := 966) rfl)), rfl⟩, List.forall_mem_cons.mpr ⟨List.mem_filter.mpr ⟨(List.mem_append_right _ (List.mem_of_getElem? (i := 968) rfl)), rfl⟩, List.forall_mem_cons.mpr ⟨List.mem_filter.mpr ⟨(List.mem_append_right _ (List.mem_of_getElem? (i := 970) rfl)), rfl⟩, List.forall_mem_cons.mpr ⟨List.mem_filter.mpr ⟨(List.mem_append_right _ (List.mem_of_getElem? (i := 972) rfl)), rfl⟩, List.forall_mem_cons.mpr ⟨List.mem_filter.mpr ⟨(List.mem_append_right _ (List.mem_of_getElem? (i := 974) rfl)), rfl⟩, List.forall_mem_cons.mpr ⟨List.mem_filter.mpr ⟨(List.mem_append_right _ (List.mem_of_getElem? (i := 976) rfl)), rfl⟩, List.forall_mem_cons.mpr ⟨List.mem_filter.mpr ⟨(List.mem_append_right _ (List.mem_of_getElem? (i := 978) rfl)), rfl⟩, List.forall_mem_cons.mpr ⟨List.mem_filter.mpr ⟨(List.mem_append_right _ (List.mem_of_getElem? (i := 980) rfl)), rfl⟩, List.forall_mem_cons.mpr ⟨List.mem_filter.mpr ⟨(List.mem_append_right _ (List.mem_of_getElem? (i := 982) rfl)), rfl⟩, List.forall_mem_cons.mpr ⟨List.mem_filter.mpr ⟨(List.mem_append_right _ (List.mem_of_getElem? (i := 984) rfl)), rfl⟩, List.forall_mem_cons.mpr ⟨List.mem_filter.mpr ⟨(List.mem_append_right _ (List.mem_of_getElem? (i := 986) rfl)), rfl⟩, List.forall_mem_cons.mpr ⟨List.mem_filter.mpr ⟨(List.mem_append_right _ (List.mem_of_getElem? (i := 988) rfl)), rfl⟩, List.forall_mem_cons.mpr ⟨List.mem_filter.mpr ⟨(List.mem_append_right _ (List.mem_of_getElem? (i := 990) rfl)), rfl⟩, List.forall_mem_cons.mpr ⟨List.mem_filter.mpr ⟨(List.mem_append_right _ (List.mem_of_getElem? (i := 992) rfl)), rfl⟩, List.forall_mem_cons.mpr ⟨List.mem_filter.mpr ⟨(List.mem_append_right _ (List.mem_of_getElem? (i := 994) rfl)), rfl⟩, List.forall_mem_cons.mpr ⟨List.mem_filter.mpr ⟨(List.mem_append_right _ (List.mem_of_getElem? (i := 996) rfl)), rfl⟩, List.forall_mem_cons.mpr ⟨List.mem_filter.mpr ⟨(List.mem_append_right _ (List.mem_of_getElem? (i := 998) rfl)), rfl⟩, List.forall_mem_cons.mpr ⟨List.mem_filter.mpr ⟨(List.mem_append_right _ (List.mem_of_getElem? (i := 1000) rfl)), rfl⟩, List.forall_mem_cons.mpr ⟨List.mem_filter.mpr ⟨(List.mem_append_right _ (List.mem_of_getElem? (i := 1002) rfl)), rfl⟩, List.forall_mem_cons.mpr ⟨List.mem_filter.mpr ⟨(List.mem_append_right _ (List.mem_of_getElem? (i := 1004) rfl)), rfl⟩, List.forall_mem_cons.mpr ⟨List.mem_filter.mpr ⟨(List.mem_append_right _ (List.mem_of_getElem? (i := 1006) rfl)), rfl⟩, fun _ h => absurd h List.not_mem_nil⟩⟩⟩⟩⟩⟩⟩⟩⟩⟩⟩⟩⟩⟩⟩⟩⟩⟩⟩⟩⟩⟩⟩⟩⟩⟩⟩⟩⟩⟩⟩⟩⟩⟩⟩⟩⟩⟩⟩⟩⟩⟩⟩⟩
