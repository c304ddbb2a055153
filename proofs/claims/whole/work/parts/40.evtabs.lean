/-! Tables for the small machine: sorts, kinds, methods. Written by a program (wip/tools/gen41.py). -/
def ct_T0 : u_T := fun k => match k with
  | 0 => ("TrustedMachine", "memory", "LTrustedMachine$Memory;", true)
  | 1 => ("TrustedMachine", "applets", "[LTrustedMachine$Applet;", true)
  | 2 => ("TrustedMachine", "sha", "LTrustedMachine$Sha256;", true)
  | 3 => ("TrustedMachine", "cipher", "LTrustedMachine$Cipher;", true)
  | 4 => ("TrustedMachine", "vault", "LTrustedMachine$Vault;", true)
  | 5 => ("TrustedMachine", "codes", "LTrustedMachine$Codes;", true)
  | 6 => ("TrustedMachine", "monitor", "LTrustedMachine$Monitor;", true)
  | 7 => ("TrustedMachine", "tape", "[B", true)
  | 8 => ("TrustedMachine", "fed", "I", false)
  | 9 => ("TrustedMachine", "booted", "Z", false)
  | 10 => ("TrustedMachine", "registers", "[I", true)
  | 11 => ("TrustedMachine", "place", "I", false)
  | _ => ("TrustedMachine", "state", "I", false)
def ct_y0 : Nat → FieldType := fun k => match k with
  | 0 => .object "TrustedMachine$Memory"
  | 1 => .array (.object "TrustedMachine$Applet")
  | 2 => .object "TrustedMachine$Sha256"
  | 3 => .object "TrustedMachine$Cipher"
  | 4 => .object "TrustedMachine$Vault"
  | 5 => .object "TrustedMachine$Codes"
  | 6 => .object "TrustedMachine$Monitor"
  | 7 => .array .byte
  | 8 => .int
  | 9 => .boolean
  | 10 => .array .int
  | 11 => .int
  | _ => .int
def ct_d0 : List (Nat × Nat × Nat) := [(3, 0, 0), (3, 0, 0), (3, 0, 0), (3, 0, 0), (3, 0, 0), (3, 0, 0), (3, 0, 0), (3, 0, 0), (0, 2147483648, 2147483648), (0, 2147483648, 2147483648), (3, 0, 0), (0, 2147483648, 2147483648), (0, 2147483648, 2147483648)]
def ct_T1 : u_T := fun k => match k with
  | 0 => ("TrustedMachine$Memory", "bytes", "[B", true)
  | _ => ("TrustedMachine$Memory", "pages", "[I", true)
def ct_y1 : Nat → FieldType := fun k => match k with
  | 0 => .array .byte
  | _ => .array .int
def ct_d1 : List (Nat × Nat × Nat) := [(3, 0, 0), (3, 0, 0)]
def ct_T2 : u_T := fun k => match k with
  | 0 => ("TrustedMachine$Sha256", "state", "[I", true)
  | 1 => ("TrustedMachine$Sha256", "words", "[I", true)
  | 2 => ("TrustedMachine$Sha256", "tail", "[B", true)
  | 3 => ("TrustedMachine$Sha256", "pad", "[B", true)
  | _ => ("TrustedMachine$Sha256", "inner", "[B", true)
def ct_y2 : Nat → FieldType := fun k => match k with
  | 0 => .array .int
  | 1 => .array .int
  | 2 => .array .byte
  | 3 => .array .byte
  | _ => .array .byte
def ct_d2 : List (Nat × Nat × Nat) := [(3, 0, 0), (3, 0, 0), (3, 0, 0), (3, 0, 0), (3, 0, 0)]
def ct_T3 : u_T := fun k => match k with
  | 0 => ("TrustedMachine$Cipher", "key", "[B", true)
  | 1 => ("TrustedMachine$Cipher", "nonce", "[B", true)
  | 2 => ("TrustedMachine$Cipher", "start", "[I", true)
  | 3 => ("TrustedMachine$Cipher", "state", "[I", true)
  | 4 => ("TrustedMachine$Cipher", "oneTime", "[B", true)
  | 5 => ("TrustedMachine$Cipher", "text", "[B", true)
  | 6 => ("TrustedMachine$Cipher", "tag", "[B", true)
  | 7 => ("TrustedMachine$Cipher", "sum", "[J", true)
  | _ => ("TrustedMachine$Cipher", "factor", "[J", true)
def ct_y3 : Nat → FieldType := fun k => match k with
  | 0 => .array .byte
  | 1 => .array .byte
  | 2 => .array .int
  | 3 => .array .int
  | 4 => .array .byte
  | 5 => .array .byte
  | 6 => .array .byte
  | 7 => .array .long
  | _ => .array .long
def ct_d3 : List (Nat × Nat × Nat) := [(3, 0, 0), (3, 0, 0), (3, 0, 0), (3, 0, 0), (3, 0, 0), (3, 0, 0), (3, 0, 0), (3, 0, 0), (3, 0, 0)]
def ct_T4 : u_T := fun k => match k with
  | 0 => ("TrustedMachine$Vault", "sha", "LTrustedMachine$Sha256;", true)
  | 1 => ("TrustedMachine$Vault", "cipher", "LTrustedMachine$Cipher;", true)
  | 2 => ("TrustedMachine$Vault", "disk", "[[B", true)
  | 3 => ("TrustedMachine$Vault", "before", "[[B", true)
  | 4 => ("TrustedMachine$Vault", "digests", "[[B", true)
  | 5 => ("TrustedMachine$Vault", "forms", "[I", true)
  | 6 => ("TrustedMachine$Vault", "count", "I", false)
  | 7 => ("TrustedMachine$Vault", "root", "I", false)
  | 8 => ("TrustedMachine$Vault", "seal", "[B", true)
  | 9 => ("TrustedMachine$Vault", "least", "[I", true)
  | 10 => ("TrustedMachine$Vault", "power", "I", false)
  | 11 => ("TrustedMachine$Vault", "down", "Z", false)
  | 12 => ("TrustedMachine$Vault", "used", "[I", true)
  | 13 => ("TrustedMachine$Vault", "nodes", "[I", true)
  | 14 => ("TrustedMachine$Vault", "slots", "[I", true)
  | 15 => ("TrustedMachine$Vault", "fresh", "[I", true)
  | 16 => ("TrustedMachine$Vault", "page", "[B", true)
  | 17 => ("TrustedMachine$Vault", "latest", "I", false)
  | 18 => ("TrustedMachine$Vault", "found", "I", false)
  | _ => ("TrustedMachine$Vault", "room", "Z", false)
def ct_y4 : Nat → FieldType := fun k => match k with
  | 0 => .object "TrustedMachine$Sha256"
  | 1 => .object "TrustedMachine$Cipher"
  | 2 => .array (.array .byte)
  | 3 => .array (.array .byte)
  | 4 => .array (.array .byte)
  | 5 => .array .int
  | 6 => .int
  | 7 => .int
  | 8 => .array .byte
  | 9 => .array .int
  | 10 => .int
  | 11 => .boolean
  | 12 => .array .int
  | 13 => .array .int
  | 14 => .array .int
  | 15 => .array .int
  | 16 => .array .byte
  | 17 => .int
  | 18 => .int
  | _ => .boolean
def ct_d4 : List (Nat × Nat × Nat) := [(3, 0, 0), (3, 0, 0), (3, 0, 0), (3, 0, 0), (3, 0, 0), (3, 0, 0), (0, 2147483648, 2147483648), (0, 2147483648, 2147483648), (3, 0, 0), (3, 0, 0), (0, 2147483648, 2147483648), (0, 2147483648, 2147483648), (3, 0, 0), (3, 0, 0), (3, 0, 0), (3, 0, 0), (3, 0, 0), (0, 2147483648, 2147483648), (0, 2147483648, 2147483648), (0, 2147483648, 2147483648)]
def ct_T5 : u_T := fun k => match k with
  | 0 => ("TrustedMachine$Notes", "count", "I", false)
  | 1 => ("TrustedMachine$Notes", "names", "[[B", true)
  | 2 => ("TrustedMachine$Notes", "lengths", "[I", true)
  | 3 => ("TrustedMachine$Notes", "sizes", "[I", true)
  | _ => ("TrustedMachine$Notes", "bytes", "[[B", true)
def ct_y5 : Nat → FieldType := fun k => match k with
  | 0 => .int
  | 1 => .array (.array .byte)
  | 2 => .array .int
  | 3 => .array .int
  | _ => .array (.array .byte)
def ct_d5 : List (Nat × Nat × Nat) := [(0, 2147483648, 2147483648), (3, 0, 0), (3, 0, 0), (3, 0, 0), (3, 0, 0)]
def ct_T6 : u_T := fun k => match k with
  | 0 => ("TrustedMachine$Applet", "number", "I", true)
  | 1 => ("TrustedMachine$Applet", "memory", "LTrustedMachine$Memory;", true)
  | 2 => ("TrustedMachine$Applet", "digest", "[B", true)
  | 3 => ("TrustedMachine$Applet", "rights", "I", false)
  | 4 => ("TrustedMachine$Applet", "product", "I", false)
  | 5 => ("TrustedMachine$Applet", "version", "I", false)
  | 6 => ("TrustedMachine$Applet", "in", "Z", false)
  | 7 => ("TrustedMachine$Applet", "pages", "[I", true)
  | 8 => ("TrustedMachine$Applet", "pageCount", "I", false)
  | 9 => ("TrustedMachine$Applet", "code", "[B", true)
  | 10 => ("TrustedMachine$Applet", "codeLength", "I", false)
  | 11 => ("TrustedMachine$Applet", "beginnings", "[I", true)
  | 12 => ("TrustedMachine$Applet", "commands", "I", false)
  | 13 => ("TrustedMachine$Applet", "session", "I", false)
  | 14 => ("TrustedMachine$Applet", "stack", "[I", true)
  | 15 => ("TrustedMachine$Applet", "depth", "I", false)
  | 16 => ("TrustedMachine$Applet", "returns", "[I", true)
  | 17 => ("TrustedMachine$Applet", "returnCount", "I", false)
  | 18 => ("TrustedMachine$Applet", "place", "I", false)
  | _ => ("TrustedMachine$Applet", "notes", "LTrustedMachine$Notes;", true)
def ct_y6 : Nat → FieldType := fun k => match k with
  | 0 => .int
  | 1 => .object "TrustedMachine$Memory"
  | 2 => .array .byte
  | 3 => .int
  | 4 => .int
  | 5 => .int
  | 6 => .boolean
  | 7 => .array .int
  | 8 => .int
  | 9 => .array .byte
  | 10 => .int
  | 11 => .array .int
  | 12 => .int
  | 13 => .int
  | 14 => .array .int
  | 15 => .int
  | 16 => .array .int
  | 17 => .int
  | 18 => .int
  | _ => .object "TrustedMachine$Notes"
def ct_d6 : List (Nat × Nat × Nat) := [(0, 2147483648, 2147483648), (3, 0, 0), (3, 0, 0), (0, 2147483648, 2147483648), (0, 2147483648, 2147483648), (0, 2147483648, 2147483648), (0, 2147483648, 2147483648), (3, 0, 0), (0, 2147483648, 2147483648), (3, 0, 0), (0, 2147483648, 2147483648), (3, 0, 0), (0, 2147483648, 2147483648), (0, 2147483648, 2147483648), (3, 0, 0), (0, 2147483648, 2147483648), (3, 0, 0), (0, 2147483648, 2147483648), (0, 2147483648, 2147483648), (3, 0, 0)]
def ct_T7 : u_T := fun k => match k with
  | 0 => ("TrustedMachine$Session", "number", "I", true)
  | 1 => ("TrustedMachine$Session", "applets", "[LTrustedMachine$Applet;", true)
  | 2 => ("TrustedMachine$Session", "open", "Z", false)
  | 3 => ("TrustedMachine$Session", "owner", "I", false)
  | 4 => ("TrustedMachine$Session", "cancelled", "Z", false)
  | 5 => ("TrustedMachine$Session", "chain", "[I", true)
  | 6 => ("TrustedMachine$Session", "running", "I", false)
  | 7 => ("TrustedMachine$Session", "steps", "I", false)
  | 8 => ("TrustedMachine$Session", "keeper", "I", false)
  | 9 => ("TrustedMachine$Session", "told", "I", false)
  | 10 => ("TrustedMachine$Session", "sorts", "[I", true)
  | 11 => ("TrustedMachine$Session", "firsts", "[I", true)
  | 12 => ("TrustedMachine$Session", "seconds", "[I", true)
  | _ => ("TrustedMachine$Session", "bytes", "[[B", true)
def ct_y7 : Nat → FieldType := fun k => match k with
  | 0 => .int
  | 1 => .array (.object "TrustedMachine$Applet")
  | 2 => .boolean
  | 3 => .int
  | 4 => .boolean
  | 5 => .array .int
  | 6 => .int
  | 7 => .int
  | 8 => .int
  | 9 => .int
  | 10 => .array .int
  | 11 => .array .int
  | 12 => .array .int
  | _ => .array (.array .byte)
def ct_d7 : List (Nat × Nat × Nat) := [(0, 2147483648, 2147483648), (3, 0, 0), (0, 2147483648, 2147483648), (0, 2147483648, 2147483648), (0, 2147483648, 2147483648), (3, 0, 0), (0, 2147483648, 2147483648), (0, 2147483648, 2147483648), (0, 2147483648, 2147483648), (0, 2147483648, 2147483648), (3, 0, 0), (3, 0, 0), (3, 0, 0), (3, 0, 0)]
def ct_T8 : u_T := fun k => match k with
  | 0 => ("TrustedMachine$Curve", "t", "[[J", true)
  | 1 => ("TrustedMachine$Curve", "powers", "[[J", true)
  | 2 => ("TrustedMachine$Curve", "table", "[[J", true)
  | 3 => ("TrustedMachine$Curve", "entry", "[[J", true)
  | 4 => ("TrustedMachine$Curve", "ladder", "[[J", true)
  | _ => ("TrustedMachine$Curve", "number", "[B", true)
def ct_y8 : Nat → FieldType := fun k => match k with
  | 0 => .array (.array .long)
  | 1 => .array (.array .long)
  | 2 => .array (.array .long)
  | 3 => .array (.array .long)
  | 4 => .array (.array .long)
  | _ => .array .byte
def ct_d8 : List (Nat × Nat × Nat) := [(3, 0, 0), (3, 0, 0), (3, 0, 0), (3, 0, 0), (3, 0, 0), (3, 0, 0)]
def ct_T9 : u_T := fun k => match k with
  | 0 => ("TrustedMachine$Signer", "curve", "LTrustedMachine$Curve;", true)
  | 1 => ("TrustedMachine$Signer", "open", "[B", true)
  | 2 => ("TrustedMachine$Signer", "signature", "[B", true)
  | 3 => ("TrustedMachine$Signer", "sha", "LTrustedMachine$Sha256;", true)
  | 4 => ("TrustedMachine$Signer", "key", "[B", true)
  | 5 => ("TrustedMachine$Signer", "prepared", "Z", false)
  | 6 => ("TrustedMachine$Signer", "secret", "[B", true)
  | 7 => ("TrustedMachine$Signer", "hash", "[B", true)
  | 8 => ("TrustedMachine$Signer", "text", "[B", true)
  | 9 => ("TrustedMachine$Signer", "tail", "[B", true)
  | 10 => ("TrustedMachine$Signer", "state", "[J", true)
  | 11 => ("TrustedMachine$Signer", "words", "[J", true)
  | 12 => ("TrustedMachine$Signer", "digits", "[J", true)
  | 13 => ("TrustedMachine$Signer", "scalar", "[B", true)
  | 14 => ("TrustedMachine$Signer", "point", "[[J", true)
  | _ => ("TrustedMachine$Signer", "other", "[[J", true)
def ct_y9 : Nat → FieldType := fun k => match k with
  | 0 => .object "TrustedMachine$Curve"
  | 1 => .array .byte
  | 2 => .array .byte
  | 3 => .object "TrustedMachine$Sha256"
  | 4 => .array .byte
  | 5 => .boolean
  | 6 => .array .byte
  | 7 => .array .byte
  | 8 => .array .byte
  | 9 => .array .byte
  | 10 => .array .long
  | 11 => .array .long
  | 12 => .array .long
  | 13 => .array .byte
  | 14 => .array (.array .long)
  | _ => .array (.array .long)
def ct_d9 : List (Nat × Nat × Nat) := [(3, 0, 0), (3, 0, 0), (3, 0, 0), (3, 0, 0), (3, 0, 0), (0, 2147483648, 2147483648), (3, 0, 0), (3, 0, 0), (3, 0, 0), (3, 0, 0), (3, 0, 0), (3, 0, 0), (3, 0, 0), (3, 0, 0), (3, 0, 0), (3, 0, 0)]
def ct_T10 : u_T := fun k => match k with
  | 0 => ("TrustedMachine$Codes", "applets", "[LTrustedMachine$Applet;", true)
  | 1 => ("TrustedMachine$Codes", "sha", "LTrustedMachine$Sha256;", true)
  | 2 => ("TrustedMachine$Codes", "cipher", "LTrustedMachine$Cipher;", true)
  | 3 => ("TrustedMachine$Codes", "vault", "LTrustedMachine$Vault;", true)
  | 4 => ("TrustedMachine$Codes", "signer", "LTrustedMachine$Signer;", true)
  | 5 => ("TrustedMachine$Codes", "single", "LTrustedMachine$Notes;", true)
  | 6 => ("TrustedMachine$Codes", "name", "[B", true)
  | 7 => ("TrustedMachine$Codes", "work", "[B", true)
  | 8 => ("TrustedMachine$Codes", "small", "[B", true)
  | 9 => ("TrustedMachine$Codes", "session", "LTrustedMachine$Session;", false)
  | 10 => ("TrustedMachine$Codes", "me", "LTrustedMachine$Applet;", false)
  | 11 => ("TrustedMachine$Codes", "number", "I", false)
  | 12 => ("TrustedMachine$Codes", "operand", "I", false)
  | 13 => ("TrustedMachine$Codes", "base", "I", false)
  | 14 => ("TrustedMachine$Codes", "told", "I", false)
  | _ => ("TrustedMachine$Codes", "makes", "I", false)
def ct_y10 : Nat → FieldType := fun k => match k with
  | 0 => .array (.object "TrustedMachine$Applet")
  | 1 => .object "TrustedMachine$Sha256"
  | 2 => .object "TrustedMachine$Cipher"
  | 3 => .object "TrustedMachine$Vault"
  | 4 => .object "TrustedMachine$Signer"
  | 5 => .object "TrustedMachine$Notes"
  | 6 => .array .byte
  | 7 => .array .byte
  | 8 => .array .byte
  | 9 => .object "TrustedMachine$Session"
  | 10 => .object "TrustedMachine$Applet"
  | 11 => .int
  | 12 => .int
  | 13 => .int
  | 14 => .int
  | _ => .int
def ct_d10 : List (Nat × Nat × Nat) := [(3, 0, 0), (3, 0, 0), (3, 0, 0), (3, 0, 0), (3, 0, 0), (3, 0, 0), (3, 0, 0), (3, 0, 0), (3, 0, 0), (3, 0, 0), (3, 0, 0), (0, 2147483648, 2147483648), (0, 2147483648, 2147483648), (0, 2147483648, 2147483648), (0, 2147483648, 2147483648), (0, 2147483648, 2147483648)]
def ct_T11 : u_T := fun k => match k with
  | 0 => ("TrustedMachine$Monitor", "memory", "LTrustedMachine$Memory;", true)
  | 1 => ("TrustedMachine$Monitor", "applets", "[LTrustedMachine$Applet;", true)
  | 2 => ("TrustedMachine$Monitor", "sha", "LTrustedMachine$Sha256;", true)
  | 3 => ("TrustedMachine$Monitor", "vault", "LTrustedMachine$Vault;", true)
  | 4 => ("TrustedMachine$Monitor", "codes", "LTrustedMachine$Codes;", true)
  | 5 => ("TrustedMachine$Monitor", "signer", "LTrustedMachine$Signer;", true)
  | 6 => ("TrustedMachine$Monitor", "sessions", "[LTrustedMachine$Session;", true)
  | 7 => ("TrustedMachine$Monitor", "results", "[I", true)
  | 8 => ("TrustedMachine$Monitor", "buffer", "[B", true)
  | 9 => ("TrustedMachine$Monitor", "running", "LTrustedMachine$Session;", false)
  | _ => ("TrustedMachine$Monitor", "slice", "I", false)
def ct_y11 : Nat → FieldType := fun k => match k with
  | 0 => .object "TrustedMachine$Memory"
  | 1 => .array (.object "TrustedMachine$Applet")
  | 2 => .object "TrustedMachine$Sha256"
  | 3 => .object "TrustedMachine$Vault"
  | 4 => .object "TrustedMachine$Codes"
  | 5 => .object "TrustedMachine$Signer"
  | 6 => .array (.object "TrustedMachine$Session")
  | 7 => .array .int
  | 8 => .array .byte
  | 9 => .object "TrustedMachine$Session"
  | _ => .int
def ct_d11 : List (Nat × Nat × Nat) := [(3, 0, 0), (3, 0, 0), (3, 0, 0), (3, 0, 0), (3, 0, 0), (3, 0, 0), (3, 0, 0), (3, 0, 0), (3, 0, 0), (3, 0, 0), (0, 2147483648, 2147483648)]
def ct_all : List ev_Ct := [(("TrustedMachine", ct_T0, 13), ct_y0, ct_d0), (("TrustedMachine$Memory", ct_T1, 2), ct_y1, ct_d1), (("TrustedMachine$Sha256", ct_T2, 5), ct_y2, ct_d2), (("TrustedMachine$Cipher", ct_T3, 9), ct_y3, ct_d3), (("TrustedMachine$Vault", ct_T4, 20), ct_y4, ct_d4), (("TrustedMachine$Notes", ct_T5, 5), ct_y5, ct_d5), (("TrustedMachine$Applet", ct_T6, 20), ct_y6, ct_d6), (("TrustedMachine$Session", ct_T7, 14), ct_y7, ct_d7), (("TrustedMachine$Curve", ct_T8, 6), ct_y8, ct_d8), (("TrustedMachine$Signer", ct_T9, 16), ct_y9, ct_d9), (("TrustedMachine$Codes", ct_T10, 16), ct_y10, ct_d10), (("TrustedMachine$Monitor", ct_T11, 11), ct_y11, ct_d11)]
def ct_cl : List vw_C := [("TrustedMachine", ct_T0, 13), ("TrustedMachine$Memory", ct_T1, 2), ("TrustedMachine$Sha256", ct_T2, 5), ("TrustedMachine$Cipher", ct_T3, 9), ("TrustedMachine$Vault", ct_T4, 20), ("TrustedMachine$Notes", ct_T5, 5), ("TrustedMachine$Applet", ct_T6, 20), ("TrustedMachine$Session", ct_T7, 14), ("TrustedMachine$Curve", ct_T8, 6), ("TrustedMachine$Signer", ct_T9, 16), ("TrustedMachine$Codes", ct_T10, 16), ("TrustedMachine$Monitor", ct_T11, 11)]
def ct_kt : List FieldType := [.byte, .int, .long, .boolean, .object "TrustedMachine$Applet", .object "TrustedMachine$Session", .array .byte, .array .long]
def ct_c0 : ev_Cd := [(0, 8, 0, 0, 0, 0), (1, 46, 0, 0, 1, 0), (4, 8, 0, 0, 0, 0), (5, 31, 0, 1, 7, 0), (8, 22, 0, 0, 0, 0), (9, 55, 0, 0, 9, 1), (12, 30, 0, 0, 10, 0), (15, 8, 0, 0, 0, 0), (16, 31, 0, 2, 16, 0), (19, 22, 0, 0, 0, 0), (20, 55, 0, 0, 18, 2), (23, 30, 2, 0, 19, 0), (26, 8, 0, 0, 0, 0), (27, 31, 0, 3, 23, 0), (30, 22, 0, 0, 0, 0), (31, 55, 0, 0, 25, 3), (34, 30, 3, 0, 26, 0), (37, 8, 0, 0, 0, 0), (38, 31, 0, 4, 30, 0), (41, 22, 0, 0, 0, 0), (42, 8, 0, 0, 0, 0), (43, 28, 2, 0, 19, 0), (46, 8, 0, 0, 0, 0), (47, 28, 3, 0, 26, 0), (50, 55, 0, 2, 32, 4), (53, 30, 4, 0, 35, 0), (56, 8, 0, 0, 0, 0), (57, 2, 2147483656, 0, 0, 0), (59, 34, 4, 0, 39, 0), (62, 30, 1, 0, 41, 0), (65, 1, 2147483648, 0, 0, 0), (66, 10, 1, 0, 0, 0), (67, 6, 1, 0, 0, 0), (68, 2, 2147483656, 0, 0, 0), (70, 26, 47, 1000000, 0, 3), (73, 8, 0, 0, 0, 0), (74, 28, 1, 0, 41, 0), (77, 6, 1, 0, 0, 0), (78, 31, 0, 6, 39, 0), (81, 22, 0, 0, 0, 0), (82, 6, 1, 0, 0, 0), (83, 8, 0, 0, 0, 0), (84, 28, 0, 0, 10, 0), (87, 55, 0, 2, 45, 6), (90, 43, 4, 6, 0, 0), (91, 14, 1, 2147483649, 0, 0), (94, 25, 32, 0, 0, 0), (97, 31, 0, 9, 48, 0), (100, 22, 0, 0, 0, 0), (101, 8, 0, 0, 0, 0), (102, 28, 2, 0, 19, 0), (105, 8, 0, 0, 0, 0), (106, 28, 3, 0, 26, 0), (109, 28, 0, 3, 50, 0), (112, 55, 0, 2, 54, 9), (115, 12, 1, 0, 0, 0), (116, 8, 0, 0, 0, 0), (117, 31, 0, 10, 57, 0), (120, 22, 0, 0, 0, 0), (121, 8, 0, 0, 0, 0), (122, 28, 1, 0, 41, 0), (125, 8, 0, 0, 0, 0), (126, 28, 2, 0, 19, 0), (129, 8, 0, 0, 0, 0), (130, 28, 3, 0, 26, 0), (133, 8, 0, 0, 0, 0), (134, 28, 4, 0, 35, 0), (137, 8, 1, 0, 0, 0), (138, 55, 0, 5, 59, 10), (141, 30, 5, 0, 62, 0), (144, 8, 0, 0, 0, 0), (145, 31, 0, 11, 66, 0), (148, 22, 0, 0, 0, 0), (149, 8, 0, 0, 0, 0), (150, 28, 0, 0, 10, 0), (153, 8, 0, 0, 0, 0), (154, 28, 1, 0, 41, 0), (157, 8, 0, 0, 0, 0), (158, 28, 2, 0, 19, 0), (161, 8, 0, 0, 0, 0), (162, 28, 4, 0, 35, 0), (165, 8, 1, 0, 0, 0), (166, 8, 0, 0, 0, 0), (167, 28, 5, 0, 62, 0), (170, 55, 0, 6, 68, 11), (173, 30, 6, 0, 71, 0), (176, 8, 0, 0, 0, 0), (177, 3, 2147484748, 0, 0, 0), (180, 32, 0, 0, 0, 4), (182, 30, 7, 0, 75, 0), (185, 8, 0, 0, 0, 0), (186, 2, 2147483664, 0, 0, 0), (188, 32, 1, 0, 0, 6), (190, 30, 10, 0, 78, 0), (193, 49, 0, 0, 0, 0)]
def ct_c1 : ev_Cd := [(0, 8, 0, 0, 0, 0), (1, 46, 0, 0, 3, 0), (4, 8, 0, 0, 0, 0), (5, 3, 2147491840, 0, 0, 0), (8, 32, 0, 0, 0, 4), (10, 30, 0, 1, 11, 0), (13, 8, 0, 0, 0, 0), (14, 2, 2147483680, 0, 0, 0), (16, 32, 1, 0, 0, 6), (18, 30, 1, 1, 15, 0), (21, 49, 0, 0, 0, 0)]
def ct_c2 : ev_Cd := [(0, 8, 0, 0, 0, 0), (1, 46, 0, 0, 1, 0), (4, 8, 0, 0, 0, 0), (5, 2, 2147483656, 0, 0, 0), (7, 32, 1, 0, 0, 6), (9, 30, 0, 2, 7, 0), (12, 8, 0, 0, 0, 0), (13, 2, 2147483712, 0, 0, 0), (15, 32, 1, 0, 0, 6), (17, 30, 1, 2, 13, 0), (20, 8, 0, 0, 0, 0), (21, 3, 2147483776, 0, 0, 0), (24, 32, 0, 0, 0, 4), (26, 30, 2, 2, 16, 0), (29, 8, 0, 0, 0, 0), (30, 2, 2147483712, 0, 0, 0), (32, 32, 0, 0, 0, 4), (34, 30, 3, 2, 20, 0), (37, 8, 0, 0, 0, 0), (38, 2, 2147483680, 0, 0, 0), (40, 32, 0, 0, 0, 4), (42, 30, 4, 2, 23, 0), (45, 49, 0, 0, 0, 0)]
def ct_c3 : ev_Cd := [(0, 8, 0, 0, 0, 0), (1, 46, 0, 0, 1, 0), (4, 8, 0, 0, 0, 0), (5, 2, 2147483680, 0, 0, 0), (7, 32, 0, 0, 0, 4), (9, 30, 0, 3, 7, 0), (12, 8, 0, 0, 0, 0), (13, 2, 2147483660, 0, 0, 0), (15, 32, 0, 0, 0, 4), (17, 30, 1, 3, 13, 0), (20, 8, 0, 0, 0, 0), (21, 2, 2147483664, 0, 0, 0), (23, 32, 1, 0, 0, 6), (25, 30, 2, 3, 16, 0), (28, 8, 0, 0, 0, 0), (29, 2, 2147483664, 0, 0, 0), (31, 32, 1, 0, 0, 6), (33, 30, 3, 3, 20, 0), (36, 8, 0, 0, 0, 0), (37, 2, 2147483680, 0, 0, 0), (39, 32, 0, 0, 0, 4), (41, 30, 4, 3, 23, 0), (44, 8, 0, 0, 0, 0), (45, 3, 2147484208, 0, 0, 0), (48, 32, 0, 0, 0, 4), (50, 30, 5, 3, 26, 0), (53, 8, 0, 0, 0, 0), (54, 2, 2147483664, 0, 0, 0), (56, 32, 0, 0, 0, 4), (58, 30, 6, 3, 29, 0), (61, 8, 0, 0, 0, 0), (62, 1, 2147483653, 0, 0, 0), (63, 33, 2, 0, 0, 7), (65, 30, 7, 3, 32, 0), (68, 8, 0, 0, 0, 0), (69, 1, 2147483653, 0, 0, 0), (70, 33, 2, 0, 0, 7), (72, 30, 8, 3, 36, 0), (75, 49, 0, 0, 0, 0)]
def ct_c4 : ev_Cd := [(0, 8, 0, 0, 0, 0), (1, 46, 0, 0, 3, 0), (4, 8, 0, 0, 0, 0), (5, 2, 2147483712, 0, 0, 0), (7, 3, 2147483904, 0, 0, 0), (10, 35, 6, 0, 11, 0), (14, 30, 2, 4, 13, 0), (17, 8, 0, 0, 0, 0), (18, 2, 2147483712, 0, 0, 0), (20, 3, 2147483904, 0, 0, 0), (23, 35, 6, 0, 11, 0), (27, 30, 3, 4, 16, 0), (30, 8, 0, 0, 0, 0), (31, 2, 2147483712, 0, 0, 0), (33, 2, 2147483680, 0, 0, 0), (35, 35, 6, 0, 11, 0), (39, 30, 4, 4, 19, 0), (42, 8, 0, 0, 0, 0), (43, 2, 2147483712, 0, 0, 0), (45, 32, 1, 0, 0, 6), (47, 30, 5, 4, 22, 0), (50, 8, 0, 0, 0, 0), (51, 3, 2147483903, 0, 0, 0), (54, 29, 7, 4, 26, 0), (57, 8, 0, 0, 0, 0), (58, 2, 2147483680, 0, 0, 0), (60, 32, 0, 0, 0, 4), (62, 30, 8, 4, 30, 0), (65, 8, 0, 0, 0, 0), (66, 2, 2147483656, 0, 0, 0), (68, 32, 1, 0, 0, 6), (70, 30, 9, 4, 34, 0), (73, 8, 0, 0, 0, 0), (74, 1, 2147483647, 0, 0, 0), (75, 29, 10, 4, 37, 0), (78, 8, 0, 0, 0, 0), (79, 1, 2147483649, 0, 0, 0), (80, 29, 11, 4, 40, 0), (83, 8, 0, 0, 0, 0), (84, 2, 2147483712, 0, 0, 0), (86, 32, 1, 0, 0, 6), (88, 30, 12, 4, 44, 0), (91, 8, 0, 0, 0, 0), (92, 2, 2147483655, 0, 0, 0), (94, 32, 1, 0, 0, 6), (96, 30, 13, 4, 47, 0), (99, 8, 0, 0, 0, 0), (100, 2, 2147483697, 0, 0, 0), (102, 32, 1, 0, 0, 6), (104, 30, 14, 4, 50, 0), (107, 8, 0, 0, 0, 0), (108, 1, 2147483652, 0, 0, 0), (109, 32, 1, 0, 0, 6), (111, 30, 15, 4, 55, 0), (114, 8, 0, 0, 0, 0), (115, 3, 2147483904, 0, 0, 0), (118, 32, 0, 0, 0, 4), (120, 30, 16, 4, 58, 0), (123, 8, 0, 0, 0, 0), (124, 8, 1, 0, 0, 0), (125, 30, 0, 4, 61, 0), (128, 8, 0, 0, 0, 0), (129, 8, 2, 0, 0, 0), (130, 30, 1, 4, 65, 0), (133, 49, 0, 0, 0, 0)]
def ct_c5 : ev_Cd := [(0, 8, 0, 0, 0, 0), (1, 46, 0, 0, 3, 0), (4, 8, 0, 0, 0, 0), (5, 1, 2147483652, 0, 0, 0), (6, 2, 2147483664, 0, 0, 0), (8, 35, 6, 0, 11, 0), (12, 30, 1, 5, 13, 0), (15, 8, 0, 0, 0, 0), (16, 1, 2147483652, 0, 0, 0), (17, 32, 1, 0, 0, 6), (19, 30, 2, 5, 16, 0), (22, 8, 0, 0, 0, 0), (23, 1, 2147483652, 0, 0, 0), (24, 32, 1, 0, 0, 6), (26, 30, 3, 5, 20, 0), (29, 8, 0, 0, 0, 0), (30, 1, 2147483652, 0, 0, 0), (31, 3, 2147484160, 0, 0, 0), (34, 35, 6, 0, 11, 0), (38, 30, 4, 5, 23, 0), (41, 49, 0, 0, 0, 0)]
def ct_c6 : ev_Cd := [(0, 8, 0, 0, 0, 0), (1, 46, 0, 0, 3, 0), (4, 8, 0, 0, 0, 0), (5, 2, 2147483680, 0, 0, 0), (7, 32, 0, 0, 0, 4), (9, 30, 2, 6, 9, 0), (12, 8, 0, 0, 0, 0), (13, 1, 2147483647, 0, 0, 0), (14, 29, 3, 6, 15, 0), (17, 8, 0, 0, 0, 0), (18, 2, 2147483656, 0, 0, 0), (20, 32, 1, 0, 0, 6), (22, 30, 7, 6, 19, 0), (25, 8, 0, 0, 0, 0), (26, 3, 2147484672, 0, 0, 0), (29, 32, 0, 0, 0, 4), (31, 30, 9, 6, 23, 0), (34, 8, 0, 0, 0, 0), (35, 2, 2147483656, 0, 0, 0), (37, 32, 1, 0, 0, 6), (39, 30, 11, 6, 26, 0), (42, 8, 0, 0, 0, 0), (43, 1, 2147483647, 0, 0, 0), (44, 29, 13, 6, 29, 0), (47, 8, 0, 0, 0, 0), (48, 2, 2147483712, 0, 0, 0), (50, 32, 1, 0, 0, 6), (52, 30, 14, 6, 32, 0), (55, 8, 0, 0, 0, 0), (56, 2, 2147483664, 0, 0, 0), (58, 32, 1, 0, 0, 6), (60, 30, 16, 6, 35, 0), (63, 8, 0, 0, 0, 0), (64, 31, 0, 5, 38, 0), (67, 22, 0, 0, 0, 0), (68, 55, 0, 0, 40, 5), (71, 30, 19, 6, 41, 0), (74, 8, 0, 0, 0, 0), (75, 6, 1, 0, 0, 0), (76, 30, 0, 6, 45, 0), (79, 8, 0, 0, 0, 0), (80, 8, 2, 0, 0, 0), (81, 30, 1, 6, 48, 0), (84, 8, 0, 0, 0, 0), (85, 6, 1, 0, 0, 0), (86, 29, 4, 6, 52, 0), (89, 49, 0, 0, 0, 0)]
def ct_c7 : ev_Cd := [(0, 8, 0, 0, 0, 0), (1, 46, 0, 0, 3, 0), (4, 8, 0, 0, 0, 0), (5, 1, 2147483652, 0, 0, 0), (6, 32, 1, 0, 0, 6), (8, 30, 5, 7, 11, 0), (11, 8, 0, 0, 0, 0), (12, 1, 2147483647, 0, 0, 0), (13, 29, 8, 7, 15, 0), (16, 8, 0, 0, 0, 0), (17, 1, 2147483652, 0, 0, 0), (18, 32, 1, 0, 0, 6), (20, 30, 10, 7, 19, 0), (23, 8, 0, 0, 0, 0), (24, 1, 2147483652, 0, 0, 0), (25, 32, 1, 0, 0, 6), (27, 30, 11, 7, 22, 0), (30, 8, 0, 0, 0, 0), (31, 1, 2147483652, 0, 0, 0), (32, 32, 1, 0, 0, 6), (34, 30, 12, 7, 25, 0), (37, 8, 0, 0, 0, 0), (38, 1, 2147483652, 0, 0, 0), (39, 3, 2147483904, 0, 0, 0), (42, 35, 6, 0, 28, 0), (46, 30, 13, 7, 30, 0), (49, 8, 0, 0, 0, 0), (50, 6, 1, 0, 0, 0), (51, 30, 0, 7, 33, 0), (54, 8, 0, 0, 0, 0), (55, 8, 2, 0, 0, 0), (56, 30, 1, 7, 36, 0), (59, 49, 0, 0, 0, 0)]
def ct_c8 : ev_Cd := [(0, 8, 0, 0, 0, 0), (1, 46, 0, 0, 1, 0), (4, 8, 0, 0, 0, 0), (5, 2, 2147483655, 0, 0, 0), (7, 2, 2147483658, 0, 0, 0), (9, 35, 7, 2, 7, 2), (13, 30, 0, 8, 9, 0), (16, 8, 0, 0, 0, 0), (17, 1, 2147483653, 0, 0, 0), (18, 2, 2147483658, 0, 0, 0), (20, 35, 7, 2, 7, 2), (24, 30, 1, 8, 14, 0), (27, 8, 0, 0, 0, 0), (28, 2, 2147483712, 0, 0, 0), (30, 2, 2147483658, 0, 0, 0), (32, 35, 7, 2, 7, 2), (36, 30, 2, 8, 17, 0), (39, 8, 0, 0, 0, 0), (40, 1, 2147483651, 0, 0, 0), (41, 2, 2147483658, 0, 0, 0), (43, 35, 7, 2, 7, 2), (47, 30, 3, 8, 20, 0), (50, 8, 0, 0, 0, 0), (51, 1, 2147483653, 0, 0, 0), (52, 2, 2147483658, 0, 0, 0), (54, 35, 7, 2, 7, 2), (58, 30, 4, 8, 23, 0), (61, 8, 0, 0, 0, 0), (62, 2, 2147483680, 0, 0, 0), (64, 32, 0, 0, 0, 4), (66, 30, 5, 8, 26, 0), (69, 49, 0, 0, 0, 0)]
def ct_c9 : ev_Cd := [(0, 8, 0, 0, 0, 0), (1, 46, 0, 0, 1, 0), (4, 8, 0, 0, 0, 0), (5, 31, 0, 8, 7, 0), (8, 22, 0, 0, 0, 0), (9, 55, 0, 0, 9, 8), (12, 30, 0, 9, 10, 0), (15, 8, 0, 0, 0, 0), (16, 2, 2147483680, 0, 0, 0), (18, 32, 0, 0, 0, 4), (20, 30, 1, 9, 16, 0), (23, 8, 0, 0, 0, 0), (24, 2, 2147483712, 0, 0, 0), (26, 32, 0, 0, 0, 4), (28, 30, 2, 9, 20, 0), (31, 8, 0, 0, 0, 0), (32, 2, 2147483712, 0, 0, 0), (34, 32, 0, 0, 0, 4), (36, 30, 6, 9, 23, 0), (39, 8, 0, 0, 0, 0), (40, 2, 2147483712, 0, 0, 0), (42, 32, 0, 0, 0, 4), (44, 30, 7, 9, 26, 0), (47, 8, 0, 0, 0, 0), (48, 3, 2147484224, 0, 0, 0), (51, 32, 0, 0, 0, 4), (53, 30, 8, 9, 29, 0), (56, 8, 0, 0, 0, 0), (57, 3, 2147483904, 0, 0, 0), (60, 32, 0, 0, 0, 4), (62, 30, 9, 9, 32, 0), (65, 8, 0, 0, 0, 0), (66, 2, 2147483656, 0, 0, 0), (68, 33, 2, 0, 0, 7), (70, 30, 10, 9, 35, 0), (73, 8, 0, 0, 0, 0), (74, 2, 2147483728, 0, 0, 0), (76, 33, 2, 0, 0, 7), (78, 30, 11, 9, 39, 0), (81, 8, 0, 0, 0, 0), (82, 2, 2147483712, 0, 0, 0), (84, 33, 2, 0, 0, 7), (86, 30, 12, 9, 42, 0), (89, 8, 0, 0, 0, 0), (90, 2, 2147483680, 0, 0, 0), (92, 32, 0, 0, 0, 4), (94, 30, 13, 9, 45, 0), (97, 8, 0, 0, 0, 0), (98, 1, 2147483652, 0, 0, 0), (99, 2, 2147483658, 0, 0, 0), (101, 35, 7, 2, 48, 2), (105, 30, 14, 9, 50, 0), (108, 8, 0, 0, 0, 0), (109, 1, 2147483652, 0, 0, 0), (110, 2, 2147483658, 0, 0, 0), (112, 35, 7, 2, 48, 2), (116, 30, 15, 9, 53, 0), (119, 8, 0, 0, 0, 0), (120, 8, 1, 0, 0, 0), (121, 30, 3, 9, 56, 0), (124, 8, 0, 0, 0, 0), (125, 8, 2, 0, 0, 0), (126, 30, 4, 9, 60, 0), (129, 49, 0, 0, 0, 0)]
def ct_c10 : ev_Cd := [(0, 8, 0, 0, 0, 0), (1, 46, 0, 0, 5, 0), (4, 8, 0, 0, 0, 0), (5, 31, 0, 5, 11, 0), (8, 22, 0, 0, 0, 0), (9, 55, 0, 0, 13, 5), (12, 30, 5, 10, 14, 0), (15, 8, 0, 0, 0, 0), (16, 2, 2147483664, 0, 0, 0), (18, 32, 0, 0, 0, 4), (20, 30, 6, 10, 18, 0), (23, 8, 0, 0, 0, 0), (24, 3, 2147485696, 0, 0, 0), (27, 32, 0, 0, 0, 4), (29, 30, 7, 10, 22, 0), (32, 8, 0, 0, 0, 0), (33, 2, 2147483712, 0, 0, 0), (35, 32, 0, 0, 0, 4), (37, 30, 8, 10, 25, 0), (40, 8, 0, 0, 0, 0), (41, 8, 1, 0, 0, 0), (42, 30, 0, 10, 28, 0), (45, 8, 0, 0, 0, 0), (46, 8, 2, 0, 0, 0), (47, 30, 1, 10, 32, 0), (50, 8, 0, 0, 0, 0), (51, 8, 3, 0, 0, 0), (52, 30, 2, 10, 36, 0), (55, 8, 0, 0, 0, 0), (56, 9, 4, 0, 0, 0), (58, 30, 3, 10, 40, 0), (61, 8, 0, 0, 0, 0), (62, 9, 5, 0, 0, 0), (64, 30, 4, 10, 44, 0), (67, 8, 0, 0, 0, 0), (68, 8, 1, 0, 0, 0), (69, 1, 2147483648, 0, 0, 0), (70, 42, 4, 0, 0, 0), (71, 29, 10, 10, 48, 0), (74, 8, 0, 0, 0, 0), (75, 31, 0, 7, 52, 0), (78, 22, 0, 0, 0, 0), (79, 1, 2147483647, 0, 0, 0), (80, 8, 1, 0, 0, 0), (81, 55, 0, 2, 54, 7), (84, 29, 9, 10, 57, 0), (87, 49, 0, 0, 0, 0)]
def ct_c11 : ev_Cd := [(0, 8, 0, 0, 0, 0), (1, 46, 0, 0, 3, 0), (4, 8, 0, 0, 0, 0), (5, 2, 2147483664, 0, 0, 0), (7, 34, 5, 0, 9, 0), (10, 30, 6, 11, 11, 0), (13, 8, 0, 0, 0, 0), (14, 1, 2147483652, 0, 0, 0), (15, 32, 1, 0, 0, 6), (17, 30, 7, 11, 17, 0), (20, 8, 0, 0, 0, 0), (21, 3, 2147483776, 0, 0, 0), (24, 32, 0, 0, 0, 4), (26, 30, 8, 11, 21, 0), (29, 8, 0, 0, 0, 0), (30, 8, 1, 0, 0, 0), (31, 30, 0, 11, 25, 0), (34, 8, 0, 0, 0, 0), (35, 8, 2, 0, 0, 0), (36, 30, 1, 11, 29, 0), (39, 8, 0, 0, 0, 0), (40, 8, 3, 0, 0, 0), (41, 30, 2, 11, 33, 0), (44, 8, 0, 0, 0, 0), (45, 9, 4, 0, 0, 0), (47, 30, 3, 11, 37, 0), (50, 8, 0, 0, 0, 0), (51, 9, 5, 0, 0, 0), (53, 30, 5, 11, 41, 0), (56, 8, 0, 0, 0, 0), (57, 9, 6, 0, 0, 0), (59, 30, 4, 11, 45, 0), (62, 1, 2147483648, 0, 0, 0), (63, 11, 7, 0, 0, 0), (65, 7, 7, 0, 0, 0), (67, 2, 2147483664, 0, 0, 0), (69, 26, 48, 1000000, 0, 3), (72, 8, 0, 0, 0, 0), (73, 28, 6, 11, 11, 0), (76, 7, 7, 0, 0, 0), (78, 31, 0, 7, 9, 0), (81, 22, 0, 0, 0, 0), (82, 7, 7, 0, 0, 0), (84, 8, 2, 0, 0, 0), (85, 55, 0, 2, 49, 7), (88, 43, 5, 7, 0, 0), (89, 14, 7, 2147483649, 0, 0), (92, 25, 34, 0, 0, 0), (95, 8, 0, 0, 0, 0), (96, 8, 0, 0, 0, 0), (97, 28, 6, 11, 11, 0), (100, 1, 2147483648, 0, 0, 0), (101, 42, 5, 0, 0, 0), (102, 29, 9, 11, 52, 0), (105, 49, 0, 0, 0, 0)]
def ct_pg : List ev_Mt := [((⟨"TrustedMachine", "<init>", "()V"⟩, prog_1_method_1_code, 2, none), ct_c0), ((⟨"TrustedMachine$Memory", "<init>", "()V"⟩, prog_6_method_1_code, 1, none), ct_c1), ((⟨"TrustedMachine$Sha256", "<init>", "()V"⟩, prog_10_method_1_code, 1, none), ct_c2), ((⟨"TrustedMachine$Cipher", "<init>", "()V"⟩, prog_3_method_1_code, 1, none), ct_c3), ((⟨"TrustedMachine$Vault", "<init>", "(LTrustedMachine$Sha256;LTrustedMachine$Cipher;)V"⟩, prog_12_method_1_code, 3, none), ct_c4), ((⟨"TrustedMachine$Notes", "<init>", "()V"⟩, prog_8_method_1_code, 1, none), ct_c5), ((⟨"TrustedMachine$Applet", "<init>", "(ILTrustedMachine$Memory;)V"⟩, prog_2_method_1_code, 3, none), ct_c6), ((⟨"TrustedMachine$Session", "<init>", "(I[LTrustedMachine$Applet;)V"⟩, prog_9_method_1_code, 3, none), ct_c7), ((⟨"TrustedMachine$Curve", "<init>", "()V"⟩, prog_5_method_1_code, 1, none), ct_c8), ((⟨"TrustedMachine$Signer", "<init>", "(LTrustedMachine$Sha256;[B)V"⟩, prog_11_method_1_code, 3, none), ct_c9), ((⟨"TrustedMachine$Codes", "<init>", "([LTrustedMachine$Applet;LTrustedMachine$Sha256;LTrustedMachine$Cipher;LTrustedMachine$Vault;LTrustedMachine$Signer;)V"⟩, prog_4_method_1_code, 6, none), ct_c10), ((⟨"TrustedMachine$Monitor", "<init>", "(LTrustedMachine$Memory;[LTrustedMachine$Applet;LTrustedMachine$Sha256;LTrustedMachine$Vault;LTrustedMachine$Signer;LTrustedMachine$Codes;)V"⟩, prog_7_method_1_code, 8, none), ct_c11)]
def ct_g0 : List Cond := [Cond.initialized "TrustedMachine", Cond.instantiable "TrustedMachine" 13, Cond.initialized "TrustedMachine$Memory", Cond.instantiable "TrustedMachine$Memory" 2, Cond.initialized "TrustedMachine$Sha256", Cond.instantiable "TrustedMachine$Sha256" 5, Cond.initialized "TrustedMachine$Cipher", Cond.instantiable "TrustedMachine$Cipher" 9, Cond.initialized "TrustedMachine$Vault", Cond.instantiable "TrustedMachine$Vault" 20, Cond.initialized "TrustedMachine$Notes", Cond.instantiable "TrustedMachine$Notes" 5, Cond.initialized "TrustedMachine$Applet", Cond.instantiable "TrustedMachine$Applet" 20, Cond.initialized "TrustedMachine$Session", Cond.instantiable "TrustedMachine$Session" 14, Cond.initialized "TrustedMachine$Curve", Cond.instantiable "TrustedMachine$Curve" 6, Cond.initialized "TrustedMachine$Signer", Cond.instantiable "TrustedMachine$Signer" 16, Cond.initialized "TrustedMachine$Codes", Cond.instantiable "TrustedMachine$Codes" 16, Cond.initialized "TrustedMachine$Monitor", Cond.instantiable "TrustedMachine$Monitor" 11, Cond.arrayClass .byte, Cond.arrayClass .int, Cond.arrayClass .long, Cond.arrayClass .boolean, Cond.instanceMethod objectInit, Cond.code objectInit ⟨#[0xb1]⟩ 1 none, Cond.code ⟨"TrustedMachine", "<init>", "()V"⟩ prog_1_method_1_code 2 none, Cond.instanceMethod ⟨"TrustedMachine", "<init>", "()V"⟩, Cond.code ⟨"TrustedMachine$Memory", "<init>", "()V"⟩ prog_6_method_1_code 1 none, Cond.instanceMethod ⟨"TrustedMachine$Memory", "<init>", "()V"⟩, Cond.code ⟨"TrustedMachine$Sha256", "<init>", "()V"⟩ prog_10_method_1_code 1 none, Cond.instanceMethod ⟨"TrustedMachine$Sha256", "<init>", "()V"⟩, Cond.code ⟨"TrustedMachine$Cipher", "<init>", "()V"⟩ prog_3_method_1_code 1 none, Cond.instanceMethod ⟨"TrustedMachine$Cipher", "<init>", "()V"⟩, Cond.code ⟨"TrustedMachine$Vault", "<init>", "(LTrustedMachine$Sha256;LTrustedMachine$Cipher;)V"⟩ prog_12_method_1_code 3 none, Cond.instanceMethod ⟨"TrustedMachine$Vault", "<init>", "(LTrustedMachine$Sha256;LTrustedMachine$Cipher;)V"⟩, Cond.code ⟨"TrustedMachine$Notes", "<init>", "()V"⟩ prog_8_method_1_code 1 none, Cond.instanceMethod ⟨"TrustedMachine$Notes", "<init>", "()V"⟩, Cond.code ⟨"TrustedMachine$Applet", "<init>", "(ILTrustedMachine$Memory;)V"⟩ prog_2_method_1_code 3 none, Cond.instanceMethod ⟨"TrustedMachine$Applet", "<init>", "(ILTrustedMachine$Memory;)V"⟩, Cond.code ⟨"TrustedMachine$Session", "<init>", "(I[LTrustedMachine$Applet;)V"⟩ prog_9_method_1_code 3 none, Cond.instanceMethod ⟨"TrustedMachine$Session", "<init>", "(I[LTrustedMachine$Applet;)V"⟩, Cond.code ⟨"TrustedMachine$Curve", "<init>", "()V"⟩ prog_5_method_1_code 1 none, Cond.instanceMethod ⟨"TrustedMachine$Curve", "<init>", "()V"⟩, Cond.code ⟨"TrustedMachine$Signer", "<init>", "(LTrustedMachine$Sha256;[B)V"⟩ prog_11_method_1_code 3 none, Cond.instanceMethod ⟨"TrustedMachine$Signer", "<init>", "(LTrustedMachine$Sha256;[B)V"⟩, Cond.code ⟨"TrustedMachine$Codes", "<init>", "([LTrustedMachine$Applet;LTrustedMachine$Sha256;LTrustedMachine$Cipher;LTrustedMachine$Vault;LTrustedMachine$Signer;)V"⟩ prog_4_method_1_code 6 none, Cond.instanceMethod ⟨"TrustedMachine$Codes", "<init>", "([LTrustedMachine$Applet;LTrustedMachine$Sha256;LTrustedMachine$Cipher;LTrustedMachine$Vault;LTrustedMachine$Signer;)V"⟩, Cond.code ⟨"TrustedMachine$Monitor", "<init>", "(LTrustedMachine$Memory;[LTrustedMachine$Applet;LTrustedMachine$Sha256;LTrustedMachine$Vault;LTrustedMachine$Signer;LTrustedMachine$Codes;)V"⟩ prog_7_method_1_code 8 none, Cond.instanceMethod ⟨"TrustedMachine$Monitor", "<init>", "(LTrustedMachine$Memory;[LTrustedMachine$Applet;LTrustedMachine$Sha256;LTrustedMachine$Vault;LTrustedMachine$Signer;LTrustedMachine$Codes;)V"⟩, Cond.classLink "TrustedMachine" 16 "TrustedMachine$Sha256", Cond.classLink "TrustedMachine" 23 "TrustedMachine$Cipher", Cond.classLink "TrustedMachine" 30 "TrustedMachine$Vault", Cond.classLink "TrustedMachine" 39 "TrustedMachine$Applet", Cond.classLink "TrustedMachine" 48 "TrustedMachine$Signer", Cond.classLink "TrustedMachine" 57 "TrustedMachine$Codes"]
def ct_g1 : List Cond := [Cond.classLink "TrustedMachine" 66 "TrustedMachine$Monitor", Cond.classLink "TrustedMachine" 7 "TrustedMachine$Memory", Cond.classLink "TrustedMachine$Applet" 38 "TrustedMachine$Notes", Cond.classLink "TrustedMachine$Codes" 11 "TrustedMachine$Notes", Cond.classLink "TrustedMachine$Codes" 52 "TrustedMachine$Session", Cond.classLink "TrustedMachine$Curve" 7 "[[J", Cond.classLink "TrustedMachine$Monitor" 9 "TrustedMachine$Session", Cond.classLink "TrustedMachine$Notes" 11 "[[B", Cond.classLink "TrustedMachine$Session" 28 "[[B", Cond.classLink "TrustedMachine$Signer" 48 "[[J", Cond.classLink "TrustedMachine$Signer" 7 "TrustedMachine$Curve", Cond.classLink "TrustedMachine$Vault" 11 "[[B", Cond.fieldLink "TrustedMachine" 10 "TrustedMachine" "memory" "LTrustedMachine$Memory;", Cond.fieldLink "TrustedMachine" 19 "TrustedMachine" "sha" "LTrustedMachine$Sha256;", Cond.fieldLink "TrustedMachine" 26 "TrustedMachine" "cipher" "LTrustedMachine$Cipher;", Cond.fieldLink "TrustedMachine" 35 "TrustedMachine" "vault" "LTrustedMachine$Vault;", Cond.fieldLink "TrustedMachine" 41 "TrustedMachine" "applets" "[LTrustedMachine$Applet;", Cond.fieldLink "TrustedMachine" 50 "TrustedMachine$Cipher" "key" "[B", Cond.fieldLink "TrustedMachine" 62 "TrustedMachine" "codes" "LTrustedMachine$Codes;", Cond.fieldLink "TrustedMachine" 71 "TrustedMachine" "monitor" "LTrustedMachine$Monitor;", Cond.fieldLink "TrustedMachine" 75 "TrustedMachine" "tape" "[B", Cond.fieldLink "TrustedMachine" 78 "TrustedMachine" "registers" "[I", Cond.fieldLink "TrustedMachine$Applet" 15 "TrustedMachine$Applet" "rights" "I", Cond.fieldLink "TrustedMachine$Applet" 19 "TrustedMachine$Applet" "pages" "[I", Cond.fieldLink "TrustedMachine$Applet" 23 "TrustedMachine$Applet" "code" "[B", Cond.fieldLink "TrustedMachine$Applet" 26 "TrustedMachine$Applet" "beginnings" "[I", Cond.fieldLink "TrustedMachine$Applet" 29 "TrustedMachine$Applet" "session" "I", Cond.fieldLink "TrustedMachine$Applet" 32 "TrustedMachine$Applet" "stack" "[I", Cond.fieldLink "TrustedMachine$Applet" 35 "TrustedMachine$Applet" "returns" "[I", Cond.fieldLink "TrustedMachine$Applet" 41 "TrustedMachine$Applet" "notes" "LTrustedMachine$Notes;", Cond.fieldLink "TrustedMachine$Applet" 45 "TrustedMachine$Applet" "number" "I", Cond.fieldLink "TrustedMachine$Applet" 48 "TrustedMachine$Applet" "memory" "LTrustedMachine$Memory;", Cond.fieldLink "TrustedMachine$Applet" 52 "TrustedMachine$Applet" "product" "I", Cond.fieldLink "TrustedMachine$Applet" 9 "TrustedMachine$Applet" "digest" "[B", Cond.fieldLink "TrustedMachine$Cipher" 13 "TrustedMachine$Cipher" "nonce" "[B", Cond.fieldLink "TrustedMachine$Cipher" 16 "TrustedMachine$Cipher" "start" "[I", Cond.fieldLink "TrustedMachine$Cipher" 20 "TrustedMachine$Cipher" "state" "[I", Cond.fieldLink "TrustedMachine$Cipher" 23 "TrustedMachine$Cipher" "oneTime" "[B", Cond.fieldLink "TrustedMachine$Cipher" 26 "TrustedMachine$Cipher" "text" "[B", Cond.fieldLink "TrustedMachine$Cipher" 29 "TrustedMachine$Cipher" "tag" "[B", Cond.fieldLink "TrustedMachine$Cipher" 32 "TrustedMachine$Cipher" "sum" "[J", Cond.fieldLink "TrustedMachine$Cipher" 36 "TrustedMachine$Cipher" "factor" "[J", Cond.fieldLink "TrustedMachine$Cipher" 7 "TrustedMachine$Cipher" "key" "[B", Cond.fieldLink "TrustedMachine$Codes" 14 "TrustedMachine$Codes" "single" "LTrustedMachine$Notes;", Cond.fieldLink "TrustedMachine$Codes" 18 "TrustedMachine$Codes" "name" "[B", Cond.fieldLink "TrustedMachine$Codes" 22 "TrustedMachine$Codes" "work" "[B", Cond.fieldLink "TrustedMachine$Codes" 25 "TrustedMachine$Codes" "small" "[B", Cond.fieldLink "TrustedMachine$Codes" 28 "TrustedMachine$Codes" "applets" "[LTrustedMachine$Applet;", Cond.fieldLink "TrustedMachine$Codes" 32 "TrustedMachine$Codes" "sha" "LTrustedMachine$Sha256;", Cond.fieldLink "TrustedMachine$Codes" 36 "TrustedMachine$Codes" "cipher" "LTrustedMachine$Cipher;", Cond.fieldLink "TrustedMachine$Codes" 40 "TrustedMachine$Codes" "vault" "LTrustedMachine$Vault;", Cond.fieldLink "TrustedMachine$Codes" 44 "TrustedMachine$Codes" "signer" "LTrustedMachine$Signer;", Cond.fieldLink "TrustedMachine$Codes" 48 "TrustedMachine$Codes" "me" "LTrustedMachine$Applet;", Cond.fieldLink "TrustedMachine$Codes" 57 "TrustedMachine$Codes" "session" "LTrustedMachine$Session;", Cond.fieldLink "TrustedMachine$Curve" 14 "TrustedMachine$Curve" "powers" "[[J", Cond.fieldLink "TrustedMachine$Curve" 17 "TrustedMachine$Curve" "table" "[[J", Cond.fieldLink "TrustedMachine$Curve" 20 "TrustedMachine$Curve" "entry" "[[J", Cond.fieldLink "TrustedMachine$Curve" 23 "TrustedMachine$Curve" "ladder" "[[J", Cond.fieldLink "TrustedMachine$Curve" 26 "TrustedMachine$Curve" "number" "[B", Cond.fieldLink "TrustedMachine$Curve" 9 "TrustedMachine$Curve" "t" "[[J"]
def ct_g2 : List Cond := [Cond.fieldLink "TrustedMachine$Memory" 11 "TrustedMachine$Memory" "bytes" "[B", Cond.fieldLink "TrustedMachine$Memory" 15 "TrustedMachine$Memory" "pages" "[I", Cond.fieldLink "TrustedMachine$Monitor" 11 "TrustedMachine$Monitor" "sessions" "[LTrustedMachine$Session;", Cond.fieldLink "TrustedMachine$Monitor" 17 "TrustedMachine$Monitor" "results" "[I", Cond.fieldLink "TrustedMachine$Monitor" 21 "TrustedMachine$Monitor" "buffer" "[B", Cond.fieldLink "TrustedMachine$Monitor" 25 "TrustedMachine$Monitor" "memory" "LTrustedMachine$Memory;", Cond.fieldLink "TrustedMachine$Monitor" 29 "TrustedMachine$Monitor" "applets" "[LTrustedMachine$Applet;", Cond.fieldLink "TrustedMachine$Monitor" 33 "TrustedMachine$Monitor" "sha" "LTrustedMachine$Sha256;", Cond.fieldLink "TrustedMachine$Monitor" 37 "TrustedMachine$Monitor" "vault" "LTrustedMachine$Vault;", Cond.fieldLink "TrustedMachine$Monitor" 41 "TrustedMachine$Monitor" "signer" "LTrustedMachine$Signer;", Cond.fieldLink "TrustedMachine$Monitor" 45 "TrustedMachine$Monitor" "codes" "LTrustedMachine$Codes;", Cond.fieldLink "TrustedMachine$Monitor" 52 "TrustedMachine$Monitor" "running" "LTrustedMachine$Session;", Cond.fieldLink "TrustedMachine$Notes" 13 "TrustedMachine$Notes" "names" "[[B", Cond.fieldLink "TrustedMachine$Notes" 16 "TrustedMachine$Notes" "lengths" "[I", Cond.fieldLink "TrustedMachine$Notes" 20 "TrustedMachine$Notes" "sizes" "[I", Cond.fieldLink "TrustedMachine$Notes" 23 "TrustedMachine$Notes" "bytes" "[[B", Cond.fieldLink "TrustedMachine$Session" 11 "TrustedMachine$Session" "chain" "[I", Cond.fieldLink "TrustedMachine$Session" 15 "TrustedMachine$Session" "keeper" "I", Cond.fieldLink "TrustedMachine$Session" 19 "TrustedMachine$Session" "sorts" "[I", Cond.fieldLink "TrustedMachine$Session" 22 "TrustedMachine$Session" "firsts" "[I", Cond.fieldLink "TrustedMachine$Session" 25 "TrustedMachine$Session" "seconds" "[I", Cond.fieldLink "TrustedMachine$Session" 30 "TrustedMachine$Session" "bytes" "[[B", Cond.fieldLink "TrustedMachine$Session" 33 "TrustedMachine$Session" "number" "I", Cond.fieldLink "TrustedMachine$Session" 36 "TrustedMachine$Session" "applets" "[LTrustedMachine$Applet;", Cond.fieldLink "TrustedMachine$Sha256" 13 "TrustedMachine$Sha256" "words" "[I", Cond.fieldLink "TrustedMachine$Sha256" 16 "TrustedMachine$Sha256" "tail" "[B", Cond.fieldLink "TrustedMachine$Sha256" 20 "TrustedMachine$Sha256" "pad" "[B", Cond.fieldLink "TrustedMachine$Sha256" 23 "TrustedMachine$Sha256" "inner" "[B", Cond.fieldLink "TrustedMachine$Sha256" 7 "TrustedMachine$Sha256" "state" "[I", Cond.fieldLink "TrustedMachine$Signer" 10 "TrustedMachine$Signer" "curve" "LTrustedMachine$Curve;", Cond.fieldLink "TrustedMachine$Signer" 16 "TrustedMachine$Signer" "open" "[B", Cond.fieldLink "TrustedMachine$Signer" 20 "TrustedMachine$Signer" "signature" "[B", Cond.fieldLink "TrustedMachine$Signer" 23 "TrustedMachine$Signer" "secret" "[B", Cond.fieldLink "TrustedMachine$Signer" 26 "TrustedMachine$Signer" "hash" "[B", Cond.fieldLink "TrustedMachine$Signer" 29 "TrustedMachine$Signer" "text" "[B", Cond.fieldLink "TrustedMachine$Signer" 32 "TrustedMachine$Signer" "tail" "[B", Cond.fieldLink "TrustedMachine$Signer" 35 "TrustedMachine$Signer" "state" "[J", Cond.fieldLink "TrustedMachine$Signer" 39 "TrustedMachine$Signer" "words" "[J", Cond.fieldLink "TrustedMachine$Signer" 42 "TrustedMachine$Signer" "digits" "[J", Cond.fieldLink "TrustedMachine$Signer" 45 "TrustedMachine$Signer" "scalar" "[B", Cond.fieldLink "TrustedMachine$Signer" 50 "TrustedMachine$Signer" "point" "[[J", Cond.fieldLink "TrustedMachine$Signer" 53 "TrustedMachine$Signer" "other" "[[J", Cond.fieldLink "TrustedMachine$Signer" 56 "TrustedMachine$Signer" "sha" "LTrustedMachine$Sha256;", Cond.fieldLink "TrustedMachine$Signer" 60 "TrustedMachine$Signer" "key" "[B", Cond.fieldLink "TrustedMachine$Vault" 13 "TrustedMachine$Vault" "disk" "[[B", Cond.fieldLink "TrustedMachine$Vault" 16 "TrustedMachine$Vault" "before" "[[B", Cond.fieldLink "TrustedMachine$Vault" 19 "TrustedMachine$Vault" "digests" "[[B", Cond.fieldLink "TrustedMachine$Vault" 22 "TrustedMachine$Vault" "forms" "[I", Cond.fieldLink "TrustedMachine$Vault" 26 "TrustedMachine$Vault" "root" "I", Cond.fieldLink "TrustedMachine$Vault" 30 "TrustedMachine$Vault" "seal" "[B", Cond.fieldLink "TrustedMachine$Vault" 34 "TrustedMachine$Vault" "least" "[I", Cond.fieldLink "TrustedMachine$Vault" 37 "TrustedMachine$Vault" "power" "I", Cond.fieldLink "TrustedMachine$Vault" 40 "TrustedMachine$Vault" "down" "Z", Cond.fieldLink "TrustedMachine$Vault" 44 "TrustedMachine$Vault" "used" "[I", Cond.fieldLink "TrustedMachine$Vault" 47 "TrustedMachine$Vault" "nodes" "[I", Cond.fieldLink "TrustedMachine$Vault" 50 "TrustedMachine$Vault" "slots" "[I", Cond.fieldLink "TrustedMachine$Vault" 55 "TrustedMachine$Vault" "fresh" "[I", Cond.fieldLink "TrustedMachine$Vault" 58 "TrustedMachine$Vault" "page" "[B", Cond.fieldLink "TrustedMachine$Vault" 61 "TrustedMachine$Vault" "sha" "LTrustedMachine$Sha256;", Cond.fieldLink "TrustedMachine$Vault" 65 "TrustedMachine$Vault" "cipher" "LTrustedMachine$Cipher;"]
def ct_g3 : List Cond := [Cond.methodLink "TrustedMachine" 1 objectInit, Cond.methodLink "TrustedMachine" 18 ⟨"TrustedMachine$Sha256", "<init>", "()V"⟩, Cond.methodLink "TrustedMachine" 25 ⟨"TrustedMachine$Cipher", "<init>", "()V"⟩, Cond.methodLink "TrustedMachine" 32 ⟨"TrustedMachine$Vault", "<init>", "(LTrustedMachine$Sha256;LTrustedMachine$Cipher;)V"⟩, Cond.methodLink "TrustedMachine" 45 ⟨"TrustedMachine$Applet", "<init>", "(ILTrustedMachine$Memory;)V"⟩, Cond.methodLink "TrustedMachine" 54 ⟨"TrustedMachine$Signer", "<init>", "(LTrustedMachine$Sha256;[B)V"⟩, Cond.methodLink "TrustedMachine" 59 ⟨"TrustedMachine$Codes", "<init>", "([LTrustedMachine$Applet;LTrustedMachine$Sha256;LTrustedMachine$Cipher;LTrustedMachine$Vault;LTrustedMachine$Signer;)V"⟩, Cond.methodLink "TrustedMachine" 68 ⟨"TrustedMachine$Monitor", "<init>", "(LTrustedMachine$Memory;[LTrustedMachine$Applet;LTrustedMachine$Sha256;LTrustedMachine$Vault;LTrustedMachine$Signer;LTrustedMachine$Codes;)V"⟩, Cond.methodLink "TrustedMachine" 9 ⟨"TrustedMachine$Memory", "<init>", "()V"⟩, Cond.methodLink "TrustedMachine$Applet" 3 objectInit, Cond.methodLink "TrustedMachine$Applet" 40 ⟨"TrustedMachine$Notes", "<init>", "()V"⟩, Cond.methodLink "TrustedMachine$Cipher" 1 objectInit, Cond.methodLink "TrustedMachine$Codes" 13 ⟨"TrustedMachine$Notes", "<init>", "()V"⟩, Cond.methodLink "TrustedMachine$Codes" 5 objectInit, Cond.methodLink "TrustedMachine$Codes" 54 ⟨"TrustedMachine$Session", "<init>", "(I[LTrustedMachine$Applet;)V"⟩, Cond.methodLink "TrustedMachine$Curve" 1 objectInit, Cond.methodLink "TrustedMachine$Memory" 3 objectInit, Cond.methodLink "TrustedMachine$Monitor" 3 objectInit, Cond.methodLink "TrustedMachine$Monitor" 49 ⟨"TrustedMachine$Session", "<init>", "(I[LTrustedMachine$Applet;)V"⟩, Cond.methodLink "TrustedMachine$Notes" 3 objectInit, Cond.methodLink "TrustedMachine$Session" 3 objectInit, Cond.methodLink "TrustedMachine$Sha256" 1 objectInit, Cond.methodLink "TrustedMachine$Signer" 1 objectInit, Cond.methodLink "TrustedMachine$Signer" 9 ⟨"TrustedMachine$Curve", "<init>", "()V"⟩, Cond.methodLink "TrustedMachine$Vault" 3 objectInit, Cond.laysFinal "TrustedMachine" "TrustedMachine" "memory" "LTrustedMachine$Memory;", Cond.laysFinal "TrustedMachine" "TrustedMachine" "applets" "[LTrustedMachine$Applet;", Cond.laysFinal "TrustedMachine" "TrustedMachine" "sha" "LTrustedMachine$Sha256;", Cond.laysFinal "TrustedMachine" "TrustedMachine" "cipher" "LTrustedMachine$Cipher;", Cond.laysFinal "TrustedMachine" "TrustedMachine" "vault" "LTrustedMachine$Vault;", Cond.laysFinal "TrustedMachine" "TrustedMachine" "codes" "LTrustedMachine$Codes;", Cond.laysFinal "TrustedMachine" "TrustedMachine" "monitor" "LTrustedMachine$Monitor;", Cond.laysFinal "TrustedMachine" "TrustedMachine" "tape" "[B", Cond.lays "TrustedMachine" "TrustedMachine" "fed" "I", Cond.lays "TrustedMachine" "TrustedMachine" "booted" "Z", Cond.laysFinal "TrustedMachine" "TrustedMachine" "registers" "[I", Cond.lays "TrustedMachine" "TrustedMachine" "place" "I", Cond.lays "TrustedMachine" "TrustedMachine" "state" "I", Cond.laysFinal "TrustedMachine$Memory" "TrustedMachine$Memory" "bytes" "[B", Cond.laysFinal "TrustedMachine$Memory" "TrustedMachine$Memory" "pages" "[I", Cond.laysFinal "TrustedMachine$Sha256" "TrustedMachine$Sha256" "state" "[I", Cond.laysFinal "TrustedMachine$Sha256" "TrustedMachine$Sha256" "words" "[I", Cond.laysFinal "TrustedMachine$Sha256" "TrustedMachine$Sha256" "tail" "[B", Cond.laysFinal "TrustedMachine$Sha256" "TrustedMachine$Sha256" "pad" "[B", Cond.laysFinal "TrustedMachine$Sha256" "TrustedMachine$Sha256" "inner" "[B", Cond.laysFinal "TrustedMachine$Cipher" "TrustedMachine$Cipher" "key" "[B", Cond.laysFinal "TrustedMachine$Cipher" "TrustedMachine$Cipher" "nonce" "[B", Cond.laysFinal "TrustedMachine$Cipher" "TrustedMachine$Cipher" "start" "[I", Cond.laysFinal "TrustedMachine$Cipher" "TrustedMachine$Cipher" "state" "[I", Cond.laysFinal "TrustedMachine$Cipher" "TrustedMachine$Cipher" "oneTime" "[B", Cond.laysFinal "TrustedMachine$Cipher" "TrustedMachine$Cipher" "text" "[B", Cond.laysFinal "TrustedMachine$Cipher" "TrustedMachine$Cipher" "tag" "[B", Cond.laysFinal "TrustedMachine$Cipher" "TrustedMachine$Cipher" "sum" "[J", Cond.laysFinal "TrustedMachine$Cipher" "TrustedMachine$Cipher" "factor" "[J", Cond.laysFinal "TrustedMachine$Vault" "TrustedMachine$Vault" "sha" "LTrustedMachine$Sha256;", Cond.laysFinal "TrustedMachine$Vault" "TrustedMachine$Vault" "cipher" "LTrustedMachine$Cipher;", Cond.laysFinal "TrustedMachine$Vault" "TrustedMachine$Vault" "disk" "[[B", Cond.laysFinal "TrustedMachine$Vault" "TrustedMachine$Vault" "before" "[[B", Cond.laysFinal "TrustedMachine$Vault" "TrustedMachine$Vault" "digests" "[[B", Cond.laysFinal "TrustedMachine$Vault" "TrustedMachine$Vault" "forms" "[I"]
def ct_g4 : List Cond := [Cond.lays "TrustedMachine$Vault" "TrustedMachine$Vault" "count" "I", Cond.lays "TrustedMachine$Vault" "TrustedMachine$Vault" "root" "I", Cond.laysFinal "TrustedMachine$Vault" "TrustedMachine$Vault" "seal" "[B", Cond.laysFinal "TrustedMachine$Vault" "TrustedMachine$Vault" "least" "[I", Cond.lays "TrustedMachine$Vault" "TrustedMachine$Vault" "power" "I", Cond.lays "TrustedMachine$Vault" "TrustedMachine$Vault" "down" "Z", Cond.laysFinal "TrustedMachine$Vault" "TrustedMachine$Vault" "used" "[I", Cond.laysFinal "TrustedMachine$Vault" "TrustedMachine$Vault" "nodes" "[I", Cond.laysFinal "TrustedMachine$Vault" "TrustedMachine$Vault" "slots" "[I", Cond.laysFinal "TrustedMachine$Vault" "TrustedMachine$Vault" "fresh" "[I", Cond.laysFinal "TrustedMachine$Vault" "TrustedMachine$Vault" "page" "[B", Cond.lays "TrustedMachine$Vault" "TrustedMachine$Vault" "latest" "I", Cond.lays "TrustedMachine$Vault" "TrustedMachine$Vault" "found" "I", Cond.lays "TrustedMachine$Vault" "TrustedMachine$Vault" "room" "Z", Cond.lays "TrustedMachine$Notes" "TrustedMachine$Notes" "count" "I", Cond.laysFinal "TrustedMachine$Notes" "TrustedMachine$Notes" "names" "[[B", Cond.laysFinal "TrustedMachine$Notes" "TrustedMachine$Notes" "lengths" "[I", Cond.laysFinal "TrustedMachine$Notes" "TrustedMachine$Notes" "sizes" "[I", Cond.laysFinal "TrustedMachine$Notes" "TrustedMachine$Notes" "bytes" "[[B", Cond.laysFinal "TrustedMachine$Applet" "TrustedMachine$Applet" "number" "I", Cond.laysFinal "TrustedMachine$Applet" "TrustedMachine$Applet" "memory" "LTrustedMachine$Memory;", Cond.laysFinal "TrustedMachine$Applet" "TrustedMachine$Applet" "digest" "[B", Cond.lays "TrustedMachine$Applet" "TrustedMachine$Applet" "rights" "I", Cond.lays "TrustedMachine$Applet" "TrustedMachine$Applet" "product" "I", Cond.lays "TrustedMachine$Applet" "TrustedMachine$Applet" "version" "I", Cond.lays "TrustedMachine$Applet" "TrustedMachine$Applet" "in" "Z", Cond.laysFinal "TrustedMachine$Applet" "TrustedMachine$Applet" "pages" "[I", Cond.lays "TrustedMachine$Applet" "TrustedMachine$Applet" "pageCount" "I", Cond.laysFinal "TrustedMachine$Applet" "TrustedMachine$Applet" "code" "[B", Cond.lays "TrustedMachine$Applet" "TrustedMachine$Applet" "codeLength" "I", Cond.laysFinal "TrustedMachine$Applet" "TrustedMachine$Applet" "beginnings" "[I", Cond.lays "TrustedMachine$Applet" "TrustedMachine$Applet" "commands" "I", Cond.lays "TrustedMachine$Applet" "TrustedMachine$Applet" "session" "I", Cond.laysFinal "TrustedMachine$Applet" "TrustedMachine$Applet" "stack" "[I", Cond.lays "TrustedMachine$Applet" "TrustedMachine$Applet" "depth" "I", Cond.laysFinal "TrustedMachine$Applet" "TrustedMachine$Applet" "returns" "[I", Cond.lays "TrustedMachine$Applet" "TrustedMachine$Applet" "returnCount" "I", Cond.lays "TrustedMachine$Applet" "TrustedMachine$Applet" "place" "I", Cond.laysFinal "TrustedMachine$Applet" "TrustedMachine$Applet" "notes" "LTrustedMachine$Notes;", Cond.laysFinal "TrustedMachine$Session" "TrustedMachine$Session" "number" "I", Cond.laysFinal "TrustedMachine$Session" "TrustedMachine$Session" "applets" "[LTrustedMachine$Applet;", Cond.lays "TrustedMachine$Session" "TrustedMachine$Session" "open" "Z", Cond.lays "TrustedMachine$Session" "TrustedMachine$Session" "owner" "I", Cond.lays "TrustedMachine$Session" "TrustedMachine$Session" "cancelled" "Z", Cond.laysFinal "TrustedMachine$Session" "TrustedMachine$Session" "chain" "[I", Cond.lays "TrustedMachine$Session" "TrustedMachine$Session" "running" "I", Cond.lays "TrustedMachine$Session" "TrustedMachine$Session" "steps" "I", Cond.lays "TrustedMachine$Session" "TrustedMachine$Session" "keeper" "I", Cond.lays "TrustedMachine$Session" "TrustedMachine$Session" "told" "I", Cond.laysFinal "TrustedMachine$Session" "TrustedMachine$Session" "sorts" "[I", Cond.laysFinal "TrustedMachine$Session" "TrustedMachine$Session" "firsts" "[I", Cond.laysFinal "TrustedMachine$Session" "TrustedMachine$Session" "seconds" "[I", Cond.laysFinal "TrustedMachine$Session" "TrustedMachine$Session" "bytes" "[[B", Cond.laysFinal "TrustedMachine$Curve" "TrustedMachine$Curve" "t" "[[J", Cond.laysFinal "TrustedMachine$Curve" "TrustedMachine$Curve" "powers" "[[J", Cond.laysFinal "TrustedMachine$Curve" "TrustedMachine$Curve" "table" "[[J", Cond.laysFinal "TrustedMachine$Curve" "TrustedMachine$Curve" "entry" "[[J", Cond.laysFinal "TrustedMachine$Curve" "TrustedMachine$Curve" "ladder" "[[J", Cond.laysFinal "TrustedMachine$Curve" "TrustedMachine$Curve" "number" "[B", Cond.laysFinal "TrustedMachine$Signer" "TrustedMachine$Signer" "curve" "LTrustedMachine$Curve;"]
def ct_g5 : List Cond := [Cond.laysFinal "TrustedMachine$Signer" "TrustedMachine$Signer" "open" "[B", Cond.laysFinal "TrustedMachine$Signer" "TrustedMachine$Signer" "signature" "[B", Cond.laysFinal "TrustedMachine$Signer" "TrustedMachine$Signer" "sha" "LTrustedMachine$Sha256;", Cond.laysFinal "TrustedMachine$Signer" "TrustedMachine$Signer" "key" "[B", Cond.lays "TrustedMachine$Signer" "TrustedMachine$Signer" "prepared" "Z", Cond.laysFinal "TrustedMachine$Signer" "TrustedMachine$Signer" "secret" "[B", Cond.laysFinal "TrustedMachine$Signer" "TrustedMachine$Signer" "hash" "[B", Cond.laysFinal "TrustedMachine$Signer" "TrustedMachine$Signer" "text" "[B", Cond.laysFinal "TrustedMachine$Signer" "TrustedMachine$Signer" "tail" "[B", Cond.laysFinal "TrustedMachine$Signer" "TrustedMachine$Signer" "state" "[J", Cond.laysFinal "TrustedMachine$Signer" "TrustedMachine$Signer" "words" "[J", Cond.laysFinal "TrustedMachine$Signer" "TrustedMachine$Signer" "digits" "[J", Cond.laysFinal "TrustedMachine$Signer" "TrustedMachine$Signer" "scalar" "[B", Cond.laysFinal "TrustedMachine$Signer" "TrustedMachine$Signer" "point" "[[J", Cond.laysFinal "TrustedMachine$Signer" "TrustedMachine$Signer" "other" "[[J", Cond.laysFinal "TrustedMachine$Codes" "TrustedMachine$Codes" "applets" "[LTrustedMachine$Applet;", Cond.laysFinal "TrustedMachine$Codes" "TrustedMachine$Codes" "sha" "LTrustedMachine$Sha256;", Cond.laysFinal "TrustedMachine$Codes" "TrustedMachine$Codes" "cipher" "LTrustedMachine$Cipher;", Cond.laysFinal "TrustedMachine$Codes" "TrustedMachine$Codes" "vault" "LTrustedMachine$Vault;", Cond.laysFinal "TrustedMachine$Codes" "TrustedMachine$Codes" "signer" "LTrustedMachine$Signer;", Cond.laysFinal "TrustedMachine$Codes" "TrustedMachine$Codes" "single" "LTrustedMachine$Notes;", Cond.laysFinal "TrustedMachine$Codes" "TrustedMachine$Codes" "name" "[B", Cond.laysFinal "TrustedMachine$Codes" "TrustedMachine$Codes" "work" "[B", Cond.laysFinal "TrustedMachine$Codes" "TrustedMachine$Codes" "small" "[B", Cond.lays "TrustedMachine$Codes" "TrustedMachine$Codes" "session" "LTrustedMachine$Session;", Cond.lays "TrustedMachine$Codes" "TrustedMachine$Codes" "me" "LTrustedMachine$Applet;", Cond.lays "TrustedMachine$Codes" "TrustedMachine$Codes" "number" "I", Cond.lays "TrustedMachine$Codes" "TrustedMachine$Codes" "operand" "I", Cond.lays "TrustedMachine$Codes" "TrustedMachine$Codes" "base" "I", Cond.lays "TrustedMachine$Codes" "TrustedMachine$Codes" "told" "I", Cond.lays "TrustedMachine$Codes" "TrustedMachine$Codes" "makes" "I", Cond.laysFinal "TrustedMachine$Monitor" "TrustedMachine$Monitor" "memory" "LTrustedMachine$Memory;", Cond.laysFinal "TrustedMachine$Monitor" "TrustedMachine$Monitor" "applets" "[LTrustedMachine$Applet;", Cond.laysFinal "TrustedMachine$Monitor" "TrustedMachine$Monitor" "sha" "LTrustedMachine$Sha256;", Cond.laysFinal "TrustedMachine$Monitor" "TrustedMachine$Monitor" "vault" "LTrustedMachine$Vault;", Cond.laysFinal "TrustedMachine$Monitor" "TrustedMachine$Monitor" "codes" "LTrustedMachine$Codes;", Cond.laysFinal "TrustedMachine$Monitor" "TrustedMachine$Monitor" "signer" "LTrustedMachine$Signer;", Cond.laysFinal "TrustedMachine$Monitor" "TrustedMachine$Monitor" "sessions" "[LTrustedMachine$Session;", Cond.laysFinal "TrustedMachine$Monitor" "TrustedMachine$Monitor" "results" "[I", Cond.laysFinal "TrustedMachine$Monitor" "TrustedMachine$Monitor" "buffer" "[B", Cond.lays "TrustedMachine$Monitor" "TrustedMachine$Monitor" "running" "LTrustedMachine$Session;", Cond.lays "TrustedMachine$Monitor" "TrustedMachine$Monitor" "slice" "I"]
def ct_gs : List Cond := ct_g0 ++ (ct_g1 ++ (ct_g2 ++ (ct_g3 ++ (ct_g4 ++ (ct_g5)))))
theorem ct_good : ∀ w ∈ ct_gs, (w.onTables && w.keeps) = true ∨ ∃ ty, w = .arrayClass ty := fun w hw => good_of_word (List.all_eq_true.mp (show ct_gs.all goodWord = true by decide +kernel) w hw)
theorem ct_s0 : (∀ w ∈ u_ws "TrustedMachine" ct_T0 13, w ∈ ct_gs) ∧ ct_cl[0]? = some ("TrustedMachine", ct_T0, 13) ∧ (∀ k, k < 13 → parseFieldDescriptor (ct_T0 k).2.2.1 = some (ct_y0 k)) ∧ (∀ a, a < 13 → ∀ b, b < 13 → a ≠ b → (ct_T0 a).2.1 ≠ (ct_T0 b).2.1) ∧ Cond.instantiable "TrustedMachine" 13 ∈ ct_gs ∧ Cond.initialized "TrustedMachine" ∈ ct_gs ∧ (∀ j, j < 13 → defaultValue (ct_y0 j) = vp_V (ct_d0.map ev_dv) j) ∧ (∀ v ∈ ct_d0, v = (0, 2147483648, 2147483648) ∨ v = (3, 0, 0) ∨ v = (1, 0, 0)) := ⟨by decide +kernel, rfl, by decide +kernel, by decide +kernel, by decide +kernel, by decide +kernel, by decide +kernel, by decide +kernel⟩
theorem ct_s1 : (∀ w ∈ u_ws "TrustedMachine$Memory" ct_T1 2, w ∈ ct_gs) ∧ ct_cl[1]? = some ("TrustedMachine$Memory", ct_T1, 2) ∧ (∀ k, k < 2 → parseFieldDescriptor (ct_T1 k).2.2.1 = some (ct_y1 k)) ∧ (∀ a, a < 2 → ∀ b, b < 2 → a ≠ b → (ct_T1 a).2.1 ≠ (ct_T1 b).2.1) ∧ Cond.instantiable "TrustedMachine$Memory" 2 ∈ ct_gs ∧ Cond.initialized "TrustedMachine$Memory" ∈ ct_gs ∧ (∀ j, j < 2 → defaultValue (ct_y1 j) = vp_V (ct_d1.map ev_dv) j) ∧ (∀ v ∈ ct_d1, v = (0, 2147483648, 2147483648) ∨ v = (3, 0, 0) ∨ v = (1, 0, 0)) := ⟨by decide +kernel, rfl, by decide +kernel, by decide +kernel, by decide +kernel, by decide +kernel, by decide +kernel, by decide +kernel⟩
theorem ct_s2 : (∀ w ∈ u_ws "TrustedMachine$Sha256" ct_T2 5, w ∈ ct_gs) ∧ ct_cl[2]? = some ("TrustedMachine$Sha256", ct_T2, 5) ∧ (∀ k, k < 5 → parseFieldDescriptor (ct_T2 k).2.2.1 = some (ct_y2 k)) ∧ (∀ a, a < 5 → ∀ b, b < 5 → a ≠ b → (ct_T2 a).2.1 ≠ (ct_T2 b).2.1) ∧ Cond.instantiable "TrustedMachine$Sha256" 5 ∈ ct_gs ∧ Cond.initialized "TrustedMachine$Sha256" ∈ ct_gs ∧ (∀ j, j < 5 → defaultValue (ct_y2 j) = vp_V (ct_d2.map ev_dv) j) ∧ (∀ v ∈ ct_d2, v = (0, 2147483648, 2147483648) ∨ v = (3, 0, 0) ∨ v = (1, 0, 0)) := ⟨by decide +kernel, rfl, by decide +kernel, by decide +kernel, by decide +kernel, by decide +kernel, by decide +kernel, by decide +kernel⟩
theorem ct_s3 : (∀ w ∈ u_ws "TrustedMachine$Cipher" ct_T3 9, w ∈ ct_gs) ∧ ct_cl[3]? = some ("TrustedMachine$Cipher", ct_T3, 9) ∧ (∀ k, k < 9 → parseFieldDescriptor (ct_T3 k).2.2.1 = some (ct_y3 k)) ∧ (∀ a, a < 9 → ∀ b, b < 9 → a ≠ b → (ct_T3 a).2.1 ≠ (ct_T3 b).2.1) ∧ Cond.instantiable "TrustedMachine$Cipher" 9 ∈ ct_gs ∧ Cond.initialized "TrustedMachine$Cipher" ∈ ct_gs ∧ (∀ j, j < 9 → defaultValue (ct_y3 j) = vp_V (ct_d3.map ev_dv) j) ∧ (∀ v ∈ ct_d3, v = (0, 2147483648, 2147483648) ∨ v = (3, 0, 0) ∨ v = (1, 0, 0)) := ⟨by decide +kernel, rfl, by decide +kernel, by decide +kernel, by decide +kernel, by decide +kernel, by decide +kernel, by decide +kernel⟩
theorem ct_s4 : (∀ w ∈ u_ws "TrustedMachine$Vault" ct_T4 20, w ∈ ct_gs) ∧ ct_cl[4]? = some ("TrustedMachine$Vault", ct_T4, 20) ∧ (∀ k, k < 20 → parseFieldDescriptor (ct_T4 k).2.2.1 = some (ct_y4 k)) ∧ (∀ a, a < 20 → ∀ b, b < 20 → a ≠ b → (ct_T4 a).2.1 ≠ (ct_T4 b).2.1) ∧ Cond.instantiable "TrustedMachine$Vault" 20 ∈ ct_gs ∧ Cond.initialized "TrustedMachine$Vault" ∈ ct_gs ∧ (∀ j, j < 20 → defaultValue (ct_y4 j) = vp_V (ct_d4.map ev_dv) j) ∧ (∀ v ∈ ct_d4, v = (0, 2147483648, 2147483648) ∨ v = (3, 0, 0) ∨ v = (1, 0, 0)) := ⟨by decide +kernel, rfl, by decide +kernel, by decide +kernel, by decide +kernel, by decide +kernel, by decide +kernel, by decide +kernel⟩
theorem ct_s5 : (∀ w ∈ u_ws "TrustedMachine$Notes" ct_T5 5, w ∈ ct_gs) ∧ ct_cl[5]? = some ("TrustedMachine$Notes", ct_T5, 5) ∧ (∀ k, k < 5 → parseFieldDescriptor (ct_T5 k).2.2.1 = some (ct_y5 k)) ∧ (∀ a, a < 5 → ∀ b, b < 5 → a ≠ b → (ct_T5 a).2.1 ≠ (ct_T5 b).2.1) ∧ Cond.instantiable "TrustedMachine$Notes" 5 ∈ ct_gs ∧ Cond.initialized "TrustedMachine$Notes" ∈ ct_gs ∧ (∀ j, j < 5 → defaultValue (ct_y5 j) = vp_V (ct_d5.map ev_dv) j) ∧ (∀ v ∈ ct_d5, v = (0, 2147483648, 2147483648) ∨ v = (3, 0, 0) ∨ v = (1, 0, 0)) := ⟨by decide +kernel, rfl, by decide +kernel, by decide +kernel, by decide +kernel, by decide +kernel, by decide +kernel, by decide +kernel⟩
theorem ct_s6 : (∀ w ∈ u_ws "TrustedMachine$Applet" ct_T6 20, w ∈ ct_gs) ∧ ct_cl[6]? = some ("TrustedMachine$Applet", ct_T6, 20) ∧ (∀ k, k < 20 → parseFieldDescriptor (ct_T6 k).2.2.1 = some (ct_y6 k)) ∧ (∀ a, a < 20 → ∀ b, b < 20 → a ≠ b → (ct_T6 a).2.1 ≠ (ct_T6 b).2.1) ∧ Cond.instantiable "TrustedMachine$Applet" 20 ∈ ct_gs ∧ Cond.initialized "TrustedMachine$Applet" ∈ ct_gs ∧ (∀ j, j < 20 → defaultValue (ct_y6 j) = vp_V (ct_d6.map ev_dv) j) ∧ (∀ v ∈ ct_d6, v = (0, 2147483648, 2147483648) ∨ v = (3, 0, 0) ∨ v = (1, 0, 0)) := ⟨by decide +kernel, rfl, by decide +kernel, by decide +kernel, by decide +kernel, by decide +kernel, by decide +kernel, by decide +kernel⟩
theorem ct_s7 : (∀ w ∈ u_ws "TrustedMachine$Session" ct_T7 14, w ∈ ct_gs) ∧ ct_cl[7]? = some ("TrustedMachine$Session", ct_T7, 14) ∧ (∀ k, k < 14 → parseFieldDescriptor (ct_T7 k).2.2.1 = some (ct_y7 k)) ∧ (∀ a, a < 14 → ∀ b, b < 14 → a ≠ b → (ct_T7 a).2.1 ≠ (ct_T7 b).2.1) ∧ Cond.instantiable "TrustedMachine$Session" 14 ∈ ct_gs ∧ Cond.initialized "TrustedMachine$Session" ∈ ct_gs ∧ (∀ j, j < 14 → defaultValue (ct_y7 j) = vp_V (ct_d7.map ev_dv) j) ∧ (∀ v ∈ ct_d7, v = (0, 2147483648, 2147483648) ∨ v = (3, 0, 0) ∨ v = (1, 0, 0)) := ⟨by decide +kernel, rfl, by decide +kernel, by decide +kernel, by decide +kernel, by decide +kernel, by decide +kernel, by decide +kernel⟩
theorem ct_s8 : (∀ w ∈ u_ws "TrustedMachine$Curve" ct_T8 6, w ∈ ct_gs) ∧ ct_cl[8]? = some ("TrustedMachine$Curve", ct_T8, 6) ∧ (∀ k, k < 6 → parseFieldDescriptor (ct_T8 k).2.2.1 = some (ct_y8 k)) ∧ (∀ a, a < 6 → ∀ b, b < 6 → a ≠ b → (ct_T8 a).2.1 ≠ (ct_T8 b).2.1) ∧ Cond.instantiable "TrustedMachine$Curve" 6 ∈ ct_gs ∧ Cond.initialized "TrustedMachine$Curve" ∈ ct_gs ∧ (∀ j, j < 6 → defaultValue (ct_y8 j) = vp_V (ct_d8.map ev_dv) j) ∧ (∀ v ∈ ct_d8, v = (0, 2147483648, 2147483648) ∨ v = (3, 0, 0) ∨ v = (1, 0, 0)) := ⟨by decide +kernel, rfl, by decide +kernel, by decide +kernel, by decide +kernel, by decide +kernel, by decide +kernel, by decide +kernel⟩
theorem ct_s9 : (∀ w ∈ u_ws "TrustedMachine$Signer" ct_T9 16, w ∈ ct_gs) ∧ ct_cl[9]? = some ("TrustedMachine$Signer", ct_T9, 16) ∧ (∀ k, k < 16 → parseFieldDescriptor (ct_T9 k).2.2.1 = some (ct_y9 k)) ∧ (∀ a, a < 16 → ∀ b, b < 16 → a ≠ b → (ct_T9 a).2.1 ≠ (ct_T9 b).2.1) ∧ Cond.instantiable "TrustedMachine$Signer" 16 ∈ ct_gs ∧ Cond.initialized "TrustedMachine$Signer" ∈ ct_gs ∧ (∀ j, j < 16 → defaultValue (ct_y9 j) = vp_V (ct_d9.map ev_dv) j) ∧ (∀ v ∈ ct_d9, v = (0, 2147483648, 2147483648) ∨ v = (3, 0, 0) ∨ v = (1, 0, 0)) := ⟨by decide +kernel, rfl, by decide +kernel, by decide +kernel, by decide +kernel, by decide +kernel, by decide +kernel, by decide +kernel⟩
theorem ct_s10 : (∀ w ∈ u_ws "TrustedMachine$Codes" ct_T10 16, w ∈ ct_gs) ∧ ct_cl[10]? = some ("TrustedMachine$Codes", ct_T10, 16) ∧ (∀ k, k < 16 → parseFieldDescriptor (ct_T10 k).2.2.1 = some (ct_y10 k)) ∧ (∀ a, a < 16 → ∀ b, b < 16 → a ≠ b → (ct_T10 a).2.1 ≠ (ct_T10 b).2.1) ∧ Cond.instantiable "TrustedMachine$Codes" 16 ∈ ct_gs ∧ Cond.initialized "TrustedMachine$Codes" ∈ ct_gs ∧ (∀ j, j < 16 → defaultValue (ct_y10 j) = vp_V (ct_d10.map ev_dv) j) ∧ (∀ v ∈ ct_d10, v = (0, 2147483648, 2147483648) ∨ v = (3, 0, 0) ∨ v = (1, 0, 0)) := ⟨by decide +kernel, rfl, by decide +kernel, by decide +kernel, by decide +kernel, by decide +kernel, by decide +kernel, by decide +kernel⟩
theorem ct_s11 : (∀ w ∈ u_ws "TrustedMachine$Monitor" ct_T11 11, w ∈ ct_gs) ∧ ct_cl[11]? = some ("TrustedMachine$Monitor", ct_T11, 11) ∧ (∀ k, k < 11 → parseFieldDescriptor (ct_T11 k).2.2.1 = some (ct_y11 k)) ∧ (∀ a, a < 11 → ∀ b, b < 11 → a ≠ b → (ct_T11 a).2.1 ≠ (ct_T11 b).2.1) ∧ Cond.instantiable "TrustedMachine$Monitor" 11 ∈ ct_gs ∧ Cond.initialized "TrustedMachine$Monitor" ∈ ct_gs ∧ (∀ j, j < 11 → defaultValue (ct_y11 j) = vp_V (ct_d11.map ev_dv) j) ∧ (∀ v ∈ ct_d11, v = (0, 2147483648, 2147483648) ∨ v = (3, 0, 0) ∨ v = (1, 0, 0)) := ⟨by decide +kernel, rfl, by decide +kernel, by decide +kernel, by decide +kernel, by decide +kernel, by decide +kernel, by decide +kernel⟩
theorem ct_ok : ev_okC ct_gs ct_cl ct_all := by
  intro k q hq
  match k, hq with
  | 0, hq => obtain rfl := Option.some.inj hq; exact ct_s0
  | 1, hq => obtain rfl := Option.some.inj hq; exact ct_s1
  | 2, hq => obtain rfl := Option.some.inj hq; exact ct_s2
  | 3, hq => obtain rfl := Option.some.inj hq; exact ct_s3
  | 4, hq => obtain rfl := Option.some.inj hq; exact ct_s4
  | 5, hq => obtain rfl := Option.some.inj hq; exact ct_s5
  | 6, hq => obtain rfl := Option.some.inj hq; exact ct_s6
  | 7, hq => obtain rfl := Option.some.inj hq; exact ct_s7
  | 8, hq => obtain rfl := Option.some.inj hq; exact ct_s8
  | 9, hq => obtain rfl := Option.some.inj hq; exact ct_s9
  | 10, hq => obtain rfl := Option.some.inj hq; exact ct_s10
  | 11, hq => obtain rfl := Option.some.inj hq; exact ct_s11
  | k + 12, hq => simp [ct_all] at hq
def ev_okM (Gs : List Cond) (Ct : List ev_Ct) (kt : List FieldType) (Pg : List ev_Mt) (sm : ev_Sm) (y : MethodName) (bytes : ByteArray) (maxL : Nat) (rt : Option FieldType) (cd : ev_Cd) : Bool := (List.range cd.length).all (fun ix => match cd[ix]? with
  | some i => ev_ok Gs Ct kt Pg sm y.cls y.name bytes maxL rt cd ix i
  | none => true)
theorem ev_okM_r {Gs : List Cond} {Ct : List ev_Ct} {kt : List FieldType} {Pg : List ev_Mt} {sm : ev_Sm} {y : MethodName} {bytes : ByteArray} {maxL : Nat} {rt : Option FieldType} {cd : ev_Cd} (h : ev_okM Gs Ct kt Pg sm y bytes maxL rt cd = true) (ix : Nat) (i : ev_I) (hi : cd[ix]? = some i) : ev_ok Gs Ct kt Pg sm y.cls y.name bytes maxL rt cd ix i = true := by
  have h1 := List.all_eq_true.mp h ix (List.mem_range.mpr (List.getElem?_eq_some_iff.mp hi).1)
  rw [hi] at h1
  exact h1
theorem ct_m0 : ev_okM ct_gs ct_all ct_kt ct_pg [] ⟨"TrustedMachine", "<init>", "()V"⟩ prog_1_method_1_code 2 none ct_c0 = true := by decide +kernel
theorem ct_m1 : ev_okM ct_gs ct_all ct_kt ct_pg [] ⟨"TrustedMachine$Memory", "<init>", "()V"⟩ prog_6_method_1_code 1 none ct_c1 = true := by decide +kernel
theorem ct_m2 : ev_okM ct_gs ct_all ct_kt ct_pg [] ⟨"TrustedMachine$Sha256", "<init>", "()V"⟩ prog_10_method_1_code 1 none ct_c2 = true := by decide +kernel
theorem ct_m3 : ev_okM ct_gs ct_all ct_kt ct_pg [] ⟨"TrustedMachine$Cipher", "<init>", "()V"⟩ prog_3_method_1_code 1 none ct_c3 = true := by decide +kernel
theorem ct_m4 : ev_okM ct_gs ct_all ct_kt ct_pg [] ⟨"TrustedMachine$Vault", "<init>", "(LTrustedMachine$Sha256;LTrustedMachine$Cipher;)V"⟩ prog_12_method_1_code 3 none ct_c4 = true := by decide +kernel
theorem ct_m5 : ev_okM ct_gs ct_all ct_kt ct_pg [] ⟨"TrustedMachine$Notes", "<init>", "()V"⟩ prog_8_method_1_code 1 none ct_c5 = true := by decide +kernel
theorem ct_m6 : ev_okM ct_gs ct_all ct_kt ct_pg [] ⟨"TrustedMachine$Applet", "<init>", "(ILTrustedMachine$Memory;)V"⟩ prog_2_method_1_code 3 none ct_c6 = true := by decide +kernel
theorem ct_m7 : ev_okM ct_gs ct_all ct_kt ct_pg [] ⟨"TrustedMachine$Session", "<init>", "(I[LTrustedMachine$Applet;)V"⟩ prog_9_method_1_code 3 none ct_c7 = true := by decide +kernel
theorem ct_m8 : ev_okM ct_gs ct_all ct_kt ct_pg [] ⟨"TrustedMachine$Curve", "<init>", "()V"⟩ prog_5_method_1_code 1 none ct_c8 = true := by decide +kernel
theorem ct_m9 : ev_okM ct_gs ct_all ct_kt ct_pg [] ⟨"TrustedMachine$Signer", "<init>", "(LTrustedMachine$Sha256;[B)V"⟩ prog_11_method_1_code 3 none ct_c9 = true := by decide +kernel
theorem ct_m10 : ev_okM ct_gs ct_all ct_kt ct_pg [] ⟨"TrustedMachine$Codes", "<init>", "([LTrustedMachine$Applet;LTrustedMachine$Sha256;LTrustedMachine$Cipher;LTrustedMachine$Vault;LTrustedMachine$Signer;)V"⟩ prog_4_method_1_code 6 none ct_c10 = true := by decide +kernel
theorem ct_m11 : ev_okM ct_gs ct_all ct_kt ct_pg [] ⟨"TrustedMachine$Monitor", "<init>", "(LTrustedMachine$Memory;[LTrustedMachine$Applet;LTrustedMachine$Sha256;LTrustedMachine$Vault;LTrustedMachine$Signer;LTrustedMachine$Codes;)V"⟩ prog_7_method_1_code 8 none ct_c11 = true := by decide +kernel
theorem ct_pok (sm : ev_Sm) : ev_okP ct_gs ct_all ct_kt ct_pg sm := by
  intro k y bytes maxL rt cd hk
  match k, hk with
  | 0, hk => cases Option.some.inj hk; exact ⟨by decide +kernel, rfl, ev_okM_r ct_m0⟩
  | 1, hk => cases Option.some.inj hk; exact ⟨by decide +kernel, rfl, ev_okM_r ct_m1⟩
  | 2, hk => cases Option.some.inj hk; exact ⟨by decide +kernel, rfl, ev_okM_r ct_m2⟩
  | 3, hk => cases Option.some.inj hk; exact ⟨by decide +kernel, rfl, ev_okM_r ct_m3⟩
  | 4, hk => cases Option.some.inj hk; exact ⟨by decide +kernel, rfl, ev_okM_r ct_m4⟩
  | 5, hk => cases Option.some.inj hk; exact ⟨by decide +kernel, rfl, ev_okM_r ct_m5⟩
  | 6, hk => cases Option.some.inj hk; exact ⟨by decide +kernel, rfl, ev_okM_r ct_m6⟩
  | 7, hk => cases Option.some.inj hk; exact ⟨by decide +kernel, rfl, ev_okM_r ct_m7⟩
  | 8, hk => cases Option.some.inj hk; exact ⟨by decide +kernel, rfl, ev_okM_r ct_m8⟩
  | 9, hk => cases Option.some.inj hk; exact ⟨by decide +kernel, rfl, ev_okM_r ct_m9⟩
  | 10, hk => cases Option.some.inj hk; exact ⟨by decide +kernel, rfl, ev_okM_r ct_m10⟩
  | 11, hk => cases Option.some.inj hk; exact ⟨by decide +kernel, rfl, ev_okM_r ct_m11⟩
  | k + 12, hk => simp [ct_pg] at hk
