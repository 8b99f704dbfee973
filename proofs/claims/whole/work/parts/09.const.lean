/-- how many constant cells there are: 39 words, their 39 texts, 9 messages, Word.ALL, the switch table -/
def ax_nC : Nat := 89
